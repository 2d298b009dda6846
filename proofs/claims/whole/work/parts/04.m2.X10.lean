set_option maxRecDepth 20000 in
theorem g166_55 {d : Nat} {a0 a1 a2 : Option Value} {x : Int32} {lay : List mShp} {M : mMem} {P : mPost} : mG (d) 166 55 [a0, a1, a2, some (.int x)] [] lay M P = mG d 166 56 [a0, a1, a2, some (.int x)] [.int x] lay M P := e_iload_n (i := 3) rfl rfl rfl
set_option maxRecDepth 20000 in
theorem g166_56 {d : Nat} {a0 a1 a2 a3 : Option Value} {s0 : Int32} {lay : List mShp} {M : mMem} {P : mPost} : mG (d) 166 56 [a0, a1, a2, a3] [.int s0] lay M P = if s0 = 0 then mG d 166 59 [a0, a1, a2, a3] [] lay M P else mG d 166 63 [a0, a1, a2, a3] [] lay M P := e_if_ne rfl rfl
set_option maxRecDepth 20000 in
theorem g166_59 {d : Nat} {a0 a1 a2 a3 : Option Value} {lay : List mShp} {M : mMem} {P : mPost} : mG (d) 166 59 [a0, a1, a2, a3] [] lay M P = mG d 166 60 [a0, a1, a2, a3] [.int (Int32.ofInt 1)] lay M P := e_iconst rfl
set_option maxRecDepth 20000 in
theorem g166_60 {d : Nat} {a0 a1 a2 a3 : Option Value} {s0 : Int32} {lay : List mShp} {M : mMem} {P : mPost} : mG (d) 166 60 [a0, a1, a2, a3] [.int s0] lay M P = mG d 166 69 [a0, a1, a2, a3] [.int s0] lay M P := e_goto rfl rfl
set_option maxRecDepth 20000 in
theorem g166_63 {d : Nat} {a0 a1 a2 a3 : Option Value} {lay : List mShp} {M : mMem} {P : mPost} : mG (d) 166 63 [a0, a1, a2, a3] [] lay M P = mG d 166 64 [a0, a1, a2, a3] [.int (Int32.ofInt 0)] lay M P := e_iconst rfl
set_option maxRecDepth 20000 in
theorem g166_64 {d : Nat} {a0 a1 a2 a3 : Option Value} {s0 : Int32} {lay : List mShp} {M : mMem} {P : mPost} : mG (d) 166 64 [a0, a1, a2, a3] [.int s0] lay M P = mG d 166 69 [a0, a1, a2, a3] [.int s0] lay M P := e_goto rfl rfl
set_option maxRecDepth 20000 in
theorem g166_67 {d : Nat} {a0 a1 a2 : Option Value} {x : Int32} {lay : List mShp} {M : mMem} {P : mPost} : mG (d) 166 67 [a0, a1, a2, some (.int x)] [] lay M P = mG d 166 68 [a0, a1, a2, some (.int x)] [.int x] lay M P := e_iload_n (i := 3) rfl rfl rfl
set_option maxRecDepth 20000 in
theorem g166_68 {d : Nat} {a0 a1 a2 a3 : Option Value} {s0 : Int32} {lay : List mShp} {M : mMem} {P : mPost} : mG (d) 166 68 [a0, a1, a2, a3] [.int s0] lay M P = mG d 166 69 [a0, a1, a2, a3] [.int (-s0)] lay M P := e_ineg rfl
set_option maxRecDepth 20000 in
theorem g166_69 {d : Nat} {a0 a1 a2 a3 : Option Value} {s0 : Int32} {lay : List mShp} {M : mMem} {P : mPost} (h0 : mNoL a0 = true) : mG (d) 166 69 [a0, a1, a2, a3] [.int s0] lay M P = mG d 166 70 [a0, some (.int s0), a2, a3] [] lay M P := e_istore_n (i := 1) rfl rfl (by simp) (mS1_1 h0)
set_option maxRecDepth 20000 in
theorem g166_70 {d : Nat} {a1 a2 a3 : Option Value} {x : Nat} {lay : List mShp} {M : mMem} {P : mPost} (hx : ¬ x = 0) : mG (d) 166 70 [some (.ref x), a1, a2, a3] [] lay M P = mG d 166 71 [some (.ref x), a1, a2, a3] [.ref x] lay M P := e_aload_nP hx (i := 0) rfl rfl rfl
set_option maxRecDepth 20000 in
theorem g166_71 {d : Nat} {a0 a1 a2 a3 : Option Value} {s0 : Nat} {lay : List mShp} {M : mMem} {P : mPost} : mG (d) 166 71 [a0, a1, a2, a3] [.ref s0] lay M P = mG d 166 72 [a0, a1, a2, a3] [.ref s0, .ref s0] lay M P := e_dupr rfl
set_option maxRecDepth 20000 in
theorem g166_72 {d : Nat} {a0 a1 a2 a3 : Option Value} {s0 : Nat} {s1 : Nat} {lay : List mShp} {M : mMem} {P : mPost} (hs : mSh lay s0 = some (13, 44)) : mG (d) 166 72 [a0, a1, a2, a3] [.ref s0, .ref s1] lay M P = mG d 166 75 [a0, a1, a2, a3] [.int (M.1 s0 17), .ref s1] lay M P := mG_of_and (mIsO_of hs (by decide)) (e_getI (ci := 10) (j := 17) rfl rfl rfl)
set_option maxRecDepth 20000 in
theorem g166_75 {d : Nat} {a0 a1 a2 a3 : Option Value} {s0 : Int32} {s1 : Nat} {lay : List mShp} {M : mMem} {P : mPost} : mG (d) 166 75 [a0, a1, a2, a3] [.int s0, .ref s1] lay M P = mG d 166 76 [a0, a1, a2, a3] [.int (Int32.ofInt 1), .int s0, .ref s1] lay M P := e_iconst rfl
set_option maxRecDepth 20000 in
theorem g166_76 {d : Nat} {a0 a1 a2 a3 : Option Value} {s0 : Int32} {s1 : Int32} {s2 : Nat} {lay : List mShp} {M : mMem} {P : mPost} : mG (d) 166 76 [a0, a1, a2, a3] [.int s0, .int s1, .ref s2] lay M P = mG d 166 77 [a0, a1, a2, a3] [.int (s1 - s0), .ref s2] lay M P := e_isub rfl
set_option maxRecDepth 20000 in
theorem g166_77 {d : Nat} {a0 a1 a2 a3 : Option Value} {s0 : Int32} {s1 : Nat} {lay : List mShp} {M : mMem} {P : mPost} (hs : mSh lay s1 = some (13, 44)) : mG (d) 166 77 [a0, a1, a2, a3] [.int s0, .ref s1] lay M P = mG d 166 80 [a0, a1, a2, a3] [] lay (mSetI M s1 17 s0) P := mG_of_and (mIsO_of hs (by decide)) (e_putI (ci := 10) (j := 17) rfl rfl (Or.inl rfl) rfl)
set_option maxRecDepth 20000 in
theorem g166_80 {d : Nat} {a0 a2 a3 : Option Value} {x : Int32} {lay : List mShp} {M : mMem} {P : mPost} : mG (d) 166 80 [a0, some (.int x), a2, a3] [] lay M P = mG d 166 81 [a0, some (.int x), a2, a3] [.int x] lay M P := e_iload_n (i := 1) rfl rfl rfl
set_option maxRecDepth 20000 in
theorem g166_81 {d : Nat} {a0 a1 a2 a3 : Option Value} {s0 : Int32} {lay : List mShp} {M : mMem} {P : mPost} : mG (d) 166 81 [a0, a1, a2, a3] [.int s0] lay M P = P (some (.int s0)) lay M := e_ireturnI rfl rfl
set_option maxRecDepth 20000 in
theorem g166_82 {d : Nat} {a1 a2 a3 : Option Value} {x : Nat} {lay : List mShp} {M : mMem} {P : mPost} (hx : ¬ x = 0) : mG (d) 166 82 [some (.ref x), a1, a2, a3] [] lay M P = mG d 166 83 [some (.ref x), a1, a2, a3] [.ref x] lay M P := e_aload_nP hx (i := 0) rfl rfl rfl
set_option maxRecDepth 20000 in
theorem g166_83 {d : Nat} {a0 a1 a2 a3 : Option Value} {s0 : Nat} {lay : List mShp} {M : mMem} {P : mPost} : mG (d) 166 83 [a0, a1, a2, a3] [.ref s0] lay M P = mG d 166 85 [a0, a1, a2, a3] [.int (Int32.ofInt 40), .ref s0] lay M P := e_bipush rfl
set_option maxRecDepth 20000 in
theorem g166_85 {d : Nat} {a0 a1 a2 a3 : Option Value} {s0 : Int32} {s1 : Nat} {lay : List mShp} {M : mMem} {P : mPost} (hs : mSh lay s1 = some (13, 44)) : mG (d + 1) 166 85 [a0, a1, a2, a3] [.int s0, .ref s1] lay M P = mF d 162 [.ref s1, .int s0] lay M (fun v lay1 M1 => mG (d + 1) 166 88 [a0, a1, a2, a3] (v.toList ++ []) lay1 M1 P) := e_virtP1 (j := 162) (c := 10) rfl rfl rfl rfl rfl rfl hs (Nat.le_of_ble_eq_true rfl)
set_option maxRecDepth 20000 in
theorem g166_88 {d : Nat} {a0 a1 a2 a3 : Option Value} {s0 : Int32} {lay : List mShp} {M : mMem} {P : mPost} : mG (d) 166 88 [a0, a1, a2, a3] [.int s0] lay M P = if s0 = 0 then mG d 166 146 [a0, a1, a2, a3] [] lay M P else mG d 166 91 [a0, a1, a2, a3] [] lay M P := e_if_eq rfl rfl
set_option maxRecDepth 20000 in
theorem g166_91 {d : Nat} {a1 a2 a3 : Option Value} {x : Nat} {lay : List mShp} {M : mMem} {P : mPost} (hx : ¬ x = 0) : mG (d) 166 91 [some (.ref x), a1, a2, a3] [] lay M P = mG d 166 92 [some (.ref x), a1, a2, a3] [.ref x] lay M P := e_aload_nP hx (i := 0) rfl rfl rfl
set_option maxRecDepth 20000 in
theorem g166_92 {d : Nat} {a0 a1 a2 a3 : Option Value} {s0 : Nat} {lay : List mShp} {M : mMem} {P : mPost} (hs : mSh lay s0 = some (13, 44)) : mG (d + 1) 166 92 [a0, a1, a2, a3] [.ref s0] lay M P = mF d 165 [.ref s0] lay M (fun v lay1 M1 => mG (d + 1) 166 95 [a0, a1, a2, a3] (v.toList ++ []) lay1 M1 P) := e_virtP0 (j := 165) (c := 10) rfl rfl rfl rfl rfl rfl hs (Nat.le_of_ble_eq_true rfl)
set_option maxRecDepth 20000 in
theorem g166_95 {d : Nat} {a0 a1 a2 a3 : Option Value} {s0 : Int32} {lay : List mShp} {M : mMem} {P : mPost} : mG (d) 166 95 [a0, a1, a2, a3] [.int s0] lay M P = if s0 = 0 then mG d 166 144 [a0, a1, a2, a3] [] lay M P else mG d 166 98 [a0, a1, a2, a3] [] lay M P := e_if_eq rfl rfl
set_option maxRecDepth 20000 in
theorem g166_98 {d : Nat} {a1 a2 a3 : Option Value} {x : Nat} {lay : List mShp} {M : mMem} {P : mPost} (hx : ¬ x = 0) : mG (d) 166 98 [some (.ref x), a1, a2, a3] [] lay M P = mG d 166 99 [some (.ref x), a1, a2, a3] [.ref x] lay M P := e_aload_nP hx (i := 0) rfl rfl rfl
set_option maxRecDepth 20000 in
theorem g166_99 {d : Nat} {a0 a1 a2 a3 : Option Value} {s0 : Nat} {lay : List mShp} {M : mMem} {P : mPost} (hs : mSh lay s0 = some (13, 44)) : mG (d + 1) 166 99 [a0, a1, a2, a3] [.ref s0] lay M P = mF d 171 [.ref s0] lay M (fun v lay1 M1 => mG (d + 1) 166 102 [a0, a1, a2, a3] (v.toList ++ []) lay1 M1 P) := e_virtP0 (j := 171) (c := 10) rfl rfl rfl rfl rfl rfl hs (Nat.le_of_ble_eq_true rfl)
set_option maxRecDepth 20000 in
theorem g166_102 {d : Nat} {a0 a1 a2 a3 : Option Value} {s0 : Int32} {lay : List mShp} {M : mMem} {P : mPost} (h0 : mNoL a0 = true) : mG (d) 166 102 [a0, a1, a2, a3] [.int s0] lay M P = mG d 166 103 [a0, some (.int s0), a2, a3] [] lay M P := e_istore_n (i := 1) rfl rfl (by simp) (mS1_1 h0)
set_option maxRecDepth 20000 in
theorem g166_103 {d : Nat} {a1 a2 a3 : Option Value} {x : Nat} {lay : List mShp} {M : mMem} {P : mPost} (hx : ¬ x = 0) : mG (d) 166 103 [some (.ref x), a1, a2, a3] [] lay M P = mG d 166 104 [some (.ref x), a1, a2, a3] [.ref x] lay M P := e_aload_nP hx (i := 0) rfl rfl rfl
set_option maxRecDepth 20000 in
theorem g166_104 {d : Nat} {a1 a2 a3 : Option Value} {s0 : Nat} {x : Nat} {lay : List mShp} {M : mMem} {P : mPost} (hx : ¬ x = 0) : mG (d) 166 104 [some (.ref x), a1, a2, a3] [.ref s0] lay M P = mG d 166 105 [some (.ref x), a1, a2, a3] [.ref x, .ref s0] lay M P := e_aload_nP hx (i := 0) rfl rfl rfl
set_option maxRecDepth 20000 in
theorem g166_105 {d : Nat} {a0 a1 a2 a3 : Option Value} {s0 : Nat} {s1 : Nat} {lay : List mShp} {M : mMem} {P : mPost} : mG (d) 166 105 [a0, a1, a2, a3] [.ref s0, .ref s1] lay M P = mG d 166 107 [a0, a1, a2, a3] [.int (Int32.ofInt 41), .ref s0, .ref s1] lay M P := e_bipush rfl
set_option maxRecDepth 20000 in
theorem g166_107 {d : Nat} {a0 a1 a2 a3 : Option Value} {s0 : Int32} {s1 : Nat} {s2 : Nat} {lay : List mShp} {M : mMem} {P : mPost} (hs : mSh lay s1 = some (13, 44)) : mG (d + 1) 166 107 [a0, a1, a2, a3] [.int s0, .ref s1, .ref s2] lay M P = mF d 162 [.ref s1, .int s0] lay M (fun v lay1 M1 => mG (d + 1) 166 110 [a0, a1, a2, a3] (v.toList ++ [.ref s2]) lay1 M1 P) := e_virtP1 (j := 162) (c := 10) rfl rfl rfl rfl rfl rfl hs (Nat.le_of_ble_eq_true rfl)
set_option maxRecDepth 20000 in
theorem g166_110 {d : Nat} {a0 a1 a2 a3 : Option Value} {s0 : Int32} {s1 : Nat} {lay : List mShp} {M : mMem} {P : mPost} (hs : mSh lay s1 = some (13, 44)) : mG (d) 166 110 [a0, a1, a2, a3] [.int s0, .ref s1] lay M P = ((s0 = 0 ∨ s0 = 1) ∧ mG d 166 113 [a0, a1, a2, a3] [] lay (mSetI M s1 16 s0) P) := mG_of_and (mIsO_of hs (by decide)) (e_putZ (ci := 10) (j := 16) rfl rfl (Or.inl rfl) rfl)
set_option maxRecDepth 20000 in
theorem g166_113 {d : Nat} {a1 a2 a3 : Option Value} {x : Nat} {lay : List mShp} {M : mMem} {P : mPost} (hx : ¬ x = 0) : mG (d) 166 113 [some (.ref x), a1, a2, a3] [] lay M P = mG d 166 114 [some (.ref x), a1, a2, a3] [.ref x] lay M P := e_aload_nP hx (i := 0) rfl rfl rfl
set_option maxRecDepth 20000 in
theorem g166_114 {d : Nat} {a0 a1 a2 a3 : Option Value} {s0 : Nat} {lay : List mShp} {M : mMem} {P : mPost} : mG (d) 166 114 [a0, a1, a2, a3] [.ref s0] lay M P = mG d 166 115 [a0, a1, a2, a3] [.ref s0, .ref s0] lay M P := e_dupr rfl
set_option maxRecDepth 20000 in
theorem g166_115 {d : Nat} {a0 a1 a2 a3 : Option Value} {s0 : Nat} {s1 : Nat} {lay : List mShp} {M : mMem} {P : mPost} (hs : mSh lay s0 = some (13, 44)) : mG (d) 166 115 [a0, a1, a2, a3] [.ref s0, .ref s1] lay M P = mG d 166 118 [a0, a1, a2, a3] [.int (M.1 s0 15), .ref s1] lay M P := mG_of_and (mIsO_of hs (by decide)) (e_getI (ci := 10) (j := 15) rfl rfl rfl)
set_option maxRecDepth 20000 in
theorem g166_118 {d : Nat} {a1 a2 a3 : Option Value} {s0 : Int32} {s1 : Nat} {x : Nat} {lay : List mShp} {M : mMem} {P : mPost} (hx : ¬ x = 0) : mG (d) 166 118 [some (.ref x), a1, a2, a3] [.int s0, .ref s1] lay M P = mG d 166 119 [some (.ref x), a1, a2, a3] [.ref x, .int s0, .ref s1] lay M P := e_aload_nP hx (i := 0) rfl rfl rfl
set_option maxRecDepth 20000 in
theorem g166_119 {d : Nat} {a0 a1 a2 a3 : Option Value} {s0 : Nat} {s1 : Int32} {s2 : Nat} {lay : List mShp} {M : mMem} {P : mPost} (hs : mSh lay s0 = some (13, 44)) : mG (d) 166 119 [a0, a1, a2, a3] [.ref s0, .int s1, .ref s2] lay M P = mG d 166 122 [a0, a1, a2, a3] [.int (M.1 s0 16), .int s1, .ref s2] lay M P := mG_of_and (mIsO_of hs (by decide)) (e_getZ (ci := 10) (j := 16) rfl rfl rfl)
set_option maxRecDepth 20000 in
theorem g166_122 {d : Nat} {a0 a1 a2 a3 : Option Value} {s0 : Int32} {s1 : Int32} {s2 : Nat} {lay : List mShp} {M : mMem} {P : mPost} : mG (d) 166 122 [a0, a1, a2, a3] [.int s0, .int s1, .ref s2] lay M P = if s0 = 0 then mG d 166 129 [a0, a1, a2, a3] [.int s1, .ref s2] lay M P else mG d 166 125 [a0, a1, a2, a3] [.int s1, .ref s2] lay M P := e_if_eq rfl rfl
set_option maxRecDepth 20000 in
theorem g166_125 {d : Nat} {a0 a1 a2 a3 : Option Value} {s0 : Int32} {s1 : Nat} {lay : List mShp} {M : mMem} {P : mPost} : mG (d) 166 125 [a0, a1, a2, a3] [.int s0, .ref s1] lay M P = mG d 166 126 [a0, a1, a2, a3] [.int (Int32.ofInt 1), .int s0, .ref s1] lay M P := e_iconst rfl
set_option maxRecDepth 20000 in
theorem g166_126 {d : Nat} {a0 a1 a2 a3 : Option Value} {s0 : Int32} {s1 : Int32} {s2 : Nat} {lay : List mShp} {M : mMem} {P : mPost} : mG (d) 166 126 [a0, a1, a2, a3] [.int s0, .int s1, .ref s2] lay M P = mG d 166 130 [a0, a1, a2, a3] [.int s0, .int s1, .ref s2] lay M P := e_goto rfl rfl
set_option maxRecDepth 20000 in
theorem g166_129 {d : Nat} {a0 a1 a2 a3 : Option Value} {s0 : Int32} {s1 : Nat} {lay : List mShp} {M : mMem} {P : mPost} : mG (d) 166 129 [a0, a1, a2, a3] [.int s0, .ref s1] lay M P = mG d 166 130 [a0, a1, a2, a3] [.int (Int32.ofInt 0), .int s0, .ref s1] lay M P := e_iconst rfl
set_option maxRecDepth 20000 in
theorem g166_130 {d : Nat} {a0 a1 a2 a3 : Option Value} {s0 : Int32} {s1 : Int32} {s2 : Nat} {lay : List mShp} {M : mMem} {P : mPost} : mG (d) 166 130 [a0, a1, a2, a3] [.int s0, .int s1, .ref s2] lay M P = mG d 166 131 [a0, a1, a2, a3] [.int (s1 + s0), .ref s2] lay M P := e_iadd rfl
set_option maxRecDepth 20000 in
theorem g166_131 {d : Nat} {a0 a1 a2 a3 : Option Value} {s0 : Int32} {s1 : Nat} {lay : List mShp} {M : mMem} {P : mPost} (hs : mSh lay s1 = some (13, 44)) : mG (d) 166 131 [a0, a1, a2, a3] [.int s0, .ref s1] lay M P = mG d 166 134 [a0, a1, a2, a3] [] lay (mSetI M s1 15 s0) P := mG_of_and (mIsO_of hs (by decide)) (e_putI (ci := 10) (j := 15) rfl rfl (Or.inl rfl) rfl)
set_option maxRecDepth 20000 in
theorem g166_134 {d : Nat} {a1 a2 a3 : Option Value} {x : Nat} {lay : List mShp} {M : mMem} {P : mPost} (hx : ¬ x = 0) : mG (d) 166 134 [some (.ref x), a1, a2, a3] [] lay M P = mG d 166 135 [some (.ref x), a1, a2, a3] [.ref x] lay M P := e_aload_nP hx (i := 0) rfl rfl rfl
set_option maxRecDepth 20000 in
theorem g166_135 {d : Nat} {a0 a1 a2 a3 : Option Value} {s0 : Nat} {lay : List mShp} {M : mMem} {P : mPost} : mG (d) 166 135 [a0, a1, a2, a3] [.ref s0] lay M P = mG d 166 136 [a0, a1, a2, a3] [.ref s0, .ref s0] lay M P := e_dupr rfl
set_option maxRecDepth 20000 in
theorem g166_136 {d : Nat} {a0 a1 a2 a3 : Option Value} {s0 : Nat} {s1 : Nat} {lay : List mShp} {M : mMem} {P : mPost} (hs : mSh lay s0 = some (13, 44)) : mG (d) 166 136 [a0, a1, a2, a3] [.ref s0, .ref s1] lay M P = mG d 166 139 [a0, a1, a2, a3] [.int (M.1 s0 17), .ref s1] lay M P := mG_of_and (mIsO_of hs (by decide)) (e_getI (ci := 10) (j := 17) rfl rfl rfl)
set_option maxRecDepth 20000 in
theorem g166_139 {d : Nat} {a0 a1 a2 a3 : Option Value} {s0 : Int32} {s1 : Nat} {lay : List mShp} {M : mMem} {P : mPost} : mG (d) 166 139 [a0, a1, a2, a3] [.int s0, .ref s1] lay M P = mG d 166 140 [a0, a1, a2, a3] [.int (Int32.ofInt 1), .int s0, .ref s1] lay M P := e_iconst rfl
set_option maxRecDepth 20000 in
theorem g166_140 {d : Nat} {a0 a1 a2 a3 : Option Value} {s0 : Int32} {s1 : Int32} {s2 : Nat} {lay : List mShp} {M : mMem} {P : mPost} : mG (d) 166 140 [a0, a1, a2, a3] [.int s0, .int s1, .ref s2] lay M P = mG d 166 141 [a0, a1, a2, a3] [.int (s1 - s0), .ref s2] lay M P := e_isub rfl
set_option maxRecDepth 20000 in
theorem g166_141 {d : Nat} {a0 a1 a2 a3 : Option Value} {s0 : Int32} {s1 : Nat} {lay : List mShp} {M : mMem} {P : mPost} (hs : mSh lay s1 = some (13, 44)) : mG (d) 166 141 [a0, a1, a2, a3] [.int s0, .ref s1] lay M P = mG d 166 144 [a0, a1, a2, a3] [] lay (mSetI M s1 17 s0) P := mG_of_and (mIsO_of hs (by decide)) (e_putI (ci := 10) (j := 17) rfl rfl (Or.inl rfl) rfl)
set_option maxRecDepth 20000 in
theorem g166_144 {d : Nat} {a0 a2 a3 : Option Value} {x : Int32} {lay : List mShp} {M : mMem} {P : mPost} : mG (d) 166 144 [a0, some (.int x), a2, a3] [] lay M P = mG d 166 145 [a0, some (.int x), a2, a3] [.int x] lay M P := e_iload_n (i := 1) rfl rfl rfl
set_option maxRecDepth 20000 in
theorem g166_145 {d : Nat} {a0 a1 a2 a3 : Option Value} {s0 : Int32} {lay : List mShp} {M : mMem} {P : mPost} : mG (d) 166 145 [a0, a1, a2, a3] [.int s0] lay M P = P (some (.int s0)) lay M := e_ireturnI rfl rfl
set_option maxRecDepth 20000 in
theorem g166_146 {d : Nat} {a0 a1 a2 a3 : Option Value} {lay : List mShp} {M : mMem} {P : mPost} : mG (d) 166 146 [a0, a1, a2, a3] [] lay M P = mG d 166 147 [a0, a1, a2, a3] [.int (Int32.ofInt 0)] lay M P := e_iconst rfl
set_option maxRecDepth 20000 in
theorem g166_147 {d : Nat} {a0 a1 a2 a3 : Option Value} {s0 : Int32} {lay : List mShp} {M : mMem} {P : mPost} (h0 : mNoL a1 = true) : mG (d) 166 147 [a0, a1, a2, a3] [.int s0] lay M P = mG d 166 148 [a0, a1, some (.int s0), a3] [] lay M P := e_istore_n (i := 2) rfl rfl (by simp) (mS1_2 h0)
set_option maxRecDepth 20000 in
theorem g166_148 {d : Nat} {a0 a1 a3 : Option Value} {x : Int32} {lay : List mShp} {M : mMem} {P : mPost} : mG (d) 166 148 [a0, a1, some (.int x), a3] [] lay M P = mG d 166 149 [a0, a1, some (.int x), a3] [.int x] lay M P := e_iload_n (i := 2) rfl rfl rfl
set_option maxRecDepth 20000 in
theorem g166_149 {d : Nat} {a0 a1 a2 a3 : Option Value} {s0 : Int32} {lay : List mShp} {M : mMem} {P : mPost} : mG (d) 166 149 [a0, a1, a2, a3] [.int s0] lay M P = mG d 166 151 [a0, a1, a2, a3] [.int (Int32.ofInt 6), .int s0] lay M P := e_bipush rfl
set_option maxRecDepth 20000 in
theorem g166_151 {d : Nat} {a0 a1 a2 a3 : Option Value} {s0 : Int32} {s1 : Int32} {lay : List mShp} {M : mMem} {P : mPost} : mG (d) 166 151 [a0, a1, a2, a3] [.int s0, .int s1] lay M P = if s1 < s0 then mG d 166 154 [a0, a1, a2, a3] [] lay M P else mG d 166 190 [a0, a1, a2, a3] [] lay M P := e_icmp_ge rfl rfl
set_option maxRecDepth 20000 in
theorem g166_154 {d : Nat} {a1 a2 a3 : Option Value} {x : Nat} {lay : List mShp} {M : mMem} {P : mPost} (hx : ¬ x = 0) : mG (d) 166 154 [some (.ref x), a1, a2, a3] [] lay M P = mG d 166 155 [some (.ref x), a1, a2, a3] [.ref x] lay M P := e_aload_nP hx (i := 0) rfl rfl rfl
set_option maxRecDepth 20000 in
theorem g166_155 {d : Nat} {a1 a2 a3 : Option Value} {s0 : Nat} {x : Nat} {lay : List mShp} {M : mMem} {P : mPost} (hx : ¬ x = 0) : mG (d) 166 155 [some (.ref x), a1, a2, a3] [.ref s0] lay M P = mG d 166 156 [some (.ref x), a1, a2, a3] [.ref x, .ref s0] lay M P := e_aload_nP hx (i := 0) rfl rfl rfl
set_option maxRecDepth 20000 in
theorem g166_156 {d : Nat} {a0 a1 a2 a3 : Option Value} {s0 : Nat} {s1 : Nat} {lay : List mShp} {M : mMem} {P : mPost} (hs : mSh lay s0 = some (13, 44)) : mG (d) 166 156 [a0, a1, a2, a3] [.ref s0, .ref s1] lay M P = mG d 166 159 [a0, a1, a2, a3] [.ref (M.2.2 s0 19), .ref s1] lay M P := mG_of_and (mIsO_of hs (by decide)) (e_getA (ci := 10) (j := 19) rfl rfl rfl)
set_option maxRecDepth 20000 in
theorem g166_159 {d : Nat} {a0 a1 a3 : Option Value} {s0 : Nat} {s1 : Nat} {x : Int32} {lay : List mShp} {M : mMem} {P : mPost} : mG (d) 166 159 [a0, a1, some (.int x), a3] [.ref s0, .ref s1] lay M P = mG d 166 160 [a0, a1, some (.int x), a3] [.int x, .ref s0, .ref s1] lay M P := e_iload_n (i := 2) rfl rfl rfl
set_option maxRecDepth 20000 in
theorem g166_160 {d : Nat} {a0 a1 a2 a3 : Option Value} {s0 : Int32} {s1 : Nat} {s2 : Nat} {lay : List mShp} {M : mMem} {P : mPost} (hs : mSh lay s1 = some (2, 6)) : mG (d) 166 160 [a0, a1, a2, a3] [.int s0, .ref s1, .ref s2] lay M P = (mIdx s0 6 = true ∧ mG d 166 161 [a0, a1, a2, a3] [.int (M.1 s1 s0.toNatClampNeg), .ref s2] lay M P) := e_caload rfl hs
set_option maxRecDepth 20000 in
theorem g166_161 {d : Nat} {a0 a1 a2 a3 : Option Value} {s0 : Int32} {s1 : Nat} {lay : List mShp} {M : mMem} {P : mPost} (hs : mSh lay s1 = some (13, 44)) : mG (d + 1) 166 161 [a0, a1, a2, a3] [.int s0, .ref s1] lay M P = mF d 162 [.ref s1, .int s0] lay M (fun v lay1 M1 => mG (d + 1) 166 164 [a0, a1, a2, a3] (v.toList ++ []) lay1 M1 P) := e_virtP1 (j := 162) (c := 10) rfl rfl rfl rfl rfl rfl hs (Nat.le_of_ble_eq_true rfl)
set_option maxRecDepth 20000 in
theorem g166_164 {d : Nat} {a0 a1 a2 a3 : Option Value} {s0 : Int32} {lay : List mShp} {M : mMem} {P : mPost} : mG (d) 166 164 [a0, a1, a2, a3] [.int s0] lay M P = if s0 = 0 then mG d 166 184 [a0, a1, a2, a3] [] lay M P else mG d 166 167 [a0, a1, a2, a3] [] lay M P := e_if_eq rfl rfl
set_option maxRecDepth 20000 in
theorem g166_167 {d : Nat} {a1 a2 a3 : Option Value} {x : Nat} {lay : List mShp} {M : mMem} {P : mPost} (hx : ¬ x = 0) : mG (d) 166 167 [some (.ref x), a1, a2, a3] [] lay M P = mG d 166 168 [some (.ref x), a1, a2, a3] [.ref x] lay M P := e_aload_nP hx (i := 0) rfl rfl rfl
set_option maxRecDepth 20000 in
theorem g166_168 {d : Nat} {a0 a1 a2 a3 : Option Value} {s0 : Nat} {lay : List mShp} {M : mMem} {P : mPost} : mG (d) 166 168 [a0, a1, a2, a3] [.ref s0] lay M P = mG d 166 169 [a0, a1, a2, a3] [.ref s0, .ref s0] lay M P := e_dupr rfl
set_option maxRecDepth 20000 in
theorem g166_169 {d : Nat} {a0 a1 a2 a3 : Option Value} {s0 : Nat} {s1 : Nat} {lay : List mShp} {M : mMem} {P : mPost} (hs : mSh lay s0 = some (13, 44)) : mG (d) 166 169 [a0, a1, a2, a3] [.ref s0, .ref s1] lay M P = mG d 166 172 [a0, a1, a2, a3] [.int (M.1 s0 15), .ref s1] lay M P := mG_of_and (mIsO_of hs (by decide)) (e_getI (ci := 10) (j := 15) rfl rfl rfl)
set_option maxRecDepth 20000 in
theorem g166_172 {d : Nat} {a0 a1 a2 a3 : Option Value} {s0 : Int32} {s1 : Nat} {lay : List mShp} {M : mMem} {P : mPost} : mG (d) 166 172 [a0, a1, a2, a3] [.int s0, .ref s1] lay M P = mG d 166 173 [a0, a1, a2, a3] [.int (Int32.ofInt 1), .int s0, .ref s1] lay M P := e_iconst rfl
set_option maxRecDepth 20000 in
theorem g166_173 {d : Nat} {a0 a1 a2 a3 : Option Value} {s0 : Int32} {s1 : Int32} {s2 : Nat} {lay : List mShp} {M : mMem} {P : mPost} : mG (d) 166 173 [a0, a1, a2, a3] [.int s0, .int s1, .ref s2] lay M P = mG d 166 174 [a0, a1, a2, a3] [.int (s1 + s0), .ref s2] lay M P := e_iadd rfl
set_option maxRecDepth 20000 in
theorem g166_174 {d : Nat} {a0 a1 a2 a3 : Option Value} {s0 : Int32} {s1 : Nat} {lay : List mShp} {M : mMem} {P : mPost} (hs : mSh lay s1 = some (13, 44)) : mG (d) 166 174 [a0, a1, a2, a3] [.int s0, .ref s1] lay M P = mG d 166 177 [a0, a1, a2, a3] [] lay (mSetI M s1 15 s0) P := mG_of_and (mIsO_of hs (by decide)) (e_putI (ci := 10) (j := 15) rfl rfl (Or.inl rfl) rfl)
set_option maxRecDepth 20000 in
theorem g166_177 {d : Nat} {a1 a2 a3 : Option Value} {x : Nat} {lay : List mShp} {M : mMem} {P : mPost} (hx : ¬ x = 0) : mG (d) 166 177 [some (.ref x), a1, a2, a3] [] lay M P = mG d 166 178 [some (.ref x), a1, a2, a3] [.ref x] lay M P := e_aload_nP hx (i := 0) rfl rfl rfl
set_option maxRecDepth 20000 in
theorem g166_178 {d : Nat} {a0 a1 a2 a3 : Option Value} {s0 : Nat} {lay : List mShp} {M : mMem} {P : mPost} (hs : mSh lay s0 = some (13, 44)) : mG (d) 166 178 [a0, a1, a2, a3] [.ref s0] lay M P = mG d 166 181 [a0, a1, a2, a3] [.ref (M.2.2 s0 18)] lay M P := mG_of_and (mIsO_of hs (by decide)) (e_getA (ci := 10) (j := 18) rfl rfl rfl)
set_option maxRecDepth 20000 in
theorem g166_181 {d : Nat} {a0 a1 a3 : Option Value} {s0 : Nat} {x : Int32} {lay : List mShp} {M : mMem} {P : mPost} : mG (d) 166 181 [a0, a1, some (.int x), a3] [.ref s0] lay M P = mG d 166 182 [a0, a1, some (.int x), a3] [.int x, .ref s0] lay M P := e_iload_n (i := 2) rfl rfl rfl
set_option maxRecDepth 20000 in
theorem g166_182 {d : Nat} {a0 a1 a2 a3 : Option Value} {s0 : Int32} {s1 : Nat} {lay : List mShp} {M : mMem} {P : mPost} (hs : mSh lay s1 = some (0, 6)) : mG (d) 166 182 [a0, a1, a2, a3] [.int s0, .ref s1] lay M P = (mIdx s0 6 = true ∧ mG d 166 183 [a0, a1, a2, a3] [.int (M.1 s1 s0.toNatClampNeg)] lay M P) := e_iaload rfl hs
set_option maxRecDepth 20000 in
theorem g166_183 {d : Nat} {a0 a1 a2 a3 : Option Value} {s0 : Int32} {lay : List mShp} {M : mMem} {P : mPost} : mG (d) 166 183 [a0, a1, a2, a3] [.int s0] lay M P = P (some (.int s0)) lay M := e_ireturnI rfl rfl
set_option maxRecDepth 20000 in
theorem g166_184 {d : Nat} {a0 a1 a3 : Option Value} {x : Int32} {lay : List mShp} {M : mMem} {P : mPost} (h0 : mNoL a1 = true) : mG (d) 166 184 [a0, a1, some (.int x), a3] [] lay M P = mG d 166 187 [a0, a1, some (.int (x + Int32.ofInt 1)), a3] [] lay M P := e_iinc (n := 2) rfl rfl (mS1_2 h0)
set_option maxRecDepth 20000 in
theorem g166_187 {d : Nat} {a0 a1 a2 a3 : Option Value} {lay : List mShp} {M : mMem} {P : mPost} : mG (d) 166 187 [a0, a1, a2, a3] [] lay M P = mG d 166 148 [a0, a1, a2, a3] [] lay M P := e_goto rfl rfl
set_option maxRecDepth 20000 in
theorem g166_190 {d : Nat} {a1 a2 a3 : Option Value} {x : Nat} {lay : List mShp} {M : mMem} {P : mPost} (hx : ¬ x = 0) : mG (d) 166 190 [some (.ref x), a1, a2, a3] [] lay M P = mG d 166 191 [some (.ref x), a1, a2, a3] [.ref x] lay M P := e_aload_nP hx (i := 0) rfl rfl rfl
set_option maxRecDepth 20000 in
theorem g166_191 {d : Nat} {a0 a1 a2 a3 : Option Value} {s0 : Nat} {lay : List mShp} {M : mMem} {P : mPost} : mG (d) 166 191 [a0, a1, a2, a3] [.ref s0] lay M P = mG d 166 192 [a0, a1, a2, a3] [.int (Int32.ofInt 0), .ref s0] lay M P := e_iconst rfl
set_option maxRecDepth 20000 in
theorem g166_192 {d : Nat} {a0 a1 a2 a3 : Option Value} {s0 : Int32} {s1 : Nat} {lay : List mShp} {M : mMem} {P : mPost} (hs : mSh lay s1 = some (13, 44)) : mG (d) 166 192 [a0, a1, a2, a3] [.int s0, .ref s1] lay M P = ((s0 = 0 ∨ s0 = 1) ∧ mG d 166 195 [a0, a1, a2, a3] [] lay (mSetI M s1 16 s0) P) := mG_of_and (mIsO_of hs (by decide)) (e_putZ (ci := 10) (j := 16) rfl rfl (Or.inl rfl) rfl)
set_option maxRecDepth 20000 in
theorem g166_195 {d : Nat} {a0 a1 a2 a3 : Option Value} {lay : List mShp} {M : mMem} {P : mPost} : mG (d) 166 195 [a0, a1, a2, a3] [] lay M P = mG d 166 196 [a0, a1, a2, a3] [.int (Int32.ofInt 0)] lay M P := e_iconst rfl
set_option maxRecDepth 20000 in
theorem g166_196 {d : Nat} {a0 a1 a2 a3 : Option Value} {s0 : Int32} {lay : List mShp} {M : mMem} {P : mPost} : mG (d) 166 196 [a0, a1, a2, a3] [.int s0] lay M P = P (some (.int s0)) lay M := e_ireturnI rfl rfl
-- 167 X10_product
theorem g167_in {d : Nat} {x0 : Nat} {lay : List mShp} {M : mMem} {P : mPost} : mF d 167 [.ref x0] lay M P = mG d 167 0 [some (.ref x0), none, none, none] [] lay M P := mF_in rfl rfl
set_option maxRecDepth 20000 in
theorem g167_0 {d : Nat} {a1 a2 a3 : Option Value} {x : Nat} {lay : List mShp} {M : mMem} {P : mPost} (hx : ¬ x = 0) : mG (d) 167 0 [some (.ref x), a1, a2, a3] [] lay M P = mG d 167 1 [some (.ref x), a1, a2, a3] [.ref x] lay M P := e_aload_nP hx (i := 0) rfl rfl rfl
set_option maxRecDepth 20000 in
theorem g167_1 {d : Nat} {a0 a1 a2 a3 : Option Value} {s0 : Nat} {lay : List mShp} {M : mMem} {P : mPost} (hs : mSh lay s0 = some (13, 44)) : mG (d + 1) 167 1 [a0, a1, a2, a3] [.ref s0] lay M P = mF d 166 [.ref s0] lay M (fun v lay1 M1 => mG (d + 1) 167 4 [a0, a1, a2, a3] (v.toList ++ []) lay1 M1 P) := e_virtP0 (j := 166) (c := 10) rfl rfl rfl rfl rfl rfl hs (Nat.le_of_ble_eq_true rfl)
set_option maxRecDepth 20000 in
theorem g167_4 {d : Nat} {a0 a1 a2 a3 : Option Value} {s0 : Int32} {lay : List mShp} {M : mMem} {P : mPost} (h0 : mNoL a0 = true) : mG (d) 167 4 [a0, a1, a2, a3] [.int s0] lay M P = mG d 167 5 [a0, some (.int s0), a2, a3] [] lay M P := e_istore_n (i := 1) rfl rfl (by simp) (mS1_1 h0)
set_option maxRecDepth 20000 in
theorem g167_5 {d : Nat} {a1 a2 a3 : Option Value} {x : Nat} {lay : List mShp} {M : mMem} {P : mPost} (hx : ¬ x = 0) : mG (d) 167 5 [some (.ref x), a1, a2, a3] [] lay M P = mG d 167 6 [some (.ref x), a1, a2, a3] [.ref x] lay M P := e_aload_nP hx (i := 0) rfl rfl rfl
set_option maxRecDepth 20000 in
theorem g167_6 {d : Nat} {a0 a1 a2 a3 : Option Value} {s0 : Nat} {lay : List mShp} {M : mMem} {P : mPost} : mG (d) 167 6 [a0, a1, a2, a3] [.ref s0] lay M P = mG d 167 8 [a0, a1, a2, a3] [.int (Int32.ofInt 42), .ref s0] lay M P := e_bipush rfl
set_option maxRecDepth 20000 in
theorem g167_8 {d : Nat} {a0 a1 a2 a3 : Option Value} {s0 : Int32} {s1 : Nat} {lay : List mShp} {M : mMem} {P : mPost} (hs : mSh lay s1 = some (13, 44)) : mG (d + 1) 167 8 [a0, a1, a2, a3] [.int s0, .ref s1] lay M P = mF d 162 [.ref s1, .int s0] lay M (fun v lay1 M1 => mG (d + 1) 167 11 [a0, a1, a2, a3] (v.toList ++ []) lay1 M1 P) := e_virtP1 (j := 162) (c := 10) rfl rfl rfl rfl rfl rfl hs (Nat.le_of_ble_eq_true rfl)
set_option maxRecDepth 20000 in
theorem g167_11 {d : Nat} {a0 a1 a2 a3 : Option Value} {s0 : Int32} {lay : List mShp} {M : mMem} {P : mPost} : mG (d) 167 11 [a0, a1, a2, a3] [.int s0] lay M P = if s0 = 0 then mG d 167 14 [a0, a1, a2, a3] [] lay M P else mG d 167 32 [a0, a1, a2, a3] [] lay M P := e_if_ne rfl rfl
set_option maxRecDepth 20000 in
theorem g167_14 {d : Nat} {a1 a2 a3 : Option Value} {x : Nat} {lay : List mShp} {M : mMem} {P : mPost} (hx : ¬ x = 0) : mG (d) 167 14 [some (.ref x), a1, a2, a3] [] lay M P = mG d 167 15 [some (.ref x), a1, a2, a3] [.ref x] lay M P := e_aload_nP hx (i := 0) rfl rfl rfl
set_option maxRecDepth 20000 in
theorem g167_15 {d : Nat} {a0 a1 a2 a3 : Option Value} {s0 : Nat} {lay : List mShp} {M : mMem} {P : mPost} : mG (d) 167 15 [a0, a1, a2, a3] [.ref s0] lay M P = mG d 167 17 [a0, a1, a2, a3] [.int (Int32.ofInt 47), .ref s0] lay M P := e_bipush rfl
set_option maxRecDepth 20000 in
theorem g167_17 {d : Nat} {a0 a1 a2 a3 : Option Value} {s0 : Int32} {s1 : Nat} {lay : List mShp} {M : mMem} {P : mPost} (hs : mSh lay s1 = some (13, 44)) : mG (d + 1) 167 17 [a0, a1, a2, a3] [.int s0, .ref s1] lay M P = mF d 162 [.ref s1, .int s0] lay M (fun v lay1 M1 => mG (d + 1) 167 20 [a0, a1, a2, a3] (v.toList ++ []) lay1 M1 P) := e_virtP1 (j := 162) (c := 10) rfl rfl rfl rfl rfl rfl hs (Nat.le_of_ble_eq_true rfl)
set_option maxRecDepth 20000 in
theorem g167_20 {d : Nat} {a0 a1 a2 a3 : Option Value} {s0 : Int32} {lay : List mShp} {M : mMem} {P : mPost} : mG (d) 167 20 [a0, a1, a2, a3] [.int s0] lay M P = if s0 = 0 then mG d 167 23 [a0, a1, a2, a3] [] lay M P else mG d 167 32 [a0, a1, a2, a3] [] lay M P := e_if_ne rfl rfl
set_option maxRecDepth 20000 in
theorem g167_23 {d : Nat} {a1 a2 a3 : Option Value} {x : Nat} {lay : List mShp} {M : mMem} {P : mPost} (hx : ¬ x = 0) : mG (d) 167 23 [some (.ref x), a1, a2, a3] [] lay M P = mG d 167 24 [some (.ref x), a1, a2, a3] [.ref x] lay M P := e_aload_nP hx (i := 0) rfl rfl rfl
set_option maxRecDepth 20000 in
theorem g167_24 {d : Nat} {a0 a1 a2 a3 : Option Value} {s0 : Nat} {lay : List mShp} {M : mMem} {P : mPost} : mG (d) 167 24 [a0, a1, a2, a3] [.ref s0] lay M P = mG d 167 26 [a0, a1, a2, a3] [.int (Int32.ofInt 37), .ref s0] lay M P := e_bipush rfl
set_option maxRecDepth 20000 in
theorem g167_26 {d : Nat} {a0 a1 a2 a3 : Option Value} {s0 : Int32} {s1 : Nat} {lay : List mShp} {M : mMem} {P : mPost} (hs : mSh lay s1 = some (13, 44)) : mG (d + 1) 167 26 [a0, a1, a2, a3] [.int s0, .ref s1] lay M P = mF d 162 [.ref s1, .int s0] lay M (fun v lay1 M1 => mG (d + 1) 167 29 [a0, a1, a2, a3] (v.toList ++ []) lay1 M1 P) := e_virtP1 (j := 162) (c := 10) rfl rfl rfl rfl rfl rfl hs (Nat.le_of_ble_eq_true rfl)
set_option maxRecDepth 20000 in
theorem g167_29 {d : Nat} {a0 a1 a2 a3 : Option Value} {s0 : Int32} {lay : List mShp} {M : mMem} {P : mPost} : mG (d) 167 29 [a0, a1, a2, a3] [.int s0] lay M P = if s0 = 0 then mG d 167 96 [a0, a1, a2, a3] [] lay M P else mG d 167 32 [a0, a1, a2, a3] [] lay M P := e_if_eq rfl rfl
set_option maxRecDepth 20000 in
theorem g167_32 {d : Nat} {a1 a2 a3 : Option Value} {x : Nat} {lay : List mShp} {M : mMem} {P : mPost} (hx : ¬ x = 0) : mG (d) 167 32 [some (.ref x), a1, a2, a3] [] lay M P = mG d 167 33 [some (.ref x), a1, a2, a3] [.ref x] lay M P := e_aload_nP hx (i := 0) rfl rfl rfl
set_option maxRecDepth 20000 in
theorem g167_33 {d : Nat} {a0 a1 a2 a3 : Option Value} {s0 : Nat} {lay : List mShp} {M : mMem} {P : mPost} (hs : mSh lay s0 = some (13, 44)) : mG (d) 167 33 [a0, a1, a2, a3] [.ref s0] lay M P = mG d 167 36 [a0, a1, a2, a3] [.ref (M.2.2 s0 13)] lay M P := mG_of_and (mIsO_of hs (by decide)) (e_getA (ci := 10) (j := 13) rfl rfl rfl)
set_option maxRecDepth 20000 in
theorem g167_36 {d : Nat} {a1 a2 a3 : Option Value} {s0 : Nat} {x : Nat} {lay : List mShp} {M : mMem} {P : mPost} (hx : ¬ x = 0) : mG (d) 167 36 [some (.ref x), a1, a2, a3] [.ref s0] lay M P = mG d 167 37 [some (.ref x), a1, a2, a3] [.ref x, .ref s0] lay M P := e_aload_nP hx (i := 0) rfl rfl rfl
set_option maxRecDepth 20000 in
theorem g167_37 {d : Nat} {a0 a1 a2 a3 : Option Value} {s0 : Nat} {s1 : Nat} {lay : List mShp} {M : mMem} {P : mPost} (hs : mSh lay s0 = some (13, 44)) : mG (d) 167 37 [a0, a1, a2, a3] [.ref s0, .ref s1] lay M P = mG d 167 40 [a0, a1, a2, a3] [.int (M.1 s0 15), .ref s1] lay M P := mG_of_and (mIsO_of hs (by decide)) (e_getI (ci := 10) (j := 15) rfl rfl rfl)
set_option maxRecDepth 20000 in
theorem g167_40 {d : Nat} {a0 a1 a2 a3 : Option Value} {s0 : Int32} {s1 : Nat} {lay : List mShp} {M : mMem} {P : mPost} (hs : mSh lay s1 = some (0, 120)) : mG (d) 167 40 [a0, a1, a2, a3] [.int s0, .ref s1] lay M P = (mIdx s0 120 = true ∧ mG d 167 41 [a0, a1, a2, a3] [.int (M.1 s1 s0.toNatClampNeg)] lay M P) := e_iaload rfl hs
set_option maxRecDepth 20000 in
theorem g167_41 {d : Nat} {a0 a1 a2 a3 : Option Value} {s0 : Int32} {lay : List mShp} {M : mMem} {P : mPost} (h0 : mNoL a1 = true) : mG (d) 167 41 [a0, a1, a2, a3] [.int s0] lay M P = mG d 167 42 [a0, a1, some (.int s0), a3] [] lay M P := e_istore_n (i := 2) rfl rfl (by simp) (mS1_2 h0)
set_option maxRecDepth 20000 in
theorem g167_42 {d : Nat} {a1 a2 a3 : Option Value} {x : Nat} {lay : List mShp} {M : mMem} {P : mPost} (hx : ¬ x = 0) : mG (d) 167 42 [some (.ref x), a1, a2, a3] [] lay M P = mG d 167 43 [some (.ref x), a1, a2, a3] [.ref x] lay M P := e_aload_nP hx (i := 0) rfl rfl rfl
set_option maxRecDepth 20000 in
theorem g167_43 {d : Nat} {a0 a1 a2 a3 : Option Value} {s0 : Nat} {lay : List mShp} {M : mMem} {P : mPost} : mG (d) 167 43 [a0, a1, a2, a3] [.ref s0] lay M P = mG d 167 44 [a0, a1, a2, a3] [.ref s0, .ref s0] lay M P := e_dupr rfl
set_option maxRecDepth 20000 in
theorem g167_44 {d : Nat} {a0 a1 a2 a3 : Option Value} {s0 : Nat} {s1 : Nat} {lay : List mShp} {M : mMem} {P : mPost} (hs : mSh lay s0 = some (13, 44)) : mG (d) 167 44 [a0, a1, a2, a3] [.ref s0, .ref s1] lay M P = mG d 167 47 [a0, a1, a2, a3] [.int (M.1 s0 15), .ref s1] lay M P := mG_of_and (mIsO_of hs (by decide)) (e_getI (ci := 10) (j := 15) rfl rfl rfl)
set_option maxRecDepth 20000 in
theorem g167_47 {d : Nat} {a0 a1 a2 a3 : Option Value} {s0 : Int32} {s1 : Nat} {lay : List mShp} {M : mMem} {P : mPost} : mG (d) 167 47 [a0, a1, a2, a3] [.int s0, .ref s1] lay M P = mG d 167 48 [a0, a1, a2, a3] [.int (Int32.ofInt 1), .int s0, .ref s1] lay M P := e_iconst rfl
set_option maxRecDepth 20000 in
theorem g167_48 {d : Nat} {a0 a1 a2 a3 : Option Value} {s0 : Int32} {s1 : Int32} {s2 : Nat} {lay : List mShp} {M : mMem} {P : mPost} : mG (d) 167 48 [a0, a1, a2, a3] [.int s0, .int s1, .ref s2] lay M P = mG d 167 49 [a0, a1, a2, a3] [.int (s1 + s0), .ref s2] lay M P := e_iadd rfl
set_option maxRecDepth 20000 in
theorem g167_49 {d : Nat} {a0 a1 a2 a3 : Option Value} {s0 : Int32} {s1 : Nat} {lay : List mShp} {M : mMem} {P : mPost} (hs : mSh lay s1 = some (13, 44)) : mG (d) 167 49 [a0, a1, a2, a3] [.int s0, .ref s1] lay M P = mG d 167 52 [a0, a1, a2, a3] [] lay (mSetI M s1 15 s0) P := mG_of_and (mIsO_of hs (by decide)) (e_putI (ci := 10) (j := 15) rfl rfl (Or.inl rfl) rfl)
set_option maxRecDepth 20000 in
theorem g167_52 {d : Nat} {a1 a2 a3 : Option Value} {x : Nat} {lay : List mShp} {M : mMem} {P : mPost} (hx : ¬ x = 0) : mG (d) 167 52 [some (.ref x), a1, a2, a3] [] lay M P = mG d 167 53 [some (.ref x), a1, a2, a3] [.ref x] lay M P := e_aload_nP hx (i := 0) rfl rfl rfl
set_option maxRecDepth 20000 in
theorem g167_53 {d : Nat} {a0 a1 a2 a3 : Option Value} {s0 : Nat} {lay : List mShp} {M : mMem} {P : mPost} (hs : mSh lay s0 = some (13, 44)) : mG (d + 1) 167 53 [a0, a1, a2, a3] [.ref s0] lay M P = mF d 166 [.ref s0] lay M (fun v lay1 M1 => mG (d + 1) 167 56 [a0, a1, a2, a3] (v.toList ++ []) lay1 M1 P) := e_virtP0 (j := 166) (c := 10) rfl rfl rfl rfl rfl rfl hs (Nat.le_of_ble_eq_true rfl)
set_option maxRecDepth 20000 in
theorem g167_56 {d : Nat} {a0 a1 a2 a3 : Option Value} {s0 : Int32} {lay : List mShp} {M : mMem} {P : mPost} (h0 : mNoL a2 = true) : mG (d) 167 56 [a0, a1, a2, a3] [.int s0] lay M P = mG d 167 57 [a0, a1, a2, some (.int s0)] [] lay M P := e_istore_n (i := 3) rfl rfl (by simp) (mS1_3 h0)
set_option maxRecDepth 20000 in
theorem g167_57 {d : Nat} {a0 a1 a3 : Option Value} {x : Int32} {lay : List mShp} {M : mMem} {P : mPost} : mG (d) 167 57 [a0, a1, some (.int x), a3] [] lay M P = mG d 167 58 [a0, a1, some (.int x), a3] [.int x] lay M P := e_iload_n (i := 2) rfl rfl rfl
set_option maxRecDepth 20000 in
theorem g167_58 {d : Nat} {a0 a1 a2 a3 : Option Value} {s0 : Int32} {lay : List mShp} {M : mMem} {P : mPost} : mG (d) 167 58 [a0, a1, a2, a3] [.int s0] lay M P = mG d 167 60 [a0, a1, a2, a3] [.int (Int32.ofInt 42), .int s0] lay M P := e_bipush rfl
set_option maxRecDepth 20000 in
theorem g167_60 {d : Nat} {a0 a1 a2 a3 : Option Value} {s0 : Int32} {s1 : Int32} {lay : List mShp} {M : mMem} {P : mPost} : mG (d) 167 60 [a0, a1, a2, a3] [.int s0, .int s1] lay M P = if s1 = s0 then mG d 167 63 [a0, a1, a2, a3] [] lay M P else mG d 167 69 [a0, a1, a2, a3] [] lay M P := e_icmp_ne rfl rfl
set_option maxRecDepth 20000 in
theorem g167_63 {d : Nat} {a0 a2 a3 : Option Value} {x : Int32} {lay : List mShp} {M : mMem} {P : mPost} : mG (d) 167 63 [a0, some (.int x), a2, a3] [] lay M P = mG d 167 64 [a0, some (.int x), a2, a3] [.int x] lay M P := e_iload_n (i := 1) rfl rfl rfl
set_option maxRecDepth 20000 in
theorem g167_64 {d : Nat} {a0 a1 a2 : Option Value} {s0 : Int32} {x : Int32} {lay : List mShp} {M : mMem} {P : mPost} : mG (d) 167 64 [a0, a1, a2, some (.int x)] [.int s0] lay M P = mG d 167 65 [a0, a1, a2, some (.int x)] [.int x, .int s0] lay M P := e_iload_n (i := 3) rfl rfl rfl
set_option maxRecDepth 20000 in
theorem g167_65 {d : Nat} {a0 a1 a2 a3 : Option Value} {s0 : Int32} {s1 : Int32} {lay : List mShp} {M : mMem} {P : mPost} : mG (d) 167 65 [a0, a1, a2, a3] [.int s0, .int s1] lay M P = mG d 167 66 [a0, a1, a2, a3] [.int (s1 * s0)] lay M P := e_imul rfl
set_option maxRecDepth 20000 in
theorem g167_66 {d : Nat} {a0 a1 a2 a3 : Option Value} {s0 : Int32} {lay : List mShp} {M : mMem} {P : mPost} : mG (d) 167 66 [a0, a1, a2, a3] [.int s0] lay M P = mG d 167 92 [a0, a1, a2, a3] [.int s0] lay M P := e_goto rfl rfl
set_option maxRecDepth 20000 in
theorem g167_69 {d : Nat} {a0 a1 a2 : Option Value} {x : Int32} {lay : List mShp} {M : mMem} {P : mPost} : mG (d) 167 69 [a0, a1, a2, some (.int x)] [] lay M P = mG d 167 70 [a0, a1, a2, some (.int x)] [.int x] lay M P := e_iload_n (i := 3) rfl rfl rfl
set_option maxRecDepth 20000 in
theorem g167_70 {d : Nat} {a0 a1 a2 a3 : Option Value} {s0 : Int32} {lay : List mShp} {M : mMem} {P : mPost} : mG (d) 167 70 [a0, a1, a2, a3] [.int s0] lay M P = if s0 = 0 then mG d 167 73 [a0, a1, a2, a3] [] lay M P else mG d 167 77 [a0, a1, a2, a3] [] lay M P := e_if_ne rfl rfl
set_option maxRecDepth 20000 in
theorem g167_73 {d : Nat} {a0 a1 a2 a3 : Option Value} {lay : List mShp} {M : mMem} {P : mPost} : mG (d) 167 73 [a0, a1, a2, a3] [] lay M P = mG d 167 74 [a0, a1, a2, a3] [.int (Int32.ofInt 0)] lay M P := e_iconst rfl
set_option maxRecDepth 20000 in
theorem g167_74 {d : Nat} {a0 a1 a2 a3 : Option Value} {s0 : Int32} {lay : List mShp} {M : mMem} {P : mPost} : mG (d) 167 74 [a0, a1, a2, a3] [.int s0] lay M P = mG d 167 92 [a0, a1, a2, a3] [.int s0] lay M P := e_goto rfl rfl
set_option maxRecDepth 20000 in
theorem g167_77 {d : Nat} {a0 a1 a3 : Option Value} {x : Int32} {lay : List mShp} {M : mMem} {P : mPost} : mG (d) 167 77 [a0, a1, some (.int x), a3] [] lay M P = mG d 167 78 [a0, a1, some (.int x), a3] [.int x] lay M P := e_iload_n (i := 2) rfl rfl rfl
set_option maxRecDepth 20000 in
theorem g167_78 {d : Nat} {a0 a1 a2 a3 : Option Value} {s0 : Int32} {lay : List mShp} {M : mMem} {P : mPost} : mG (d) 167 78 [a0, a1, a2, a3] [.int s0] lay M P = mG d 167 80 [a0, a1, a2, a3] [.int (Int32.ofInt 47), .int s0] lay M P := e_bipush rfl
set_option maxRecDepth 20000 in
theorem g167_80 {d : Nat} {a0 a1 a2 a3 : Option Value} {s0 : Int32} {s1 : Int32} {lay : List mShp} {M : mMem} {P : mPost} : mG (d) 167 80 [a0, a1, a2, a3] [.int s0, .int s1] lay M P = if s1 = s0 then mG d 167 83 [a0, a1, a2, a3] [] lay M P else mG d 167 89 [a0, a1, a2, a3] [] lay M P := e_icmp_ne rfl rfl
set_option maxRecDepth 20000 in
theorem g167_83 {d : Nat} {a0 a2 a3 : Option Value} {x : Int32} {lay : List mShp} {M : mMem} {P : mPost} : mG (d) 167 83 [a0, some (.int x), a2, a3] [] lay M P = mG d 167 84 [a0, some (.int x), a2, a3] [.int x] lay M P := e_iload_n (i := 1) rfl rfl rfl
set_option maxRecDepth 20000 in
theorem g167_84 {d : Nat} {a0 a1 a2 : Option Value} {s0 : Int32} {x : Int32} {lay : List mShp} {M : mMem} {P : mPost} : mG (d) 167 84 [a0, a1, a2, some (.int x)] [.int s0] lay M P = mG d 167 85 [a0, a1, a2, some (.int x)] [.int x, .int s0] lay M P := e_iload_n (i := 3) rfl rfl rfl
set_option maxRecDepth 20000 in
theorem g167_85 {d : Nat} {a0 a1 a2 a3 : Option Value} {s0 : Int32} {s1 : Int32} {lay : List mShp} {M : mMem} {P : mPost} : mG (d) 167 85 [a0, a1, a2, a3] [.int s0, .int s1] lay M P = (s0 ≠ 0 ∧ mG d 167 86 [a0, a1, a2, a3] [.int (s1 / s0)] lay M P) := e_idiv rfl
set_option maxRecDepth 20000 in
theorem g167_86 {d : Nat} {a0 a1 a2 a3 : Option Value} {s0 : Int32} {lay : List mShp} {M : mMem} {P : mPost} : mG (d) 167 86 [a0, a1, a2, a3] [.int s0] lay M P = mG d 167 92 [a0, a1, a2, a3] [.int s0] lay M P := e_goto rfl rfl
set_option maxRecDepth 20000 in
theorem g167_89 {d : Nat} {a0 a2 a3 : Option Value} {x : Int32} {lay : List mShp} {M : mMem} {P : mPost} : mG (d) 167 89 [a0, some (.int x), a2, a3] [] lay M P = mG d 167 90 [a0, some (.int x), a2, a3] [.int x] lay M P := e_iload_n (i := 1) rfl rfl rfl
set_option maxRecDepth 20000 in
theorem g167_90 {d : Nat} {a0 a1 a2 : Option Value} {s0 : Int32} {x : Int32} {lay : List mShp} {M : mMem} {P : mPost} : mG (d) 167 90 [a0, a1, a2, some (.int x)] [.int s0] lay M P = mG d 167 91 [a0, a1, a2, some (.int x)] [.int x, .int s0] lay M P := e_iload_n (i := 3) rfl rfl rfl
set_option maxRecDepth 20000 in
theorem g167_91 {d : Nat} {a0 a1 a2 a3 : Option Value} {s0 : Int32} {s1 : Int32} {lay : List mShp} {M : mMem} {P : mPost} : mG (d) 167 91 [a0, a1, a2, a3] [.int s0, .int s1] lay M P = (s0 ≠ 0 ∧ mG d 167 92 [a0, a1, a2, a3] [.int (s1 - s1 / s0 * s0)] lay M P) := e_irem rfl
set_option maxRecDepth 20000 in
theorem g167_92 {d : Nat} {a0 a1 a2 a3 : Option Value} {s0 : Int32} {lay : List mShp} {M : mMem} {P : mPost} (h0 : mNoL a0 = true) : mG (d) 167 92 [a0, a1, a2, a3] [.int s0] lay M P = mG d 167 93 [a0, some (.int s0), a2, a3] [] lay M P := e_istore_n (i := 1) rfl rfl (by simp) (mS1_1 h0)
set_option maxRecDepth 20000 in
theorem g167_93 {d : Nat} {a0 a1 a2 a3 : Option Value} {lay : List mShp} {M : mMem} {P : mPost} : mG (d) 167 93 [a0, a1, a2, a3] [] lay M P = mG d 167 5 [a0, a1, a2, a3] [] lay M P := e_goto rfl rfl
set_option maxRecDepth 20000 in
theorem g167_96 {d : Nat} {a0 a2 a3 : Option Value} {x : Int32} {lay : List mShp} {M : mMem} {P : mPost} : mG (d) 167 96 [a0, some (.int x), a2, a3] [] lay M P = mG d 167 97 [a0, some (.int x), a2, a3] [.int x] lay M P := e_iload_n (i := 1) rfl rfl rfl
set_option maxRecDepth 20000 in
theorem g167_97 {d : Nat} {a0 a1 a2 a3 : Option Value} {s0 : Int32} {lay : List mShp} {M : mMem} {P : mPost} : mG (d) 167 97 [a0, a1, a2, a3] [.int s0] lay M P = P (some (.int s0)) lay M := e_ireturnI rfl rfl
-- 168 X10_total
theorem g168_in {d : Nat} {x0 : Nat} {lay : List mShp} {M : mMem} {P : mPost} : mF d 168 [.ref x0] lay M P = mG d 168 0 [some (.ref x0), none, none, none] [] lay M P := mF_in rfl rfl
set_option maxRecDepth 20000 in
theorem g168_0 {d : Nat} {a1 a2 a3 : Option Value} {x : Nat} {lay : List mShp} {M : mMem} {P : mPost} (hx : ¬ x = 0) : mG (d) 168 0 [some (.ref x), a1, a2, a3] [] lay M P = mG d 168 1 [some (.ref x), a1, a2, a3] [.ref x] lay M P := e_aload_nP hx (i := 0) rfl rfl rfl
set_option maxRecDepth 20000 in
theorem g168_1 {d : Nat} {a0 a1 a2 a3 : Option Value} {s0 : Nat} {lay : List mShp} {M : mMem} {P : mPost} (hs : mSh lay s0 = some (13, 44)) : mG (d + 1) 168 1 [a0, a1, a2, a3] [.ref s0] lay M P = mF d 167 [.ref s0] lay M (fun v lay1 M1 => mG (d + 1) 168 4 [a0, a1, a2, a3] (v.toList ++ []) lay1 M1 P) := e_virtP0 (j := 167) (c := 10) rfl rfl rfl rfl rfl rfl hs (Nat.le_of_ble_eq_true rfl)
set_option maxRecDepth 20000 in
theorem g168_4 {d : Nat} {a0 a1 a2 a3 : Option Value} {s0 : Int32} {lay : List mShp} {M : mMem} {P : mPost} (h0 : mNoL a0 = true) : mG (d) 168 4 [a0, a1, a2, a3] [.int s0] lay M P = mG d 168 5 [a0, some (.int s0), a2, a3] [] lay M P := e_istore_n (i := 1) rfl rfl (by simp) (mS1_1 h0)
set_option maxRecDepth 20000 in
theorem g168_5 {d : Nat} {a1 a2 a3 : Option Value} {x : Nat} {lay : List mShp} {M : mMem} {P : mPost} (hx : ¬ x = 0) : mG (d) 168 5 [some (.ref x), a1, a2, a3] [] lay M P = mG d 168 6 [some (.ref x), a1, a2, a3] [.ref x] lay M P := e_aload_nP hx (i := 0) rfl rfl rfl
set_option maxRecDepth 20000 in
theorem g168_6 {d : Nat} {a0 a1 a2 a3 : Option Value} {s0 : Nat} {lay : List mShp} {M : mMem} {P : mPost} : mG (d) 168 6 [a0, a1, a2, a3] [.ref s0] lay M P = mG d 168 8 [a0, a1, a2, a3] [.int (Int32.ofInt 43), .ref s0] lay M P := e_bipush rfl
set_option maxRecDepth 20000 in
theorem g168_8 {d : Nat} {a0 a1 a2 a3 : Option Value} {s0 : Int32} {s1 : Nat} {lay : List mShp} {M : mMem} {P : mPost} (hs : mSh lay s1 = some (13, 44)) : mG (d + 1) 168 8 [a0, a1, a2, a3] [.int s0, .ref s1] lay M P = mF d 162 [.ref s1, .int s0] lay M (fun v lay1 M1 => mG (d + 1) 168 11 [a0, a1, a2, a3] (v.toList ++ []) lay1 M1 P) := e_virtP1 (j := 162) (c := 10) rfl rfl rfl rfl rfl rfl hs (Nat.le_of_ble_eq_true rfl)
set_option maxRecDepth 20000 in
theorem g168_11 {d : Nat} {a0 a1 a2 a3 : Option Value} {s0 : Int32} {lay : List mShp} {M : mMem} {P : mPost} : mG (d) 168 11 [a0, a1, a2, a3] [.int s0] lay M P = if s0 = 0 then mG d 168 14 [a0, a1, a2, a3] [] lay M P else mG d 168 23 [a0, a1, a2, a3] [] lay M P := e_if_ne rfl rfl
set_option maxRecDepth 20000 in
theorem g168_14 {d : Nat} {a1 a2 a3 : Option Value} {x : Nat} {lay : List mShp} {M : mMem} {P : mPost} (hx : ¬ x = 0) : mG (d) 168 14 [some (.ref x), a1, a2, a3] [] lay M P = mG d 168 15 [some (.ref x), a1, a2, a3] [.ref x] lay M P := e_aload_nP hx (i := 0) rfl rfl rfl
set_option maxRecDepth 20000 in
theorem g168_15 {d : Nat} {a0 a1 a2 a3 : Option Value} {s0 : Nat} {lay : List mShp} {M : mMem} {P : mPost} : mG (d) 168 15 [a0, a1, a2, a3] [.ref s0] lay M P = mG d 168 17 [a0, a1, a2, a3] [.int (Int32.ofInt 45), .ref s0] lay M P := e_bipush rfl
set_option maxRecDepth 20000 in
theorem g168_17 {d : Nat} {a0 a1 a2 a3 : Option Value} {s0 : Int32} {s1 : Nat} {lay : List mShp} {M : mMem} {P : mPost} (hs : mSh lay s1 = some (13, 44)) : mG (d + 1) 168 17 [a0, a1, a2, a3] [.int s0, .ref s1] lay M P = mF d 162 [.ref s1, .int s0] lay M (fun v lay1 M1 => mG (d + 1) 168 20 [a0, a1, a2, a3] (v.toList ++ []) lay1 M1 P) := e_virtP1 (j := 162) (c := 10) rfl rfl rfl rfl rfl rfl hs (Nat.le_of_ble_eq_true rfl)
set_option maxRecDepth 20000 in
theorem g168_20 {d : Nat} {a0 a1 a2 a3 : Option Value} {s0 : Int32} {lay : List mShp} {M : mMem} {P : mPost} : mG (d) 168 20 [a0, a1, a2, a3] [.int s0] lay M P = if s0 = 0 then mG d 168 62 [a0, a1, a2, a3] [] lay M P else mG d 168 23 [a0, a1, a2, a3] [] lay M P := e_if_eq rfl rfl
set_option maxRecDepth 20000 in
theorem g168_23 {d : Nat} {a1 a2 a3 : Option Value} {x : Nat} {lay : List mShp} {M : mMem} {P : mPost} (hx : ¬ x = 0) : mG (d) 168 23 [some (.ref x), a1, a2, a3] [] lay M P = mG d 168 24 [some (.ref x), a1, a2, a3] [.ref x] lay M P := e_aload_nP hx (i := 0) rfl rfl rfl
set_option maxRecDepth 20000 in
theorem g168_24 {d : Nat} {a0 a1 a2 a3 : Option Value} {s0 : Nat} {lay : List mShp} {M : mMem} {P : mPost} : mG (d) 168 24 [a0, a1, a2, a3] [.ref s0] lay M P = mG d 168 26 [a0, a1, a2, a3] [.int (Int32.ofInt 43), .ref s0] lay M P := e_bipush rfl
set_option maxRecDepth 20000 in
theorem g168_26 {d : Nat} {a0 a1 a2 a3 : Option Value} {s0 : Int32} {s1 : Nat} {lay : List mShp} {M : mMem} {P : mPost} (hs : mSh lay s1 = some (13, 44)) : mG (d + 1) 168 26 [a0, a1, a2, a3] [.int s0, .ref s1] lay M P = mF d 162 [.ref s1, .int s0] lay M (fun v lay1 M1 => mG (d + 1) 168 29 [a0, a1, a2, a3] (v.toList ++ []) lay1 M1 P) := e_virtP1 (j := 162) (c := 10) rfl rfl rfl rfl rfl rfl hs (Nat.le_of_ble_eq_true rfl)
set_option maxRecDepth 20000 in
theorem g168_29 {d : Nat} {a0 a1 a2 a3 : Option Value} {s0 : Int32} {lay : List mShp} {M : mMem} {P : mPost} (h0 : mNoL a1 = true) : mG (d) 168 29 [a0, a1, a2, a3] [.int s0] lay M P = mG d 168 30 [a0, a1, some (.int s0), a3] [] lay M P := e_istore_n (i := 2) rfl rfl (by simp) (mS1_2 h0)
set_option maxRecDepth 20000 in
theorem g168_30 {d : Nat} {a1 a2 a3 : Option Value} {x : Nat} {lay : List mShp} {M : mMem} {P : mPost} (hx : ¬ x = 0) : mG (d) 168 30 [some (.ref x), a1, a2, a3] [] lay M P = mG d 168 31 [some (.ref x), a1, a2, a3] [.ref x] lay M P := e_aload_nP hx (i := 0) rfl rfl rfl
set_option maxRecDepth 20000 in
theorem g168_31 {d : Nat} {a0 a1 a2 a3 : Option Value} {s0 : Nat} {lay : List mShp} {M : mMem} {P : mPost} : mG (d) 168 31 [a0, a1, a2, a3] [.ref s0] lay M P = mG d 168 32 [a0, a1, a2, a3] [.ref s0, .ref s0] lay M P := e_dupr rfl
set_option maxRecDepth 20000 in
theorem g168_32 {d : Nat} {a0 a1 a2 a3 : Option Value} {s0 : Nat} {s1 : Nat} {lay : List mShp} {M : mMem} {P : mPost} (hs : mSh lay s0 = some (13, 44)) : mG (d) 168 32 [a0, a1, a2, a3] [.ref s0, .ref s1] lay M P = mG d 168 35 [a0, a1, a2, a3] [.int (M.1 s0 15), .ref s1] lay M P := mG_of_and (mIsO_of hs (by decide)) (e_getI (ci := 10) (j := 15) rfl rfl rfl)
set_option maxRecDepth 20000 in
theorem g168_35 {d : Nat} {a0 a1 a2 a3 : Option Value} {s0 : Int32} {s1 : Nat} {lay : List mShp} {M : mMem} {P : mPost} : mG (d) 168 35 [a0, a1, a2, a3] [.int s0, .ref s1] lay M P = mG d 168 36 [a0, a1, a2, a3] [.int (Int32.ofInt 1), .int s0, .ref s1] lay M P := e_iconst rfl
set_option maxRecDepth 20000 in
theorem g168_36 {d : Nat} {a0 a1 a2 a3 : Option Value} {s0 : Int32} {s1 : Int32} {s2 : Nat} {lay : List mShp} {M : mMem} {P : mPost} : mG (d) 168 36 [a0, a1, a2, a3] [.int s0, .int s1, .ref s2] lay M P = mG d 168 37 [a0, a1, a2, a3] [.int (s1 + s0), .ref s2] lay M P := e_iadd rfl
set_option maxRecDepth 20000 in
theorem g168_37 {d : Nat} {a0 a1 a2 a3 : Option Value} {s0 : Int32} {s1 : Nat} {lay : List mShp} {M : mMem} {P : mPost} (hs : mSh lay s1 = some (13, 44)) : mG (d) 168 37 [a0, a1, a2, a3] [.int s0, .ref s1] lay M P = mG d 168 40 [a0, a1, a2, a3] [] lay (mSetI M s1 15 s0) P := mG_of_and (mIsO_of hs (by decide)) (e_putI (ci := 10) (j := 15) rfl rfl (Or.inl rfl) rfl)
set_option maxRecDepth 20000 in
theorem g168_40 {d : Nat} {a1 a2 a3 : Option Value} {x : Nat} {lay : List mShp} {M : mMem} {P : mPost} (hx : ¬ x = 0) : mG (d) 168 40 [some (.ref x), a1, a2, a3] [] lay M P = mG d 168 41 [some (.ref x), a1, a2, a3] [.ref x] lay M P := e_aload_nP hx (i := 0) rfl rfl rfl
set_option maxRecDepth 20000 in
theorem g168_41 {d : Nat} {a0 a1 a2 a3 : Option Value} {s0 : Nat} {lay : List mShp} {M : mMem} {P : mPost} (hs : mSh lay s0 = some (13, 44)) : mG (d + 1) 168 41 [a0, a1, a2, a3] [.ref s0] lay M P = mF d 167 [.ref s0] lay M (fun v lay1 M1 => mG (d + 1) 168 44 [a0, a1, a2, a3] (v.toList ++ []) lay1 M1 P) := e_virtP0 (j := 167) (c := 10) rfl rfl rfl rfl rfl rfl hs (Nat.le_of_ble_eq_true rfl)
set_option maxRecDepth 20000 in
theorem g168_44 {d : Nat} {a0 a1 a2 a3 : Option Value} {s0 : Int32} {lay : List mShp} {M : mMem} {P : mPost} (h0 : mNoL a2 = true) : mG (d) 168 44 [a0, a1, a2, a3] [.int s0] lay M P = mG d 168 45 [a0, a1, a2, some (.int s0)] [] lay M P := e_istore_n (i := 3) rfl rfl (by simp) (mS1_3 h0)
set_option maxRecDepth 20000 in
theorem g168_45 {d : Nat} {a0 a1 a3 : Option Value} {x : Int32} {lay : List mShp} {M : mMem} {P : mPost} : mG (d) 168 45 [a0, a1, some (.int x), a3] [] lay M P = mG d 168 46 [a0, a1, some (.int x), a3] [.int x] lay M P := e_iload_n (i := 2) rfl rfl rfl
set_option maxRecDepth 20000 in
theorem g168_46 {d : Nat} {a0 a1 a2 a3 : Option Value} {s0 : Int32} {lay : List mShp} {M : mMem} {P : mPost} : mG (d) 168 46 [a0, a1, a2, a3] [.int s0] lay M P = if s0 = 0 then mG d 168 55 [a0, a1, a2, a3] [] lay M P else mG d 168 49 [a0, a1, a2, a3] [] lay M P := e_if_eq rfl rfl
set_option maxRecDepth 20000 in
theorem g168_49 {d : Nat} {a0 a2 a3 : Option Value} {x : Int32} {lay : List mShp} {M : mMem} {P : mPost} : mG (d) 168 49 [a0, some (.int x), a2, a3] [] lay M P = mG d 168 50 [a0, some (.int x), a2, a3] [.int x] lay M P := e_iload_n (i := 1) rfl rfl rfl
set_option maxRecDepth 20000 in
theorem g168_50 {d : Nat} {a0 a1 a2 : Option Value} {s0 : Int32} {x : Int32} {lay : List mShp} {M : mMem} {P : mPost} : mG (d) 168 50 [a0, a1, a2, some (.int x)] [.int s0] lay M P = mG d 168 51 [a0, a1, a2, some (.int x)] [.int x, .int s0] lay M P := e_iload_n (i := 3) rfl rfl rfl
set_option maxRecDepth 20000 in
theorem g168_51 {d : Nat} {a0 a1 a2 a3 : Option Value} {s0 : Int32} {s1 : Int32} {lay : List mShp} {M : mMem} {P : mPost} : mG (d) 168 51 [a0, a1, a2, a3] [.int s0, .int s1] lay M P = mG d 168 52 [a0, a1, a2, a3] [.int (s1 + s0)] lay M P := e_iadd rfl
set_option maxRecDepth 20000 in
theorem g168_52 {d : Nat} {a0 a1 a2 a3 : Option Value} {s0 : Int32} {lay : List mShp} {M : mMem} {P : mPost} : mG (d) 168 52 [a0, a1, a2, a3] [.int s0] lay M P = mG d 168 58 [a0, a1, a2, a3] [.int s0] lay M P := e_goto rfl rfl
set_option maxRecDepth 20000 in
theorem g168_55 {d : Nat} {a0 a2 a3 : Option Value} {x : Int32} {lay : List mShp} {M : mMem} {P : mPost} : mG (d) 168 55 [a0, some (.int x), a2, a3] [] lay M P = mG d 168 56 [a0, some (.int x), a2, a3] [.int x] lay M P := e_iload_n (i := 1) rfl rfl rfl
set_option maxRecDepth 20000 in
theorem g168_56 {d : Nat} {a0 a1 a2 : Option Value} {s0 : Int32} {x : Int32} {lay : List mShp} {M : mMem} {P : mPost} : mG (d) 168 56 [a0, a1, a2, some (.int x)] [.int s0] lay M P = mG d 168 57 [a0, a1, a2, some (.int x)] [.int x, .int s0] lay M P := e_iload_n (i := 3) rfl rfl rfl
set_option maxRecDepth 20000 in
theorem g168_57 {d : Nat} {a0 a1 a2 a3 : Option Value} {s0 : Int32} {s1 : Int32} {lay : List mShp} {M : mMem} {P : mPost} : mG (d) 168 57 [a0, a1, a2, a3] [.int s0, .int s1] lay M P = mG d 168 58 [a0, a1, a2, a3] [.int (s1 - s0)] lay M P := e_isub rfl
set_option maxRecDepth 20000 in
theorem g168_58 {d : Nat} {a0 a1 a2 a3 : Option Value} {s0 : Int32} {lay : List mShp} {M : mMem} {P : mPost} (h0 : mNoL a0 = true) : mG (d) 168 58 [a0, a1, a2, a3] [.int s0] lay M P = mG d 168 59 [a0, some (.int s0), a2, a3] [] lay M P := e_istore_n (i := 1) rfl rfl (by simp) (mS1_1 h0)
set_option maxRecDepth 20000 in
theorem g168_59 {d : Nat} {a0 a1 a2 a3 : Option Value} {lay : List mShp} {M : mMem} {P : mPost} : mG (d) 168 59 [a0, a1, a2, a3] [] lay M P = mG d 168 5 [a0, a1, a2, a3] [] lay M P := e_goto rfl rfl
set_option maxRecDepth 20000 in
theorem g168_62 {d : Nat} {a0 a2 a3 : Option Value} {x : Int32} {lay : List mShp} {M : mMem} {P : mPost} : mG (d) 168 62 [a0, some (.int x), a2, a3] [] lay M P = mG d 168 63 [a0, some (.int x), a2, a3] [.int x] lay M P := e_iload_n (i := 1) rfl rfl rfl
set_option maxRecDepth 20000 in
theorem g168_63 {d : Nat} {a0 a1 a2 a3 : Option Value} {s0 : Int32} {lay : List mShp} {M : mMem} {P : mPost} : mG (d) 168 63 [a0, a1, a2, a3] [.int s0] lay M P = P (some (.int s0)) lay M := e_ireturnI rfl rfl
-- 169 X10_compared
theorem g169_in {d : Nat} {x0 : Nat} {lay : List mShp} {M : mMem} {P : mPost} : mF d 169 [.ref x0] lay M P = mG d 169 0 [some (.ref x0), none, none, none, none] [] lay M P := mF_in rfl rfl
set_option maxRecDepth 20000 in
theorem g169_0 {d : Nat} {a1 a2 a3 a4 : Option Value} {x : Nat} {lay : List mShp} {M : mMem} {P : mPost} (hx : ¬ x = 0) : mG (d) 169 0 [some (.ref x), a1, a2, a3, a4] [] lay M P = mG d 169 1 [some (.ref x), a1, a2, a3, a4] [.ref x] lay M P := e_aload_nP hx (i := 0) rfl rfl rfl
set_option maxRecDepth 20000 in
theorem g169_1 {d : Nat} {a0 a1 a2 a3 a4 : Option Value} {s0 : Nat} {lay : List mShp} {M : mMem} {P : mPost} (hs : mSh lay s0 = some (13, 44)) : mG (d + 1) 169 1 [a0, a1, a2, a3, a4] [.ref s0] lay M P = mF d 168 [.ref s0] lay M (fun v lay1 M1 => mG (d + 1) 169 4 [a0, a1, a2, a3, a4] (v.toList ++ []) lay1 M1 P) := e_virtP0 (j := 168) (c := 10) rfl rfl rfl rfl rfl rfl hs (Nat.le_of_ble_eq_true rfl)
set_option maxRecDepth 20000 in
theorem g169_4 {d : Nat} {a0 a1 a2 a3 a4 : Option Value} {s0 : Int32} {lay : List mShp} {M : mMem} {P : mPost} (h0 : mNoL a0 = true) : mG (d) 169 4 [a0, a1, a2, a3, a4] [.int s0] lay M P = mG d 169 5 [a0, some (.int s0), a2, a3, a4] [] lay M P := e_istore_n (i := 1) rfl rfl (by simp) (mS1_1 h0)
set_option maxRecDepth 20000 in
theorem g169_5 {d : Nat} {a1 a2 a3 a4 : Option Value} {x : Nat} {lay : List mShp} {M : mMem} {P : mPost} (hx : ¬ x = 0) : mG (d) 169 5 [some (.ref x), a1, a2, a3, a4] [] lay M P = mG d 169 6 [some (.ref x), a1, a2, a3, a4] [.ref x] lay M P := e_aload_nP hx (i := 0) rfl rfl rfl
set_option maxRecDepth 20000 in
theorem g169_6 {d : Nat} {a0 a1 a2 a3 a4 : Option Value} {s0 : Nat} {lay : List mShp} {M : mMem} {P : mPost} : mG (d) 169 6 [a0, a1, a2, a3, a4] [.ref s0] lay M P = mG d 169 8 [a0, a1, a2, a3, a4] [.int (Int32.ofInt 60), .ref s0] lay M P := e_bipush rfl
set_option maxRecDepth 20000 in
theorem g169_8 {d : Nat} {a0 a1 a2 a3 a4 : Option Value} {s0 : Int32} {s1 : Nat} {lay : List mShp} {M : mMem} {P : mPost} (hs : mSh lay s1 = some (13, 44)) : mG (d + 1) 169 8 [a0, a1, a2, a3, a4] [.int s0, .ref s1] lay M P = mF d 162 [.ref s1, .int s0] lay M (fun v lay1 M1 => mG (d + 1) 169 11 [a0, a1, a2, a3, a4] (v.toList ++ []) lay1 M1 P) := e_virtP1 (j := 162) (c := 10) rfl rfl rfl rfl rfl rfl hs (Nat.le_of_ble_eq_true rfl)
set_option maxRecDepth 20000 in
theorem g169_11 {d : Nat} {a0 a1 a2 a3 a4 : Option Value} {s0 : Int32} {lay : List mShp} {M : mMem} {P : mPost} : mG (d) 169 11 [a0, a1, a2, a3, a4] [.int s0] lay M P = if s0 = 0 then mG d 169 14 [a0, a1, a2, a3, a4] [] lay M P else mG d 169 32 [a0, a1, a2, a3, a4] [] lay M P := e_if_ne rfl rfl
set_option maxRecDepth 20000 in
theorem g169_14 {d : Nat} {a1 a2 a3 a4 : Option Value} {x : Nat} {lay : List mShp} {M : mMem} {P : mPost} (hx : ¬ x = 0) : mG (d) 169 14 [some (.ref x), a1, a2, a3, a4] [] lay M P = mG d 169 15 [some (.ref x), a1, a2, a3, a4] [.ref x] lay M P := e_aload_nP hx (i := 0) rfl rfl rfl
set_option maxRecDepth 20000 in
theorem g169_15 {d : Nat} {a0 a1 a2 a3 a4 : Option Value} {s0 : Nat} {lay : List mShp} {M : mMem} {P : mPost} : mG (d) 169 15 [a0, a1, a2, a3, a4] [.ref s0] lay M P = mG d 169 17 [a0, a1, a2, a3, a4] [.int (Int32.ofInt 61), .ref s0] lay M P := e_bipush rfl
set_option maxRecDepth 20000 in
theorem g169_17 {d : Nat} {a0 a1 a2 a3 a4 : Option Value} {s0 : Int32} {s1 : Nat} {lay : List mShp} {M : mMem} {P : mPost} (hs : mSh lay s1 = some (13, 44)) : mG (d + 1) 169 17 [a0, a1, a2, a3, a4] [.int s0, .ref s1] lay M P = mF d 162 [.ref s1, .int s0] lay M (fun v lay1 M1 => mG (d + 1) 169 20 [a0, a1, a2, a3, a4] (v.toList ++ []) lay1 M1 P) := e_virtP1 (j := 162) (c := 10) rfl rfl rfl rfl rfl rfl hs (Nat.le_of_ble_eq_true rfl)
set_option maxRecDepth 20000 in
theorem g169_20 {d : Nat} {a0 a1 a2 a3 a4 : Option Value} {s0 : Int32} {lay : List mShp} {M : mMem} {P : mPost} : mG (d) 169 20 [a0, a1, a2, a3, a4] [.int s0] lay M P = if s0 = 0 then mG d 169 23 [a0, a1, a2, a3, a4] [] lay M P else mG d 169 32 [a0, a1, a2, a3, a4] [] lay M P := e_if_ne rfl rfl
set_option maxRecDepth 20000 in
theorem g169_23 {d : Nat} {a1 a2 a3 a4 : Option Value} {x : Nat} {lay : List mShp} {M : mMem} {P : mPost} (hx : ¬ x = 0) : mG (d) 169 23 [some (.ref x), a1, a2, a3, a4] [] lay M P = mG d 169 24 [some (.ref x), a1, a2, a3, a4] [.ref x] lay M P := e_aload_nP hx (i := 0) rfl rfl rfl
set_option maxRecDepth 20000 in
theorem g169_24 {d : Nat} {a0 a1 a2 a3 a4 : Option Value} {s0 : Nat} {lay : List mShp} {M : mMem} {P : mPost} : mG (d) 169 24 [a0, a1, a2, a3, a4] [.ref s0] lay M P = mG d 169 26 [a0, a1, a2, a3, a4] [.int (Int32.ofInt 62), .ref s0] lay M P := e_bipush rfl
set_option maxRecDepth 20000 in
theorem g169_26 {d : Nat} {a0 a1 a2 a3 a4 : Option Value} {s0 : Int32} {s1 : Nat} {lay : List mShp} {M : mMem} {P : mPost} (hs : mSh lay s1 = some (13, 44)) : mG (d + 1) 169 26 [a0, a1, a2, a3, a4] [.int s0, .ref s1] lay M P = mF d 162 [.ref s1, .int s0] lay M (fun v lay1 M1 => mG (d + 1) 169 29 [a0, a1, a2, a3, a4] (v.toList ++ []) lay1 M1 P) := e_virtP1 (j := 162) (c := 10) rfl rfl rfl rfl rfl rfl hs (Nat.le_of_ble_eq_true rfl)
set_option maxRecDepth 20000 in
theorem g169_29 {d : Nat} {a0 a1 a2 a3 a4 : Option Value} {s0 : Int32} {lay : List mShp} {M : mMem} {P : mPost} : mG (d) 169 29 [a0, a1, a2, a3, a4] [.int s0] lay M P = if s0 = 0 then mG d 169 118 [a0, a1, a2, a3, a4] [] lay M P else mG d 169 32 [a0, a1, a2, a3, a4] [] lay M P := e_if_eq rfl rfl
set_option maxRecDepth 20000 in
theorem g169_32 {d : Nat} {a1 a2 a3 a4 : Option Value} {x : Nat} {lay : List mShp} {M : mMem} {P : mPost} (hx : ¬ x = 0) : mG (d) 169 32 [some (.ref x), a1, a2, a3, a4] [] lay M P = mG d 169 33 [some (.ref x), a1, a2, a3, a4] [.ref x] lay M P := e_aload_nP hx (i := 0) rfl rfl rfl
set_option maxRecDepth 20000 in
theorem g169_33 {d : Nat} {a0 a1 a2 a3 a4 : Option Value} {s0 : Nat} {lay : List mShp} {M : mMem} {P : mPost} (hs : mSh lay s0 = some (13, 44)) : mG (d) 169 33 [a0, a1, a2, a3, a4] [.ref s0] lay M P = mG d 169 36 [a0, a1, a2, a3, a4] [.ref (M.2.2 s0 13)] lay M P := mG_of_and (mIsO_of hs (by decide)) (e_getA (ci := 10) (j := 13) rfl rfl rfl)
set_option maxRecDepth 20000 in
theorem g169_36 {d : Nat} {a1 a2 a3 a4 : Option Value} {s0 : Nat} {x : Nat} {lay : List mShp} {M : mMem} {P : mPost} (hx : ¬ x = 0) : mG (d) 169 36 [some (.ref x), a1, a2, a3, a4] [.ref s0] lay M P = mG d 169 37 [some (.ref x), a1, a2, a3, a4] [.ref x, .ref s0] lay M P := e_aload_nP hx (i := 0) rfl rfl rfl
set_option maxRecDepth 20000 in
theorem g169_37 {d : Nat} {a0 a1 a2 a3 a4 : Option Value} {s0 : Nat} {s1 : Nat} {lay : List mShp} {M : mMem} {P : mPost} (hs : mSh lay s0 = some (13, 44)) : mG (d) 169 37 [a0, a1, a2, a3, a4] [.ref s0, .ref s1] lay M P = mG d 169 40 [a0, a1, a2, a3, a4] [.int (M.1 s0 15), .ref s1] lay M P := mG_of_and (mIsO_of hs (by decide)) (e_getI (ci := 10) (j := 15) rfl rfl rfl)
set_option maxRecDepth 20000 in
theorem g169_40 {d : Nat} {a0 a1 a2 a3 a4 : Option Value} {s0 : Int32} {s1 : Nat} {lay : List mShp} {M : mMem} {P : mPost} (hs : mSh lay s1 = some (0, 120)) : mG (d) 169 40 [a0, a1, a2, a3, a4] [.int s0, .ref s1] lay M P = (mIdx s0 120 = true ∧ mG d 169 41 [a0, a1, a2, a3, a4] [.int (M.1 s1 s0.toNatClampNeg)] lay M P) := e_iaload rfl hs
set_option maxRecDepth 20000 in
theorem g169_41 {d : Nat} {a0 a1 a2 a3 a4 : Option Value} {s0 : Int32} {lay : List mShp} {M : mMem} {P : mPost} (h0 : mNoL a1 = true) : mG (d) 169 41 [a0, a1, a2, a3, a4] [.int s0] lay M P = mG d 169 42 [a0, a1, some (.int s0), a3, a4] [] lay M P := e_istore_n (i := 2) rfl rfl (by simp) (mS1_2 h0)
set_option maxRecDepth 20000 in
theorem g169_42 {d : Nat} {a1 a2 a3 a4 : Option Value} {x : Nat} {lay : List mShp} {M : mMem} {P : mPost} (hx : ¬ x = 0) : mG (d) 169 42 [some (.ref x), a1, a2, a3, a4] [] lay M P = mG d 169 43 [some (.ref x), a1, a2, a3, a4] [.ref x] lay M P := e_aload_nP hx (i := 0) rfl rfl rfl
set_option maxRecDepth 20000 in
theorem g169_43 {d : Nat} {a0 a1 a2 a3 a4 : Option Value} {s0 : Nat} {lay : List mShp} {M : mMem} {P : mPost} : mG (d) 169 43 [a0, a1, a2, a3, a4] [.ref s0] lay M P = mG d 169 44 [a0, a1, a2, a3, a4] [.ref s0, .ref s0] lay M P := e_dupr rfl
set_option maxRecDepth 20000 in
theorem g169_44 {d : Nat} {a0 a1 a2 a3 a4 : Option Value} {s0 : Nat} {s1 : Nat} {lay : List mShp} {M : mMem} {P : mPost} (hs : mSh lay s0 = some (13, 44)) : mG (d) 169 44 [a0, a1, a2, a3, a4] [.ref s0, .ref s1] lay M P = mG d 169 47 [a0, a1, a2, a3, a4] [.int (M.1 s0 15), .ref s1] lay M P := mG_of_and (mIsO_of hs (by decide)) (e_getI (ci := 10) (j := 15) rfl rfl rfl)
set_option maxRecDepth 20000 in
theorem g169_47 {d : Nat} {a0 a1 a2 a3 a4 : Option Value} {s0 : Int32} {s1 : Nat} {lay : List mShp} {M : mMem} {P : mPost} : mG (d) 169 47 [a0, a1, a2, a3, a4] [.int s0, .ref s1] lay M P = mG d 169 48 [a0, a1, a2, a3, a4] [.int (Int32.ofInt 1), .int s0, .ref s1] lay M P := e_iconst rfl
set_option maxRecDepth 20000 in
theorem g169_48 {d : Nat} {a0 a1 a2 a3 a4 : Option Value} {s0 : Int32} {s1 : Int32} {s2 : Nat} {lay : List mShp} {M : mMem} {P : mPost} : mG (d) 169 48 [a0, a1, a2, a3, a4] [.int s0, .int s1, .ref s2] lay M P = mG d 169 49 [a0, a1, a2, a3, a4] [.int (s1 + s0), .ref s2] lay M P := e_iadd rfl
set_option maxRecDepth 20000 in
theorem g169_49 {d : Nat} {a0 a1 a2 a3 a4 : Option Value} {s0 : Int32} {s1 : Nat} {lay : List mShp} {M : mMem} {P : mPost} (hs : mSh lay s1 = some (13, 44)) : mG (d) 169 49 [a0, a1, a2, a3, a4] [.int s0, .ref s1] lay M P = mG d 169 52 [a0, a1, a2, a3, a4] [] lay (mSetI M s1 15 s0) P := mG_of_and (mIsO_of hs (by decide)) (e_putI (ci := 10) (j := 15) rfl rfl (Or.inl rfl) rfl)
set_option maxRecDepth 20000 in
theorem g169_52 {d : Nat} {a1 a2 a3 a4 : Option Value} {x : Nat} {lay : List mShp} {M : mMem} {P : mPost} (hx : ¬ x = 0) : mG (d) 169 52 [some (.ref x), a1, a2, a3, a4] [] lay M P = mG d 169 53 [some (.ref x), a1, a2, a3, a4] [.ref x] lay M P := e_aload_nP hx (i := 0) rfl rfl rfl
set_option maxRecDepth 20000 in
theorem g169_53 {d : Nat} {a0 a1 a2 a3 a4 : Option Value} {s0 : Nat} {lay : List mShp} {M : mMem} {P : mPost} (hs : mSh lay s0 = some (13, 44)) : mG (d + 1) 169 53 [a0, a1, a2, a3, a4] [.ref s0] lay M P = mF d 168 [.ref s0] lay M (fun v lay1 M1 => mG (d + 1) 169 56 [a0, a1, a2, a3, a4] (v.toList ++ []) lay1 M1 P) := e_virtP0 (j := 168) (c := 10) rfl rfl rfl rfl rfl rfl hs (Nat.le_of_ble_eq_true rfl)
set_option maxRecDepth 20000 in
theorem g169_56 {d : Nat} {a0 a1 a2 a3 a4 : Option Value} {s0 : Int32} {lay : List mShp} {M : mMem} {P : mPost} (h0 : mNoL a2 = true) : mG (d) 169 56 [a0, a1, a2, a3, a4] [.int s0] lay M P = mG d 169 57 [a0, a1, a2, some (.int s0), a4] [] lay M P := e_istore_n (i := 3) rfl rfl (by simp) (mS1_3 h0)
set_option maxRecDepth 20000 in
theorem g169_57 {d : Nat} {a0 a1 a3 a4 : Option Value} {x : Int32} {lay : List mShp} {M : mMem} {P : mPost} : mG (d) 169 57 [a0, a1, some (.int x), a3, a4] [] lay M P = mG d 169 58 [a0, a1, some (.int x), a3, a4] [.int x] lay M P := e_iload_n (i := 2) rfl rfl rfl
set_option maxRecDepth 20000 in
theorem g169_58 {d : Nat} {a0 a1 a2 a3 a4 : Option Value} {s0 : Int32} {lay : List mShp} {M : mMem} {P : mPost} : mG (d) 169 58 [a0, a1, a2, a3, a4] [.int s0] lay M P = mG d 169 60 [a0, a1, a2, a3, a4] [.int (Int32.ofInt 60), .int s0] lay M P := e_bipush rfl
set_option maxRecDepth 20000 in
theorem g169_60 {d : Nat} {a0 a1 a2 a3 a4 : Option Value} {s0 : Int32} {s1 : Int32} {lay : List mShp} {M : mMem} {P : mPost} : mG (d) 169 60 [a0, a1, a2, a3, a4] [.int s0, .int s1] lay M P = if s1 = s0 then mG d 169 63 [a0, a1, a2, a3, a4] [] lay M P else mG d 169 76 [a0, a1, a2, a3, a4] [] lay M P := e_icmp_ne rfl rfl
set_option maxRecDepth 20000 in
theorem g169_63 {d : Nat} {a0 a2 a3 a4 : Option Value} {x : Int32} {lay : List mShp} {M : mMem} {P : mPost} : mG (d) 169 63 [a0, some (.int x), a2, a3, a4] [] lay M P = mG d 169 64 [a0, some (.int x), a2, a3, a4] [.int x] lay M P := e_iload_n (i := 1) rfl rfl rfl
set_option maxRecDepth 20000 in
theorem g169_64 {d : Nat} {a0 a1 a2 a4 : Option Value} {s0 : Int32} {x : Int32} {lay : List mShp} {M : mMem} {P : mPost} : mG (d) 169 64 [a0, a1, a2, some (.int x), a4] [.int s0] lay M P = mG d 169 65 [a0, a1, a2, some (.int x), a4] [.int x, .int s0] lay M P := e_iload_n (i := 3) rfl rfl rfl
set_option maxRecDepth 20000 in
theorem g169_65 {d : Nat} {a0 a1 a2 a3 a4 : Option Value} {s0 : Int32} {s1 : Int32} {lay : List mShp} {M : mMem} {P : mPost} : mG (d) 169 65 [a0, a1, a2, a3, a4] [.int s0, .int s1] lay M P = if s1 < s0 then mG d 169 68 [a0, a1, a2, a3, a4] [] lay M P else mG d 169 72 [a0, a1, a2, a3, a4] [] lay M P := e_icmp_ge rfl rfl
set_option maxRecDepth 20000 in
theorem g169_68 {d : Nat} {a0 a1 a2 a3 a4 : Option Value} {lay : List mShp} {M : mMem} {P : mPost} : mG (d) 169 68 [a0, a1, a2, a3, a4] [] lay M P = mG d 169 69 [a0, a1, a2, a3, a4] [.int (Int32.ofInt 1)] lay M P := e_iconst rfl
set_option maxRecDepth 20000 in
theorem g169_69 {d : Nat} {a0 a1 a2 a3 a4 : Option Value} {s0 : Int32} {lay : List mShp} {M : mMem} {P : mPost} : mG (d) 169 69 [a0, a1, a2, a3, a4] [.int s0] lay M P = mG d 169 105 [a0, a1, a2, a3, a4] [.int s0] lay M P := e_goto rfl rfl
set_option maxRecDepth 20000 in
theorem g169_72 {d : Nat} {a0 a1 a2 a3 a4 : Option Value} {lay : List mShp} {M : mMem} {P : mPost} : mG (d) 169 72 [a0, a1, a2, a3, a4] [] lay M P = mG d 169 73 [a0, a1, a2, a3, a4] [.int (Int32.ofInt 0)] lay M P := e_iconst rfl
set_option maxRecDepth 20000 in
theorem g169_73 {d : Nat} {a0 a1 a2 a3 a4 : Option Value} {s0 : Int32} {lay : List mShp} {M : mMem} {P : mPost} : mG (d) 169 73 [a0, a1, a2, a3, a4] [.int s0] lay M P = mG d 169 105 [a0, a1, a2, a3, a4] [.int s0] lay M P := e_goto rfl rfl
set_option maxRecDepth 20000 in
theorem g169_76 {d : Nat} {a0 a1 a3 a4 : Option Value} {x : Int32} {lay : List mShp} {M : mMem} {P : mPost} : mG (d) 169 76 [a0, a1, some (.int x), a3, a4] [] lay M P = mG d 169 77 [a0, a1, some (.int x), a3, a4] [.int x] lay M P := e_iload_n (i := 2) rfl rfl rfl
set_option maxRecDepth 20000 in
theorem g169_77 {d : Nat} {a0 a1 a2 a3 a4 : Option Value} {s0 : Int32} {lay : List mShp} {M : mMem} {P : mPost} : mG (d) 169 77 [a0, a1, a2, a3, a4] [.int s0] lay M P = mG d 169 79 [a0, a1, a2, a3, a4] [.int (Int32.ofInt 61), .int s0] lay M P := e_bipush rfl
set_option maxRecDepth 20000 in
theorem g169_79 {d : Nat} {a0 a1 a2 a3 a4 : Option Value} {s0 : Int32} {s1 : Int32} {lay : List mShp} {M : mMem} {P : mPost} : mG (d) 169 79 [a0, a1, a2, a3, a4] [.int s0, .int s1] lay M P = if s1 = s0 then mG d 169 82 [a0, a1, a2, a3, a4] [] lay M P else mG d 169 95 [a0, a1, a2, a3, a4] [] lay M P := e_icmp_ne rfl rfl
set_option maxRecDepth 20000 in
theorem g169_82 {d : Nat} {a0 a2 a3 a4 : Option Value} {x : Int32} {lay : List mShp} {M : mMem} {P : mPost} : mG (d) 169 82 [a0, some (.int x), a2, a3, a4] [] lay M P = mG d 169 83 [a0, some (.int x), a2, a3, a4] [.int x] lay M P := e_iload_n (i := 1) rfl rfl rfl
set_option maxRecDepth 20000 in
theorem g169_83 {d : Nat} {a0 a1 a2 a4 : Option Value} {s0 : Int32} {x : Int32} {lay : List mShp} {M : mMem} {P : mPost} : mG (d) 169 83 [a0, a1, a2, some (.int x), a4] [.int s0] lay M P = mG d 169 84 [a0, a1, a2, some (.int x), a4] [.int x, .int s0] lay M P := e_iload_n (i := 3) rfl rfl rfl
set_option maxRecDepth 20000 in
theorem g169_84 {d : Nat} {a0 a1 a2 a3 a4 : Option Value} {s0 : Int32} {s1 : Int32} {lay : List mShp} {M : mMem} {P : mPost} : mG (d) 169 84 [a0, a1, a2, a3, a4] [.int s0, .int s1] lay M P = if s1 = s0 then mG d 169 87 [a0, a1, a2, a3, a4] [] lay M P else mG d 169 91 [a0, a1, a2, a3, a4] [] lay M P := e_icmp_ne rfl rfl
set_option maxRecDepth 20000 in
theorem g169_87 {d : Nat} {a0 a1 a2 a3 a4 : Option Value} {lay : List mShp} {M : mMem} {P : mPost} : mG (d) 169 87 [a0, a1, a2, a3, a4] [] lay M P = mG d 169 88 [a0, a1, a2, a3, a4] [.int (Int32.ofInt 1)] lay M P := e_iconst rfl
set_option maxRecDepth 20000 in
theorem g169_88 {d : Nat} {a0 a1 a2 a3 a4 : Option Value} {s0 : Int32} {lay : List mShp} {M : mMem} {P : mPost} : mG (d) 169 88 [a0, a1, a2, a3, a4] [.int s0] lay M P = mG d 169 105 [a0, a1, a2, a3, a4] [.int s0] lay M P := e_goto rfl rfl
set_option maxRecDepth 20000 in
theorem g169_91 {d : Nat} {a0 a1 a2 a3 a4 : Option Value} {lay : List mShp} {M : mMem} {P : mPost} : mG (d) 169 91 [a0, a1, a2, a3, a4] [] lay M P = mG d 169 92 [a0, a1, a2, a3, a4] [.int (Int32.ofInt 0)] lay M P := e_iconst rfl
set_option maxRecDepth 20000 in
theorem g169_92 {d : Nat} {a0 a1 a2 a3 a4 : Option Value} {s0 : Int32} {lay : List mShp} {M : mMem} {P : mPost} : mG (d) 169 92 [a0, a1, a2, a3, a4] [.int s0] lay M P = mG d 169 105 [a0, a1, a2, a3, a4] [.int s0] lay M P := e_goto rfl rfl
set_option maxRecDepth 20000 in
theorem g169_95 {d : Nat} {a0 a2 a3 a4 : Option Value} {x : Int32} {lay : List mShp} {M : mMem} {P : mPost} : mG (d) 169 95 [a0, some (.int x), a2, a3, a4] [] lay M P = mG d 169 96 [a0, some (.int x), a2, a3, a4] [.int x] lay M P := e_iload_n (i := 1) rfl rfl rfl
set_option maxRecDepth 20000 in
theorem g169_96 {d : Nat} {a0 a1 a2 a4 : Option Value} {s0 : Int32} {x : Int32} {lay : List mShp} {M : mMem} {P : mPost} : mG (d) 169 96 [a0, a1, a2, some (.int x), a4] [.int s0] lay M P = mG d 169 97 [a0, a1, a2, some (.int x), a4] [.int x, .int s0] lay M P := e_iload_n (i := 3) rfl rfl rfl
set_option maxRecDepth 20000 in
theorem g169_97 {d : Nat} {a0 a1 a2 a3 a4 : Option Value} {s0 : Int32} {s1 : Int32} {lay : List mShp} {M : mMem} {P : mPost} : mG (d) 169 97 [a0, a1, a2, a3, a4] [.int s0, .int s1] lay M P = if s0 < s1 then mG d 169 100 [a0, a1, a2, a3, a4] [] lay M P else mG d 169 104 [a0, a1, a2, a3, a4] [] lay M P := e_icmp_le rfl rfl
set_option maxRecDepth 20000 in
theorem g169_100 {d : Nat} {a0 a1 a2 a3 a4 : Option Value} {lay : List mShp} {M : mMem} {P : mPost} : mG (d) 169 100 [a0, a1, a2, a3, a4] [] lay M P = mG d 169 101 [a0, a1, a2, a3, a4] [.int (Int32.ofInt 1)] lay M P := e_iconst rfl
set_option maxRecDepth 20000 in
theorem g169_101 {d : Nat} {a0 a1 a2 a3 a4 : Option Value} {s0 : Int32} {lay : List mShp} {M : mMem} {P : mPost} : mG (d) 169 101 [a0, a1, a2, a3, a4] [.int s0] lay M P = mG d 169 105 [a0, a1, a2, a3, a4] [.int s0] lay M P := e_goto rfl rfl
set_option maxRecDepth 20000 in
theorem g169_104 {d : Nat} {a0 a1 a2 a3 a4 : Option Value} {lay : List mShp} {M : mMem} {P : mPost} : mG (d) 169 104 [a0, a1, a2, a3, a4] [] lay M P = mG d 169 105 [a0, a1, a2, a3, a4] [.int (Int32.ofInt 0)] lay M P := e_iconst rfl
set_option maxRecDepth 20000 in
theorem g169_105 {d : Nat} {a0 a1 a2 a3 a4 : Option Value} {s0 : Int32} {lay : List mShp} {M : mMem} {P : mPost} (h0 : mNoL a3 = true) : mG (d) 169 105 [a0, a1, a2, a3, a4] [.int s0] lay M P = mG d 169 107 [a0, a1, a2, a3, some (.int s0)] [] lay M P := e_istore (i := 4) rfl (by simp) (mS1_4 h0)
set_option maxRecDepth 20000 in
theorem g169_107 {d : Nat} {a0 a1 a2 a3 : Option Value} {x : Int32} {lay : List mShp} {M : mMem} {P : mPost} : mG (d) 169 107 [a0, a1, a2, a3, some (.int x)] [] lay M P = mG d 169 109 [a0, a1, a2, a3, some (.int x)] [.int x] lay M P := e_iload (i := 4) rfl rfl
set_option maxRecDepth 20000 in
theorem g169_109 {d : Nat} {a0 a1 a2 a3 a4 : Option Value} {s0 : Int32} {lay : List mShp} {M : mMem} {P : mPost} : mG (d) 169 109 [a0, a1, a2, a3, a4] [.int s0] lay M P = if s0 = 0 then mG d 169 116 [a0, a1, a2, a3, a4] [] lay M P else mG d 169 112 [a0, a1, a2, a3, a4] [] lay M P := e_if_eq rfl rfl
set_option maxRecDepth 20000 in
theorem g169_112 {d : Nat} {a0 a1 a2 a3 a4 : Option Value} {lay : List mShp} {M : mMem} {P : mPost} : mG (d) 169 112 [a0, a1, a2, a3, a4] [] lay M P = mG d 169 113 [a0, a1, a2, a3, a4] [.int (Int32.ofInt 1)] lay M P := e_iconst rfl
set_option maxRecDepth 20000 in
theorem g169_113 {d : Nat} {a0 a1 a2 a3 a4 : Option Value} {s0 : Int32} {lay : List mShp} {M : mMem} {P : mPost} : mG (d) 169 113 [a0, a1, a2, a3, a4] [.int s0] lay M P = mG d 169 117 [a0, a1, a2, a3, a4] [.int s0] lay M P := e_goto rfl rfl
set_option maxRecDepth 20000 in
theorem g169_116 {d : Nat} {a0 a1 a2 a3 a4 : Option Value} {lay : List mShp} {M : mMem} {P : mPost} : mG (d) 169 116 [a0, a1, a2, a3, a4] [] lay M P = mG d 169 117 [a0, a1, a2, a3, a4] [.int (Int32.ofInt 0)] lay M P := e_iconst rfl
set_option maxRecDepth 20000 in
theorem g169_117 {d : Nat} {a0 a1 a2 a3 a4 : Option Value} {s0 : Int32} {lay : List mShp} {M : mMem} {P : mPost} (h0 : mNoL a0 = true) : mG (d) 169 117 [a0, a1, a2, a3, a4] [.int s0] lay M P = mG d 169 118 [a0, some (.int s0), a2, a3, a4] [] lay M P := e_istore_n (i := 1) rfl rfl (by simp) (mS1_1 h0)
set_option maxRecDepth 20000 in
theorem g169_118 {d : Nat} {a0 a2 a3 a4 : Option Value} {x : Int32} {lay : List mShp} {M : mMem} {P : mPost} : mG (d) 169 118 [a0, some (.int x), a2, a3, a4] [] lay M P = mG d 169 119 [a0, some (.int x), a2, a3, a4] [.int x] lay M P := e_iload_n (i := 1) rfl rfl rfl
set_option maxRecDepth 20000 in
theorem g169_119 {d : Nat} {a0 a1 a2 a3 a4 : Option Value} {s0 : Int32} {lay : List mShp} {M : mMem} {P : mPost} : mG (d) 169 119 [a0, a1, a2, a3, a4] [.int s0] lay M P = P (some (.int s0)) lay M := e_ireturnI rfl rfl
-- 170 X10_both
theorem g170_in {d : Nat} {x0 : Nat} {lay : List mShp} {M : mMem} {P : mPost} : mF d 170 [.ref x0] lay M P = mG d 170 0 [some (.ref x0), none, none] [] lay M P := mF_in rfl rfl
set_option maxRecDepth 20000 in
theorem g170_0 {d : Nat} {a1 a2 : Option Value} {x : Nat} {lay : List mShp} {M : mMem} {P : mPost} (hx : ¬ x = 0) : mG (d) 170 0 [some (.ref x), a1, a2] [] lay M P = mG d 170 1 [some (.ref x), a1, a2] [.ref x] lay M P := e_aload_nP hx (i := 0) rfl rfl rfl
set_option maxRecDepth 20000 in
theorem g170_1 {d : Nat} {a0 a1 a2 : Option Value} {s0 : Nat} {lay : List mShp} {M : mMem} {P : mPost} (hs : mSh lay s0 = some (13, 44)) : mG (d + 1) 170 1 [a0, a1, a2] [.ref s0] lay M P = mF d 169 [.ref s0] lay M (fun v lay1 M1 => mG (d + 1) 170 4 [a0, a1, a2] (v.toList ++ []) lay1 M1 P) := e_virtP0 (j := 169) (c := 10) rfl rfl rfl rfl rfl rfl hs (Nat.le_of_ble_eq_true rfl)
set_option maxRecDepth 20000 in
theorem g170_4 {d : Nat} {a0 a1 a2 : Option Value} {s0 : Int32} {lay : List mShp} {M : mMem} {P : mPost} (h0 : mNoL a0 = true) : mG (d) 170 4 [a0, a1, a2] [.int s0] lay M P = mG d 170 5 [a0, some (.int s0), a2] [] lay M P := e_istore_n (i := 1) rfl rfl (by simp) (mS1_1 h0)
set_option maxRecDepth 20000 in
theorem g170_5 {d : Nat} {a1 a2 : Option Value} {x : Nat} {lay : List mShp} {M : mMem} {P : mPost} (hx : ¬ x = 0) : mG (d) 170 5 [some (.ref x), a1, a2] [] lay M P = mG d 170 6 [some (.ref x), a1, a2] [.ref x] lay M P := e_aload_nP hx (i := 0) rfl rfl rfl
set_option maxRecDepth 20000 in
theorem g170_6 {d : Nat} {a0 a1 a2 : Option Value} {s0 : Nat} {lay : List mShp} {M : mMem} {P : mPost} : mG (d) 170 6 [a0, a1, a2] [.ref s0] lay M P = mG d 170 8 [a0, a1, a2] [.int (Int32.ofInt 38), .ref s0] lay M P := e_bipush rfl
set_option maxRecDepth 20000 in
theorem g170_8 {d : Nat} {a0 a1 a2 : Option Value} {s0 : Int32} {s1 : Nat} {lay : List mShp} {M : mMem} {P : mPost} (hs : mSh lay s1 = some (13, 44)) : mG (d + 1) 170 8 [a0, a1, a2] [.int s0, .ref s1] lay M P = mF d 162 [.ref s1, .int s0] lay M (fun v lay1 M1 => mG (d + 1) 170 11 [a0, a1, a2] (v.toList ++ []) lay1 M1 P) := e_virtP1 (j := 162) (c := 10) rfl rfl rfl rfl rfl rfl hs (Nat.le_of_ble_eq_true rfl)
set_option maxRecDepth 20000 in
theorem g170_11 {d : Nat} {a0 a1 a2 : Option Value} {s0 : Int32} {lay : List mShp} {M : mMem} {P : mPost} : mG (d) 170 11 [a0, a1, a2] [.int s0] lay M P = if s0 = 0 then mG d 170 46 [a0, a1, a2] [] lay M P else mG d 170 14 [a0, a1, a2] [] lay M P := e_if_eq rfl rfl
set_option maxRecDepth 20000 in
theorem g170_14 {d : Nat} {a1 a2 : Option Value} {x : Nat} {lay : List mShp} {M : mMem} {P : mPost} (hx : ¬ x = 0) : mG (d) 170 14 [some (.ref x), a1, a2] [] lay M P = mG d 170 15 [some (.ref x), a1, a2] [.ref x] lay M P := e_aload_nP hx (i := 0) rfl rfl rfl
set_option maxRecDepth 20000 in
theorem g170_15 {d : Nat} {a0 a1 a2 : Option Value} {s0 : Nat} {lay : List mShp} {M : mMem} {P : mPost} : mG (d) 170 15 [a0, a1, a2] [.ref s0] lay M P = mG d 170 16 [a0, a1, a2] [.ref s0, .ref s0] lay M P := e_dupr rfl
set_option maxRecDepth 20000 in
theorem g170_16 {d : Nat} {a0 a1 a2 : Option Value} {s0 : Nat} {s1 : Nat} {lay : List mShp} {M : mMem} {P : mPost} (hs : mSh lay s0 = some (13, 44)) : mG (d) 170 16 [a0, a1, a2] [.ref s0, .ref s1] lay M P = mG d 170 19 [a0, a1, a2] [.int (M.1 s0 15), .ref s1] lay M P := mG_of_and (mIsO_of hs (by decide)) (e_getI (ci := 10) (j := 15) rfl rfl rfl)
set_option maxRecDepth 20000 in
theorem g170_19 {d : Nat} {a0 a1 a2 : Option Value} {s0 : Int32} {s1 : Nat} {lay : List mShp} {M : mMem} {P : mPost} : mG (d) 170 19 [a0, a1, a2] [.int s0, .ref s1] lay M P = mG d 170 20 [a0, a1, a2] [.int (Int32.ofInt 1), .int s0, .ref s1] lay M P := e_iconst rfl
set_option maxRecDepth 20000 in
theorem g170_20 {d : Nat} {a0 a1 a2 : Option Value} {s0 : Int32} {s1 : Int32} {s2 : Nat} {lay : List mShp} {M : mMem} {P : mPost} : mG (d) 170 20 [a0, a1, a2] [.int s0, .int s1, .ref s2] lay M P = mG d 170 21 [a0, a1, a2] [.int (s1 + s0), .ref s2] lay M P := e_iadd rfl
set_option maxRecDepth 20000 in
theorem g170_21 {d : Nat} {a0 a1 a2 : Option Value} {s0 : Int32} {s1 : Nat} {lay : List mShp} {M : mMem} {P : mPost} (hs : mSh lay s1 = some (13, 44)) : mG (d) 170 21 [a0, a1, a2] [.int s0, .ref s1] lay M P = mG d 170 24 [a0, a1, a2] [] lay (mSetI M s1 15 s0) P := mG_of_and (mIsO_of hs (by decide)) (e_putI (ci := 10) (j := 15) rfl rfl (Or.inl rfl) rfl)
set_option maxRecDepth 20000 in
theorem g170_24 {d : Nat} {a1 a2 : Option Value} {x : Nat} {lay : List mShp} {M : mMem} {P : mPost} (hx : ¬ x = 0) : mG (d) 170 24 [some (.ref x), a1, a2] [] lay M P = mG d 170 25 [some (.ref x), a1, a2] [.ref x] lay M P := e_aload_nP hx (i := 0) rfl rfl rfl
set_option maxRecDepth 20000 in
theorem g170_25 {d : Nat} {a0 a1 a2 : Option Value} {s0 : Nat} {lay : List mShp} {M : mMem} {P : mPost} (hs : mSh lay s0 = some (13, 44)) : mG (d + 1) 170 25 [a0, a1, a2] [.ref s0] lay M P = mF d 169 [.ref s0] lay M (fun v lay1 M1 => mG (d + 1) 170 28 [a0, a1, a2] (v.toList ++ []) lay1 M1 P) := e_virtP0 (j := 169) (c := 10) rfl rfl rfl rfl rfl rfl hs (Nat.le_of_ble_eq_true rfl)
set_option maxRecDepth 20000 in
theorem g170_28 {d : Nat} {a0 a1 a2 : Option Value} {s0 : Int32} {lay : List mShp} {M : mMem} {P : mPost} (h0 : mNoL a1 = true) : mG (d) 170 28 [a0, a1, a2] [.int s0] lay M P = mG d 170 29 [a0, a1, some (.int s0)] [] lay M P := e_istore_n (i := 2) rfl rfl (by simp) (mS1_2 h0)
set_option maxRecDepth 20000 in
theorem g170_29 {d : Nat} {a0 a2 : Option Value} {x : Int32} {lay : List mShp} {M : mMem} {P : mPost} : mG (d) 170 29 [a0, some (.int x), a2] [] lay M P = mG d 170 30 [a0, some (.int x), a2] [.int x] lay M P := e_iload_n (i := 1) rfl rfl rfl
set_option maxRecDepth 20000 in
theorem g170_30 {d : Nat} {a0 a1 a2 : Option Value} {s0 : Int32} {lay : List mShp} {M : mMem} {P : mPost} : mG (d) 170 30 [a0, a1, a2] [.int s0] lay M P = if s0 = 0 then mG d 170 41 [a0, a1, a2] [] lay M P else mG d 170 33 [a0, a1, a2] [] lay M P := e_if_eq rfl rfl
set_option maxRecDepth 20000 in
theorem g170_33 {d : Nat} {a0 a1 : Option Value} {x : Int32} {lay : List mShp} {M : mMem} {P : mPost} : mG (d) 170 33 [a0, a1, some (.int x)] [] lay M P = mG d 170 34 [a0, a1, some (.int x)] [.int x] lay M P := e_iload_n (i := 2) rfl rfl rfl
set_option maxRecDepth 20000 in
theorem g170_34 {d : Nat} {a0 a1 a2 : Option Value} {s0 : Int32} {lay : List mShp} {M : mMem} {P : mPost} : mG (d) 170 34 [a0, a1, a2] [.int s0] lay M P = if s0 = 0 then mG d 170 41 [a0, a1, a2] [] lay M P else mG d 170 37 [a0, a1, a2] [] lay M P := e_if_eq rfl rfl
set_option maxRecDepth 20000 in
theorem g170_37 {d : Nat} {a0 a1 a2 : Option Value} {lay : List mShp} {M : mMem} {P : mPost} : mG (d) 170 37 [a0, a1, a2] [] lay M P = mG d 170 38 [a0, a1, a2] [.int (Int32.ofInt 1)] lay M P := e_iconst rfl
set_option maxRecDepth 20000 in
theorem g170_38 {d : Nat} {a0 a1 a2 : Option Value} {s0 : Int32} {lay : List mShp} {M : mMem} {P : mPost} : mG (d) 170 38 [a0, a1, a2] [.int s0] lay M P = mG d 170 42 [a0, a1, a2] [.int s0] lay M P := e_goto rfl rfl
set_option maxRecDepth 20000 in
theorem g170_41 {d : Nat} {a0 a1 a2 : Option Value} {lay : List mShp} {M : mMem} {P : mPost} : mG (d) 170 41 [a0, a1, a2] [] lay M P = mG d 170 42 [a0, a1, a2] [.int (Int32.ofInt 0)] lay M P := e_iconst rfl
set_option maxRecDepth 20000 in
theorem g170_42 {d : Nat} {a0 a1 a2 : Option Value} {s0 : Int32} {lay : List mShp} {M : mMem} {P : mPost} (h0 : mNoL a0 = true) : mG (d) 170 42 [a0, a1, a2] [.int s0] lay M P = mG d 170 43 [a0, some (.int s0), a2] [] lay M P := e_istore_n (i := 1) rfl rfl (by simp) (mS1_1 h0)
set_option maxRecDepth 20000 in
theorem g170_43 {d : Nat} {a0 a1 a2 : Option Value} {lay : List mShp} {M : mMem} {P : mPost} : mG (d) 170 43 [a0, a1, a2] [] lay M P = mG d 170 5 [a0, a1, a2] [] lay M P := e_goto rfl rfl
set_option maxRecDepth 20000 in
theorem g170_46 {d : Nat} {a0 a2 : Option Value} {x : Int32} {lay : List mShp} {M : mMem} {P : mPost} : mG (d) 170 46 [a0, some (.int x), a2] [] lay M P = mG d 170 47 [a0, some (.int x), a2] [.int x] lay M P := e_iload_n (i := 1) rfl rfl rfl
set_option maxRecDepth 20000 in
theorem g170_47 {d : Nat} {a0 a1 a2 : Option Value} {s0 : Int32} {lay : List mShp} {M : mMem} {P : mPost} : mG (d) 170 47 [a0, a1, a2] [.int s0] lay M P = P (some (.int s0)) lay M := e_ireturnI rfl rfl
-- 171 X10_any
theorem g171_in {d : Nat} {x0 : Nat} {lay : List mShp} {M : mMem} {P : mPost} : mF d 171 [.ref x0] lay M P = mG d 171 0 [some (.ref x0), none, none] [] lay M P := mF_in rfl rfl
set_option maxRecDepth 20000 in
theorem g171_0 {d : Nat} {a1 a2 : Option Value} {x : Nat} {lay : List mShp} {M : mMem} {P : mPost} (hx : ¬ x = 0) : mG (d) 171 0 [some (.ref x), a1, a2] [] lay M P = mG d 171 1 [some (.ref x), a1, a2] [.ref x] lay M P := e_aload_nP hx (i := 0) rfl rfl rfl
set_option maxRecDepth 20000 in
theorem g171_1 {d : Nat} {a0 a1 a2 : Option Value} {s0 : Nat} {lay : List mShp} {M : mMem} {P : mPost} (hs : mSh lay s0 = some (13, 44)) : mG (d + 1) 171 1 [a0, a1, a2] [.ref s0] lay M P = mF d 170 [.ref s0] lay M (fun v lay1 M1 => mG (d + 1) 171 4 [a0, a1, a2] (v.toList ++ []) lay1 M1 P) := e_virtP0 (j := 170) (c := 10) rfl rfl rfl rfl rfl rfl hs (Nat.le_of_ble_eq_true rfl)
set_option maxRecDepth 20000 in
theorem g171_4 {d : Nat} {a0 a1 a2 : Option Value} {s0 : Int32} {lay : List mShp} {M : mMem} {P : mPost} (h0 : mNoL a0 = true) : mG (d) 171 4 [a0, a1, a2] [.int s0] lay M P = mG d 171 5 [a0, some (.int s0), a2] [] lay M P := e_istore_n (i := 1) rfl rfl (by simp) (mS1_1 h0)
set_option maxRecDepth 20000 in
theorem g171_5 {d : Nat} {a1 a2 : Option Value} {x : Nat} {lay : List mShp} {M : mMem} {P : mPost} (hx : ¬ x = 0) : mG (d) 171 5 [some (.ref x), a1, a2] [] lay M P = mG d 171 6 [some (.ref x), a1, a2] [.ref x] lay M P := e_aload_nP hx (i := 0) rfl rfl rfl
set_option maxRecDepth 20000 in
theorem g171_6 {d : Nat} {a0 a1 a2 : Option Value} {s0 : Nat} {lay : List mShp} {M : mMem} {P : mPost} : mG (d) 171 6 [a0, a1, a2] [.ref s0] lay M P = mG d 171 8 [a0, a1, a2] [.int (Int32.ofInt 124), .ref s0] lay M P := e_bipush rfl
set_option maxRecDepth 20000 in
theorem g171_8 {d : Nat} {a0 a1 a2 : Option Value} {s0 : Int32} {s1 : Nat} {lay : List mShp} {M : mMem} {P : mPost} (hs : mSh lay s1 = some (13, 44)) : mG (d + 1) 171 8 [a0, a1, a2] [.int s0, .ref s1] lay M P = mF d 162 [.ref s1, .int s0] lay M (fun v lay1 M1 => mG (d + 1) 171 11 [a0, a1, a2] (v.toList ++ []) lay1 M1 P) := e_virtP1 (j := 162) (c := 10) rfl rfl rfl rfl rfl rfl hs (Nat.le_of_ble_eq_true rfl)
set_option maxRecDepth 20000 in
theorem g171_11 {d : Nat} {a0 a1 a2 : Option Value} {s0 : Int32} {lay : List mShp} {M : mMem} {P : mPost} : mG (d) 171 11 [a0, a1, a2] [.int s0] lay M P = if s0 = 0 then mG d 171 46 [a0, a1, a2] [] lay M P else mG d 171 14 [a0, a1, a2] [] lay M P := e_if_eq rfl rfl
set_option maxRecDepth 20000 in
theorem g171_14 {d : Nat} {a1 a2 : Option Value} {x : Nat} {lay : List mShp} {M : mMem} {P : mPost} (hx : ¬ x = 0) : mG (d) 171 14 [some (.ref x), a1, a2] [] lay M P = mG d 171 15 [some (.ref x), a1, a2] [.ref x] lay M P := e_aload_nP hx (i := 0) rfl rfl rfl
set_option maxRecDepth 20000 in
theorem g171_15 {d : Nat} {a0 a1 a2 : Option Value} {s0 : Nat} {lay : List mShp} {M : mMem} {P : mPost} : mG (d) 171 15 [a0, a1, a2] [.ref s0] lay M P = mG d 171 16 [a0, a1, a2] [.ref s0, .ref s0] lay M P := e_dupr rfl
set_option maxRecDepth 20000 in
theorem g171_16 {d : Nat} {a0 a1 a2 : Option Value} {s0 : Nat} {s1 : Nat} {lay : List mShp} {M : mMem} {P : mPost} (hs : mSh lay s0 = some (13, 44)) : mG (d) 171 16 [a0, a1, a2] [.ref s0, .ref s1] lay M P = mG d 171 19 [a0, a1, a2] [.int (M.1 s0 15), .ref s1] lay M P := mG_of_and (mIsO_of hs (by decide)) (e_getI (ci := 10) (j := 15) rfl rfl rfl)
set_option maxRecDepth 20000 in
theorem g171_19 {d : Nat} {a0 a1 a2 : Option Value} {s0 : Int32} {s1 : Nat} {lay : List mShp} {M : mMem} {P : mPost} : mG (d) 171 19 [a0, a1, a2] [.int s0, .ref s1] lay M P = mG d 171 20 [a0, a1, a2] [.int (Int32.ofInt 1), .int s0, .ref s1] lay M P := e_iconst rfl
set_option maxRecDepth 20000 in
theorem g171_20 {d : Nat} {a0 a1 a2 : Option Value} {s0 : Int32} {s1 : Int32} {s2 : Nat} {lay : List mShp} {M : mMem} {P : mPost} : mG (d) 171 20 [a0, a1, a2] [.int s0, .int s1, .ref s2] lay M P = mG d 171 21 [a0, a1, a2] [.int (s1 + s0), .ref s2] lay M P := e_iadd rfl
set_option maxRecDepth 20000 in
theorem g171_21 {d : Nat} {a0 a1 a2 : Option Value} {s0 : Int32} {s1 : Nat} {lay : List mShp} {M : mMem} {P : mPost} (hs : mSh lay s1 = some (13, 44)) : mG (d) 171 21 [a0, a1, a2] [.int s0, .ref s1] lay M P = mG d 171 24 [a0, a1, a2] [] lay (mSetI M s1 15 s0) P := mG_of_and (mIsO_of hs (by decide)) (e_putI (ci := 10) (j := 15) rfl rfl (Or.inl rfl) rfl)
set_option maxRecDepth 20000 in
theorem g171_24 {d : Nat} {a1 a2 : Option Value} {x : Nat} {lay : List mShp} {M : mMem} {P : mPost} (hx : ¬ x = 0) : mG (d) 171 24 [some (.ref x), a1, a2] [] lay M P = mG d 171 25 [some (.ref x), a1, a2] [.ref x] lay M P := e_aload_nP hx (i := 0) rfl rfl rfl
set_option maxRecDepth 20000 in
theorem g171_25 {d : Nat} {a0 a1 a2 : Option Value} {s0 : Nat} {lay : List mShp} {M : mMem} {P : mPost} (hs : mSh lay s0 = some (13, 44)) : mG (d + 1) 171 25 [a0, a1, a2] [.ref s0] lay M P = mF d 170 [.ref s0] lay M (fun v lay1 M1 => mG (d + 1) 171 28 [a0, a1, a2] (v.toList ++ []) lay1 M1 P) := e_virtP0 (j := 170) (c := 10) rfl rfl rfl rfl rfl rfl hs (Nat.le_of_ble_eq_true rfl)
set_option maxRecDepth 20000 in
theorem g171_28 {d : Nat} {a0 a1 a2 : Option Value} {s0 : Int32} {lay : List mShp} {M : mMem} {P : mPost} (h0 : mNoL a1 = true) : mG (d) 171 28 [a0, a1, a2] [.int s0] lay M P = mG d 171 29 [a0, a1, some (.int s0)] [] lay M P := e_istore_n (i := 2) rfl rfl (by simp) (mS1_2 h0)
set_option maxRecDepth 20000 in
theorem g171_29 {d : Nat} {a0 a2 : Option Value} {x : Int32} {lay : List mShp} {M : mMem} {P : mPost} : mG (d) 171 29 [a0, some (.int x), a2] [] lay M P = mG d 171 30 [a0, some (.int x), a2] [.int x] lay M P := e_iload_n (i := 1) rfl rfl rfl
set_option maxRecDepth 20000 in
theorem g171_30 {d : Nat} {a0 a1 a2 : Option Value} {s0 : Int32} {lay : List mShp} {M : mMem} {P : mPost} : mG (d) 171 30 [a0, a1, a2] [.int s0] lay M P = if s0 = 0 then mG d 171 33 [a0, a1, a2] [] lay M P else mG d 171 37 [a0, a1, a2] [] lay M P := e_if_ne rfl rfl
set_option maxRecDepth 20000 in
theorem g171_33 {d : Nat} {a0 a1 : Option Value} {x : Int32} {lay : List mShp} {M : mMem} {P : mPost} : mG (d) 171 33 [a0, a1, some (.int x)] [] lay M P = mG d 171 34 [a0, a1, some (.int x)] [.int x] lay M P := e_iload_n (i := 2) rfl rfl rfl
set_option maxRecDepth 20000 in
theorem g171_34 {d : Nat} {a0 a1 a2 : Option Value} {s0 : Int32} {lay : List mShp} {M : mMem} {P : mPost} : mG (d) 171 34 [a0, a1, a2] [.int s0] lay M P = if s0 = 0 then mG d 171 41 [a0, a1, a2] [] lay M P else mG d 171 37 [a0, a1, a2] [] lay M P := e_if_eq rfl rfl
set_option maxRecDepth 20000 in
theorem g171_37 {d : Nat} {a0 a1 a2 : Option Value} {lay : List mShp} {M : mMem} {P : mPost} : mG (d) 171 37 [a0, a1, a2] [] lay M P = mG d 171 38 [a0, a1, a2] [.int (Int32.ofInt 1)] lay M P := e_iconst rfl
set_option maxRecDepth 20000 in
theorem g171_38 {d : Nat} {a0 a1 a2 : Option Value} {s0 : Int32} {lay : List mShp} {M : mMem} {P : mPost} : mG (d) 171 38 [a0, a1, a2] [.int s0] lay M P = mG d 171 42 [a0, a1, a2] [.int s0] lay M P := e_goto rfl rfl
set_option maxRecDepth 20000 in
theorem g171_41 {d : Nat} {a0 a1 a2 : Option Value} {lay : List mShp} {M : mMem} {P : mPost} : mG (d) 171 41 [a0, a1, a2] [] lay M P = mG d 171 42 [a0, a1, a2] [.int (Int32.ofInt 0)] lay M P := e_iconst rfl
set_option maxRecDepth 20000 in
theorem g171_42 {d : Nat} {a0 a1 a2 : Option Value} {s0 : Int32} {lay : List mShp} {M : mMem} {P : mPost} (h0 : mNoL a0 = true) : mG (d) 171 42 [a0, a1, a2] [.int s0] lay M P = mG d 171 43 [a0, some (.int s0), a2] [] lay M P := e_istore_n (i := 1) rfl rfl (by simp) (mS1_1 h0)
set_option maxRecDepth 20000 in
theorem g171_43 {d : Nat} {a0 a1 a2 : Option Value} {lay : List mShp} {M : mMem} {P : mPost} : mG (d) 171 43 [a0, a1, a2] [] lay M P = mG d 171 5 [a0, a1, a2] [] lay M P := e_goto rfl rfl
set_option maxRecDepth 20000 in
theorem g171_46 {d : Nat} {a0 a2 : Option Value} {x : Int32} {lay : List mShp} {M : mMem} {P : mPost} : mG (d) 171 46 [a0, some (.int x), a2] [] lay M P = mG d 171 47 [a0, some (.int x), a2] [.int x] lay M P := e_iload_n (i := 1) rfl rfl rfl
set_option maxRecDepth 20000 in
theorem g171_47 {d : Nat} {a0 a1 a2 : Option Value} {s0 : Int32} {lay : List mShp} {M : mMem} {P : mPost} : mG (d) 171 47 [a0, a1, a2] [.int s0] lay M P = P (some (.int s0)) lay M := e_ireturnI rfl rfl
-- 172 X10_gives
theorem g172_in {d : Nat} {x0 : Nat} {lay : List mShp} {M : mMem} {P : mPost} : mF d 172 [.ref x0] lay M P = mG d 172 0 [some (.ref x0), none, none, none, none, none] [] lay M P := mF_in rfl rfl
set_option maxRecDepth 20000 in
theorem g172_0 {d : Nat} {a1 a2 a3 a4 a5 : Option Value} {x : Nat} {lay : List mShp} {M : mMem} {P : mPost} (hx : ¬ x = 0) : mG (d) 172 0 [some (.ref x), a1, a2, a3, a4, a5] [] lay M P = mG d 172 1 [some (.ref x), a1, a2, a3, a4, a5] [.ref x] lay M P := e_aload_nP hx (i := 0) rfl rfl rfl
set_option maxRecDepth 20000 in
theorem g172_1 {d : Nat} {a0 a1 a2 a3 a4 a5 : Option Value} {s0 : Nat} {lay : List mShp} {M : mMem} {P : mPost} : mG (d) 172 1 [a0, a1, a2, a3, a4, a5] [.ref s0] lay M P = mG d 172 2 [a0, a1, a2, a3, a4, a5] [.int (Int32.ofInt 0), .ref s0] lay M P := e_iconst rfl
set_option maxRecDepth 20000 in
theorem g172_2 {d : Nat} {a0 a1 a2 a3 a4 a5 : Option Value} {s0 : Int32} {s1 : Nat} {lay : List mShp} {M : mMem} {P : mPost} (hs : mSh lay s1 = some (13, 44)) : mG (d) 172 2 [a0, a1, a2, a3, a4, a5] [.int s0, .ref s1] lay M P = mG d 172 5 [a0, a1, a2, a3, a4, a5] [] lay (mSetI M s1 15 s0) P := mG_of_and (mIsO_of hs (by decide)) (e_putI (ci := 10) (j := 15) rfl rfl (Or.inl rfl) rfl)
set_option maxRecDepth 20000 in
theorem g172_5 {d : Nat} {a1 a2 a3 a4 a5 : Option Value} {x : Nat} {lay : List mShp} {M : mMem} {P : mPost} (hx : ¬ x = 0) : mG (d) 172 5 [some (.ref x), a1, a2, a3, a4, a5] [] lay M P = mG d 172 6 [some (.ref x), a1, a2, a3, a4, a5] [.ref x] lay M P := e_aload_nP hx (i := 0) rfl rfl rfl
set_option maxRecDepth 20000 in
theorem g172_6 {d : Nat} {a0 a1 a2 a3 a4 a5 : Option Value} {s0 : Nat} {lay : List mShp} {M : mMem} {P : mPost} : mG (d) 172 6 [a0, a1, a2, a3, a4, a5] [.ref s0] lay M P = mG d 172 7 [a0, a1, a2, a3, a4, a5] [.int (Int32.ofInt 1), .ref s0] lay M P := e_iconst rfl
set_option maxRecDepth 20000 in
theorem g172_7 {d : Nat} {a0 a1 a2 a3 a4 a5 : Option Value} {s0 : Int32} {s1 : Nat} {lay : List mShp} {M : mMem} {P : mPost} (hs : mSh lay s1 = some (13, 44)) : mG (d) 172 7 [a0, a1, a2, a3, a4, a5] [.int s0, .ref s1] lay M P = ((s0 = 0 ∨ s0 = 1) ∧ mG d 172 10 [a0, a1, a2, a3, a4, a5] [] lay (mSetI M s1 16 s0) P) := mG_of_and (mIsO_of hs (by decide)) (e_putZ (ci := 10) (j := 16) rfl rfl (Or.inl rfl) rfl)
set_option maxRecDepth 20000 in
theorem g172_10 {d : Nat} {a1 a2 a3 a4 a5 : Option Value} {x : Nat} {lay : List mShp} {M : mMem} {P : mPost} (hx : ¬ x = 0) : mG (d) 172 10 [some (.ref x), a1, a2, a3, a4, a5] [] lay M P = mG d 172 11 [some (.ref x), a1, a2, a3, a4, a5] [.ref x] lay M P := e_aload_nP hx (i := 0) rfl rfl rfl
set_option maxRecDepth 20000 in
theorem g172_11 {d : Nat} {a0 a1 a2 a3 a4 a5 : Option Value} {s0 : Nat} {lay : List mShp} {M : mMem} {P : mPost} : mG (d) 172 11 [a0, a1, a2, a3, a4, a5] [.ref s0] lay M P = mG d 172 12 [a0, a1, a2, a3, a4, a5] [.int (Int32.ofInt 0), .ref s0] lay M P := e_iconst rfl
set_option maxRecDepth 20000 in
theorem g172_12 {d : Nat} {a0 a1 a2 a3 a4 a5 : Option Value} {s0 : Int32} {s1 : Nat} {lay : List mShp} {M : mMem} {P : mPost} (hs : mSh lay s1 = some (13, 44)) : mG (d) 172 12 [a0, a1, a2, a3, a4, a5] [.int s0, .ref s1] lay M P = mG d 172 15 [a0, a1, a2, a3, a4, a5] [] lay (mSetI M s1 17 s0) P := mG_of_and (mIsO_of hs (by decide)) (e_putI (ci := 10) (j := 17) rfl rfl (Or.inl rfl) rfl)
set_option maxRecDepth 20000 in
theorem g172_15 {d : Nat} {a0 a1 a2 a3 a4 a5 : Option Value} {lay : List mShp} {M : mMem} {P : mPost} : mG (d) 172 15 [a0, a1, a2, a3, a4, a5] [] lay M P = mG d 172 16 [a0, a1, a2, a3, a4, a5] [.int (Int32.ofInt 0)] lay M P := e_iconst rfl
set_option maxRecDepth 20000 in
theorem g172_16 {d : Nat} {a0 a1 a2 a3 a4 a5 : Option Value} {s0 : Int32} {lay : List mShp} {M : mMem} {P : mPost} (h0 : mNoL a0 = true) : mG (d) 172 16 [a0, a1, a2, a3, a4, a5] [.int s0] lay M P = mG d 172 17 [a0, some (.int s0), a2, a3, a4, a5] [] lay M P := e_istore_n (i := 1) rfl rfl (by simp) (mS1_1 h0)
set_option maxRecDepth 20000 in
theorem g172_17 {d : Nat} {a0 a1 a2 a3 a4 a5 : Option Value} {lay : List mShp} {M : mMem} {P : mPost} : mG (d) 172 17 [a0, a1, a2, a3, a4, a5] [] lay M P = mG d 172 18 [a0, a1, a2, a3, a4, a5] [.int (Int32.ofInt 0)] lay M P := e_iconst rfl
set_option maxRecDepth 20000 in
theorem g172_18 {d : Nat} {a0 a1 a2 a3 a4 a5 : Option Value} {s0 : Int32} {lay : List mShp} {M : mMem} {P : mPost} (h0 : mNoL a1 = true) : mG (d) 172 18 [a0, a1, a2, a3, a4, a5] [.int s0] lay M P = mG d 172 19 [a0, a1, some (.int s0), a3, a4, a5] [] lay M P := e_istore_n (i := 2) rfl rfl (by simp) (mS1_2 h0)
set_option maxRecDepth 20000 in
theorem g172_19 {d : Nat} {a0 a1 a2 a3 a4 a5 : Option Value} {lay : List mShp} {M : mMem} {P : mPost} : mG (d) 172 19 [a0, a1, a2, a3, a4, a5] [] lay M P = mG d 172 20 [a0, a1, a2, a3, a4, a5] [.int (Int32.ofInt 1)] lay M P := e_iconst rfl
set_option maxRecDepth 20000 in
theorem g172_20 {d : Nat} {a0 a1 a2 a3 a4 a5 : Option Value} {s0 : Int32} {lay : List mShp} {M : mMem} {P : mPost} (h0 : mNoL a2 = true) : mG (d) 172 20 [a0, a1, a2, a3, a4, a5] [.int s0] lay M P = mG d 172 21 [a0, a1, a2, some (.int s0), a4, a5] [] lay M P := e_istore_n (i := 3) rfl rfl (by simp) (mS1_3 h0)
set_option maxRecDepth 20000 in
theorem g172_21 {d : Nat} {a0 a1 a2 a4 a5 : Option Value} {x : Int32} {lay : List mShp} {M : mMem} {P : mPost} : mG (d) 172 21 [a0, a1, a2, some (.int x), a4, a5] [] lay M P = mG d 172 22 [a0, a1, a2, some (.int x), a4, a5] [.int x] lay M P := e_iload_n (i := 3) rfl rfl rfl
set_option maxRecDepth 20000 in
theorem g172_22 {d : Nat} {a0 a1 a2 a3 a4 a5 : Option Value} {s0 : Int32} {lay : List mShp} {M : mMem} {P : mPost} : mG (d) 172 22 [a0, a1, a2, a3, a4, a5] [.int s0] lay M P = if s0 = 0 then mG d 172 130 [a0, a1, a2, a3, a4, a5] [] lay M P else mG d 172 25 [a0, a1, a2, a3, a4, a5] [] lay M P := e_if_eq rfl rfl
set_option maxRecDepth 20000 in
theorem g172_25 {d : Nat} {a1 a2 a3 a4 a5 : Option Value} {x : Nat} {lay : List mShp} {M : mMem} {P : mPost} (hx : ¬ x = 0) : mG (d) 172 25 [some (.ref x), a1, a2, a3, a4, a5] [] lay M P = mG d 172 26 [some (.ref x), a1, a2, a3, a4, a5] [.ref x] lay M P := e_aload_nP hx (i := 0) rfl rfl rfl
set_option maxRecDepth 20000 in
theorem g172_26 {d : Nat} {a0 a1 a2 a3 a4 a5 : Option Value} {s0 : Nat} {lay : List mShp} {M : mMem} {P : mPost} (hs : mSh lay s0 = some (13, 44)) : mG (d + 1) 172 26 [a0, a1, a2, a3, a4, a5] [.ref s0] lay M P = mF d 171 [.ref s0] lay M (fun v lay1 M1 => mG (d + 1) 172 29 [a0, a1, a2, a3, a4, a5] (v.toList ++ []) lay1 M1 P) := e_virtP0 (j := 171) (c := 10) rfl rfl rfl rfl rfl rfl hs (Nat.le_of_ble_eq_true rfl)
set_option maxRecDepth 20000 in
theorem g172_29 {d : Nat} {a0 a1 a2 a3 a4 a5 : Option Value} {s0 : Int32} {lay : List mShp} {M : mMem} {P : mPost} (h0 : mNoL a3 = true) : mG (d) 172 29 [a0, a1, a2, a3, a4, a5] [.int s0] lay M P = mG d 172 31 [a0, a1, a2, a3, some (.int s0), a5] [] lay M P := e_istore (i := 4) rfl (by simp) (mS1_4 h0)
set_option maxRecDepth 20000 in
theorem g172_31 {d : Nat} {a0 a1 a2 a3 a4 a5 : Option Value} {lay : List mShp} {M : mMem} {P : mPost} : mG (d) 172 31 [a0, a1, a2, a3, a4, a5] [] lay M P = mG d 172 32 [a0, a1, a2, a3, a4, a5] [.int (Int32.ofInt 1)] lay M P := e_iconst rfl
set_option maxRecDepth 20000 in
theorem g172_32 {d : Nat} {a0 a1 a2 a3 a4 a5 : Option Value} {s0 : Int32} {lay : List mShp} {M : mMem} {P : mPost} (h0 : mNoL a4 = true) : mG (d) 172 32 [a0, a1, a2, a3, a4, a5] [.int s0] lay M P = mG d 172 34 [a0, a1, a2, a3, a4, some (.int s0)] [] lay M P := e_istore (i := 5) rfl (by simp) (mS1_5 h0)
set_option maxRecDepth 20000 in
theorem g172_34 {d : Nat} {a1 a2 a3 a4 a5 : Option Value} {x : Nat} {lay : List mShp} {M : mMem} {P : mPost} (hx : ¬ x = 0) : mG (d) 172 34 [some (.ref x), a1, a2, a3, a4, a5] [] lay M P = mG d 172 35 [some (.ref x), a1, a2, a3, a4, a5] [.ref x] lay M P := e_aload_nP hx (i := 0) rfl rfl rfl
set_option maxRecDepth 20000 in
theorem g172_35 {d : Nat} {a0 a1 a2 a3 a4 a5 : Option Value} {s0 : Nat} {lay : List mShp} {M : mMem} {P : mPost} : mG (d) 172 35 [a0, a1, a2, a3, a4, a5] [.ref s0] lay M P = mG d 172 37 [a0, a1, a2, a3, a4, a5] [.int (Int32.ofInt 63), .ref s0] lay M P := e_bipush rfl
set_option maxRecDepth 20000 in
theorem g172_37 {d : Nat} {a0 a1 a2 a3 a4 a5 : Option Value} {s0 : Int32} {s1 : Nat} {lay : List mShp} {M : mMem} {P : mPost} (hs : mSh lay s1 = some (13, 44)) : mG (d + 1) 172 37 [a0, a1, a2, a3, a4, a5] [.int s0, .ref s1] lay M P = mF d 162 [.ref s1, .int s0] lay M (fun v lay1 M1 => mG (d + 1) 172 40 [a0, a1, a2, a3, a4, a5] (v.toList ++ []) lay1 M1 P) := e_virtP1 (j := 162) (c := 10) rfl rfl rfl rfl rfl rfl hs (Nat.le_of_ble_eq_true rfl)
set_option maxRecDepth 20000 in
theorem g172_40 {d : Nat} {a0 a1 a2 a3 a4 a5 : Option Value} {s0 : Int32} {lay : List mShp} {M : mMem} {P : mPost} : mG (d) 172 40 [a0, a1, a2, a3, a4, a5] [.int s0] lay M P = if s0 = 0 then mG d 172 71 [a0, a1, a2, a3, a4, a5] [] lay M P else mG d 172 43 [a0, a1, a2, a3, a4, a5] [] lay M P := e_if_eq rfl rfl
set_option maxRecDepth 20000 in
theorem g172_43 {d : Nat} {a1 a2 a3 a4 a5 : Option Value} {x : Nat} {lay : List mShp} {M : mMem} {P : mPost} (hx : ¬ x = 0) : mG (d) 172 43 [some (.ref x), a1, a2, a3, a4, a5] [] lay M P = mG d 172 44 [some (.ref x), a1, a2, a3, a4, a5] [.ref x] lay M P := e_aload_nP hx (i := 0) rfl rfl rfl
set_option maxRecDepth 20000 in
theorem g172_44 {d : Nat} {a0 a1 a2 a3 a4 a5 : Option Value} {s0 : Nat} {lay : List mShp} {M : mMem} {P : mPost} : mG (d) 172 44 [a0, a1, a2, a3, a4, a5] [.ref s0] lay M P = mG d 172 45 [a0, a1, a2, a3, a4, a5] [.ref s0, .ref s0] lay M P := e_dupr rfl
set_option maxRecDepth 20000 in
theorem g172_45 {d : Nat} {a0 a1 a2 a3 a4 a5 : Option Value} {s0 : Nat} {s1 : Nat} {lay : List mShp} {M : mMem} {P : mPost} (hs : mSh lay s0 = some (13, 44)) : mG (d) 172 45 [a0, a1, a2, a3, a4, a5] [.ref s0, .ref s1] lay M P = mG d 172 48 [a0, a1, a2, a3, a4, a5] [.int (M.1 s0 15), .ref s1] lay M P := mG_of_and (mIsO_of hs (by decide)) (e_getI (ci := 10) (j := 15) rfl rfl rfl)
set_option maxRecDepth 20000 in
theorem g172_48 {d : Nat} {a0 a1 a2 a3 a4 a5 : Option Value} {s0 : Int32} {s1 : Nat} {lay : List mShp} {M : mMem} {P : mPost} : mG (d) 172 48 [a0, a1, a2, a3, a4, a5] [.int s0, .ref s1] lay M P = mG d 172 49 [a0, a1, a2, a3, a4, a5] [.int (Int32.ofInt 1), .int s0, .ref s1] lay M P := e_iconst rfl
set_option maxRecDepth 20000 in
theorem g172_49 {d : Nat} {a0 a1 a2 a3 a4 a5 : Option Value} {s0 : Int32} {s1 : Int32} {s2 : Nat} {lay : List mShp} {M : mMem} {P : mPost} : mG (d) 172 49 [a0, a1, a2, a3, a4, a5] [.int s0, .int s1, .ref s2] lay M P = mG d 172 50 [a0, a1, a2, a3, a4, a5] [.int (s1 + s0), .ref s2] lay M P := e_iadd rfl
set_option maxRecDepth 20000 in
theorem g172_50 {d : Nat} {a0 a1 a2 a3 a4 a5 : Option Value} {s0 : Int32} {s1 : Nat} {lay : List mShp} {M : mMem} {P : mPost} (hs : mSh lay s1 = some (13, 44)) : mG (d) 172 50 [a0, a1, a2, a3, a4, a5] [.int s0, .ref s1] lay M P = mG d 172 53 [a0, a1, a2, a3, a4, a5] [] lay (mSetI M s1 15 s0) P := mG_of_and (mIsO_of hs (by decide)) (e_putI (ci := 10) (j := 15) rfl rfl (Or.inl rfl) rfl)
set_option maxRecDepth 20000 in
theorem g172_53 {d : Nat} {a0 a1 a2 a3 a5 : Option Value} {x : Int32} {lay : List mShp} {M : mMem} {P : mPost} : mG (d) 172 53 [a0, a1, a2, a3, some (.int x), a5] [] lay M P = mG d 172 55 [a0, a1, a2, a3, some (.int x), a5] [.int x] lay M P := e_iload (i := 4) rfl rfl
set_option maxRecDepth 20000 in
theorem g172_55 {d : Nat} {a0 a1 a2 a3 a4 a5 : Option Value} {s0 : Int32} {lay : List mShp} {M : mMem} {P : mPost} : mG (d) 172 55 [a0, a1, a2, a3, a4, a5] [.int s0] lay M P = if s0 = 0 then mG d 172 62 [a0, a1, a2, a3, a4, a5] [] lay M P else mG d 172 58 [a0, a1, a2, a3, a4, a5] [] lay M P := e_if_eq rfl rfl
set_option maxRecDepth 20000 in
theorem g172_58 {d : Nat} {a0 a1 a2 a3 a4 a5 : Option Value} {lay : List mShp} {M : mMem} {P : mPost} : mG (d) 172 58 [a0, a1, a2, a3, a4, a5] [] lay M P = mG d 172 59 [a0, a1, a2, a3, a4, a5] [.int (Int32.ofInt 1)] lay M P := e_iconst rfl
set_option maxRecDepth 20000 in
theorem g172_59 {d : Nat} {a0 a1 a2 a3 a4 a5 : Option Value} {s0 : Int32} {lay : List mShp} {M : mMem} {P : mPost} : mG (d) 172 59 [a0, a1, a2, a3, a4, a5] [.int s0] lay M P = mG d 172 63 [a0, a1, a2, a3, a4, a5] [.int s0] lay M P := e_goto rfl rfl
set_option maxRecDepth 20000 in
theorem g172_62 {d : Nat} {a0 a1 a2 a3 a4 a5 : Option Value} {lay : List mShp} {M : mMem} {P : mPost} : mG (d) 172 62 [a0, a1, a2, a3, a4, a5] [] lay M P = mG d 172 63 [a0, a1, a2, a3, a4, a5] [.int (Int32.ofInt 0)] lay M P := e_iconst rfl
set_option maxRecDepth 20000 in
theorem g172_63 {d : Nat} {a0 a1 a2 a3 a4 a5 : Option Value} {s0 : Int32} {lay : List mShp} {M : mMem} {P : mPost} (h0 : mNoL a4 = true) : mG (d) 172 63 [a0, a1, a2, a3, a4, a5] [.int s0] lay M P = mG d 172 65 [a0, a1, a2, a3, a4, some (.int s0)] [] lay M P := e_istore (i := 5) rfl (by simp) (mS1_5 h0)
set_option maxRecDepth 20000 in
theorem g172_65 {d : Nat} {a1 a2 a3 a4 a5 : Option Value} {x : Nat} {lay : List mShp} {M : mMem} {P : mPost} (hx : ¬ x = 0) : mG (d) 172 65 [some (.ref x), a1, a2, a3, a4, a5] [] lay M P = mG d 172 66 [some (.ref x), a1, a2, a3, a4, a5] [.ref x] lay M P := e_aload_nP hx (i := 0) rfl rfl rfl
set_option maxRecDepth 20000 in
theorem g172_66 {d : Nat} {a0 a1 a2 a3 a4 a5 : Option Value} {s0 : Nat} {lay : List mShp} {M : mMem} {P : mPost} (hs : mSh lay s0 = some (13, 44)) : mG (d + 1) 172 66 [a0, a1, a2, a3, a4, a5] [.ref s0] lay M P = mF d 171 [.ref s0] lay M (fun v lay1 M1 => mG (d + 1) 172 69 [a0, a1, a2, a3, a4, a5] (v.toList ++ []) lay1 M1 P) := e_virtP0 (j := 171) (c := 10) rfl rfl rfl rfl rfl rfl hs (Nat.le_of_ble_eq_true rfl)
set_option maxRecDepth 20000 in
theorem g172_69 {d : Nat} {a0 a1 a2 a3 a4 a5 : Option Value} {s0 : Int32} {lay : List mShp} {M : mMem} {P : mPost} (h0 : mNoL a3 = true) : mG (d) 172 69 [a0, a1, a2, a3, a4, a5] [.int s0] lay M P = mG d 172 71 [a0, a1, a2, a3, some (.int s0), a5] [] lay M P := e_istore (i := 4) rfl (by simp) (mS1_4 h0)
set_option maxRecDepth 20000 in
theorem g172_71 {d : Nat} {a0 a1 a2 a3 a4 : Option Value} {x : Int32} {lay : List mShp} {M : mMem} {P : mPost} : mG (d) 172 71 [a0, a1, a2, a3, a4, some (.int x)] [] lay M P = mG d 172 73 [a0, a1, a2, a3, a4, some (.int x)] [.int x] lay M P := e_iload (i := 5) rfl rfl
set_option maxRecDepth 20000 in
theorem g172_73 {d : Nat} {a0 a1 a2 a3 a4 a5 : Option Value} {s0 : Int32} {lay : List mShp} {M : mMem} {P : mPost} : mG (d) 172 73 [a0, a1, a2, a3, a4, a5] [.int s0] lay M P = if s0 = 0 then mG d 172 85 [a0, a1, a2, a3, a4, a5] [] lay M P else mG d 172 76 [a0, a1, a2, a3, a4, a5] [] lay M P := e_if_eq rfl rfl
set_option maxRecDepth 20000 in
theorem g172_76 {d : Nat} {a0 a1 a3 a4 a5 : Option Value} {x : Int32} {lay : List mShp} {M : mMem} {P : mPost} : mG (d) 172 76 [a0, a1, some (.int x), a3, a4, a5] [] lay M P = mG d 172 77 [a0, a1, some (.int x), a3, a4, a5] [.int x] lay M P := e_iload_n (i := 2) rfl rfl rfl
set_option maxRecDepth 20000 in
theorem g172_77 {d : Nat} {a0 a1 a2 a3 a4 a5 : Option Value} {s0 : Int32} {lay : List mShp} {M : mMem} {P : mPost} : mG (d) 172 77 [a0, a1, a2, a3, a4, a5] [.int s0] lay M P = if s0 = 0 then mG d 172 80 [a0, a1, a2, a3, a4, a5] [] lay M P else mG d 172 85 [a0, a1, a2, a3, a4, a5] [] lay M P := e_if_ne rfl rfl
set_option maxRecDepth 20000 in
theorem g172_80 {d : Nat} {a0 a1 a2 a3 a5 : Option Value} {x : Int32} {lay : List mShp} {M : mMem} {P : mPost} : mG (d) 172 80 [a0, a1, a2, a3, some (.int x), a5] [] lay M P = mG d 172 82 [a0, a1, a2, a3, some (.int x), a5] [.int x] lay M P := e_iload (i := 4) rfl rfl
set_option maxRecDepth 20000 in
theorem g172_82 {d : Nat} {a0 a1 a2 a3 a4 a5 : Option Value} {s0 : Int32} {lay : List mShp} {M : mMem} {P : mPost} : mG (d) 172 82 [a0, a1, a2, a3, a4, a5] [.int s0] lay M P = mG d 172 86 [a0, a1, a2, a3, a4, a5] [.int s0] lay M P := e_goto rfl rfl
set_option maxRecDepth 20000 in
theorem g172_85 {d : Nat} {a0 a2 a3 a4 a5 : Option Value} {x : Int32} {lay : List mShp} {M : mMem} {P : mPost} : mG (d) 172 85 [a0, some (.int x), a2, a3, a4, a5] [] lay M P = mG d 172 86 [a0, some (.int x), a2, a3, a4, a5] [.int x] lay M P := e_iload_n (i := 1) rfl rfl rfl
set_option maxRecDepth 20000 in
theorem g172_86 {d : Nat} {a0 a1 a2 a3 a4 a5 : Option Value} {s0 : Int32} {lay : List mShp} {M : mMem} {P : mPost} (h0 : mNoL a0 = true) : mG (d) 172 86 [a0, a1, a2, a3, a4, a5] [.int s0] lay M P = mG d 172 87 [a0, some (.int s0), a2, a3, a4, a5] [] lay M P := e_istore_n (i := 1) rfl rfl (by simp) (mS1_1 h0)
set_option maxRecDepth 20000 in
theorem g172_87 {d : Nat} {a0 a1 a3 a4 a5 : Option Value} {x : Int32} {lay : List mShp} {M : mMem} {P : mPost} : mG (d) 172 87 [a0, a1, some (.int x), a3, a4, a5] [] lay M P = mG d 172 88 [a0, a1, some (.int x), a3, a4, a5] [.int x] lay M P := e_iload_n (i := 2) rfl rfl rfl
set_option maxRecDepth 20000 in
theorem g172_88 {d : Nat} {a0 a1 a2 a3 a4 a5 : Option Value} {s0 : Int32} {lay : List mShp} {M : mMem} {P : mPost} : mG (d) 172 88 [a0, a1, a2, a3, a4, a5] [.int s0] lay M P = if s0 = 0 then mG d 172 91 [a0, a1, a2, a3, a4, a5] [] lay M P else mG d 172 96 [a0, a1, a2, a3, a4, a5] [] lay M P := e_if_ne rfl rfl
set_option maxRecDepth 20000 in
theorem g172_91 {d : Nat} {a0 a1 a2 a3 a4 : Option Value} {x : Int32} {lay : List mShp} {M : mMem} {P : mPost} : mG (d) 172 91 [a0, a1, a2, a3, a4, some (.int x)] [] lay M P = mG d 172 93 [a0, a1, a2, a3, a4, some (.int x)] [.int x] lay M P := e_iload (i := 5) rfl rfl
set_option maxRecDepth 20000 in
theorem g172_93 {d : Nat} {a0 a1 a2 a3 a4 a5 : Option Value} {s0 : Int32} {lay : List mShp} {M : mMem} {P : mPost} : mG (d) 172 93 [a0, a1, a2, a3, a4, a5] [.int s0] lay M P = if s0 = 0 then mG d 172 100 [a0, a1, a2, a3, a4, a5] [] lay M P else mG d 172 96 [a0, a1, a2, a3, a4, a5] [] lay M P := e_if_eq rfl rfl
set_option maxRecDepth 20000 in
theorem g172_96 {d : Nat} {a0 a1 a2 a3 a4 a5 : Option Value} {lay : List mShp} {M : mMem} {P : mPost} : mG (d) 172 96 [a0, a1, a2, a3, a4, a5] [] lay M P = mG d 172 97 [a0, a1, a2, a3, a4, a5] [.int (Int32.ofInt 1)] lay M P := e_iconst rfl
set_option maxRecDepth 20000 in
theorem g172_97 {d : Nat} {a0 a1 a2 a3 a4 a5 : Option Value} {s0 : Int32} {lay : List mShp} {M : mMem} {P : mPost} : mG (d) 172 97 [a0, a1, a2, a3, a4, a5] [.int s0] lay M P = mG d 172 101 [a0, a1, a2, a3, a4, a5] [.int s0] lay M P := e_goto rfl rfl
set_option maxRecDepth 20000 in
theorem g172_100 {d : Nat} {a0 a1 a2 a3 a4 a5 : Option Value} {lay : List mShp} {M : mMem} {P : mPost} : mG (d) 172 100 [a0, a1, a2, a3, a4, a5] [] lay M P = mG d 172 101 [a0, a1, a2, a3, a4, a5] [.int (Int32.ofInt 0)] lay M P := e_iconst rfl
set_option maxRecDepth 20000 in
theorem g172_101 {d : Nat} {a0 a1 a2 a3 a4 a5 : Option Value} {s0 : Int32} {lay : List mShp} {M : mMem} {P : mPost} (h0 : mNoL a1 = true) : mG (d) 172 101 [a0, a1, a2, a3, a4, a5] [.int s0] lay M P = mG d 172 102 [a0, a1, some (.int s0), a3, a4, a5] [] lay M P := e_istore_n (i := 2) rfl rfl (by simp) (mS1_2 h0)
set_option maxRecDepth 20000 in
theorem g172_102 {d : Nat} {a1 a2 a3 a4 a5 : Option Value} {x : Nat} {lay : List mShp} {M : mMem} {P : mPost} (hx : ¬ x = 0) : mG (d) 172 102 [some (.ref x), a1, a2, a3, a4, a5] [] lay M P = mG d 172 103 [some (.ref x), a1, a2, a3, a4, a5] [.ref x] lay M P := e_aload_nP hx (i := 0) rfl rfl rfl
set_option maxRecDepth 20000 in
theorem g172_103 {d : Nat} {a0 a1 a2 a3 a4 a5 : Option Value} {s0 : Nat} {lay : List mShp} {M : mMem} {P : mPost} : mG (d) 172 103 [a0, a1, a2, a3, a4, a5] [.ref s0] lay M P = mG d 172 105 [a0, a1, a2, a3, a4, a5] [.int (Int32.ofInt 59), .ref s0] lay M P := e_bipush rfl
set_option maxRecDepth 20000 in
theorem g172_105 {d : Nat} {a0 a1 a2 a3 a4 a5 : Option Value} {s0 : Int32} {s1 : Nat} {lay : List mShp} {M : mMem} {P : mPost} (hs : mSh lay s1 = some (13, 44)) : mG (d + 1) 172 105 [a0, a1, a2, a3, a4, a5] [.int s0, .ref s1] lay M P = mF d 162 [.ref s1, .int s0] lay M (fun v lay1 M1 => mG (d + 1) 172 108 [a0, a1, a2, a3, a4, a5] (v.toList ++ []) lay1 M1 P) := e_virtP1 (j := 162) (c := 10) rfl rfl rfl rfl rfl rfl hs (Nat.le_of_ble_eq_true rfl)
set_option maxRecDepth 20000 in
theorem g172_108 {d : Nat} {a0 a1 a2 a3 a4 a5 : Option Value} {s0 : Int32} {lay : List mShp} {M : mMem} {P : mPost} (h0 : mNoL a2 = true) : mG (d) 172 108 [a0, a1, a2, a3, a4, a5] [.int s0] lay M P = mG d 172 109 [a0, a1, a2, some (.int s0), a4, a5] [] lay M P := e_istore_n (i := 3) rfl rfl (by simp) (mS1_3 h0)
set_option maxRecDepth 20000 in
theorem g172_109 {d : Nat} {a1 a2 a3 a4 a5 : Option Value} {x : Nat} {lay : List mShp} {M : mMem} {P : mPost} (hx : ¬ x = 0) : mG (d) 172 109 [some (.ref x), a1, a2, a3, a4, a5] [] lay M P = mG d 172 110 [some (.ref x), a1, a2, a3, a4, a5] [.ref x] lay M P := e_aload_nP hx (i := 0) rfl rfl rfl
set_option maxRecDepth 20000 in
theorem g172_110 {d : Nat} {a0 a1 a2 a3 a4 a5 : Option Value} {s0 : Nat} {lay : List mShp} {M : mMem} {P : mPost} : mG (d) 172 110 [a0, a1, a2, a3, a4, a5] [.ref s0] lay M P = mG d 172 111 [a0, a1, a2, a3, a4, a5] [.ref s0, .ref s0] lay M P := e_dupr rfl
set_option maxRecDepth 20000 in
theorem g172_111 {d : Nat} {a0 a1 a2 a3 a4 a5 : Option Value} {s0 : Nat} {s1 : Nat} {lay : List mShp} {M : mMem} {P : mPost} (hs : mSh lay s0 = some (13, 44)) : mG (d) 172 111 [a0, a1, a2, a3, a4, a5] [.ref s0, .ref s1] lay M P = mG d 172 114 [a0, a1, a2, a3, a4, a5] [.int (M.1 s0 15), .ref s1] lay M P := mG_of_and (mIsO_of hs (by decide)) (e_getI (ci := 10) (j := 15) rfl rfl rfl)
set_option maxRecDepth 20000 in
theorem g172_114 {d : Nat} {a0 a1 a2 a4 a5 : Option Value} {s0 : Int32} {s1 : Nat} {x : Int32} {lay : List mShp} {M : mMem} {P : mPost} : mG (d) 172 114 [a0, a1, a2, some (.int x), a4, a5] [.int s0, .ref s1] lay M P = mG d 172 115 [a0, a1, a2, some (.int x), a4, a5] [.int x, .int s0, .ref s1] lay M P := e_iload_n (i := 3) rfl rfl rfl
set_option maxRecDepth 20000 in
theorem g172_115 {d : Nat} {a0 a1 a2 a3 a4 a5 : Option Value} {s0 : Int32} {s1 : Int32} {s2 : Nat} {lay : List mShp} {M : mMem} {P : mPost} : mG (d) 172 115 [a0, a1, a2, a3, a4, a5] [.int s0, .int s1, .ref s2] lay M P = if s0 = 0 then mG d 172 122 [a0, a1, a2, a3, a4, a5] [.int s1, .ref s2] lay M P else mG d 172 118 [a0, a1, a2, a3, a4, a5] [.int s1, .ref s2] lay M P := e_if_eq rfl rfl
set_option maxRecDepth 20000 in
theorem g172_118 {d : Nat} {a0 a1 a2 a3 a4 a5 : Option Value} {s0 : Int32} {s1 : Nat} {lay : List mShp} {M : mMem} {P : mPost} : mG (d) 172 118 [a0, a1, a2, a3, a4, a5] [.int s0, .ref s1] lay M P = mG d 172 119 [a0, a1, a2, a3, a4, a5] [.int (Int32.ofInt 1), .int s0, .ref s1] lay M P := e_iconst rfl
set_option maxRecDepth 20000 in
theorem g172_119 {d : Nat} {a0 a1 a2 a3 a4 a5 : Option Value} {s0 : Int32} {s1 : Int32} {s2 : Nat} {lay : List mShp} {M : mMem} {P : mPost} : mG (d) 172 119 [a0, a1, a2, a3, a4, a5] [.int s0, .int s1, .ref s2] lay M P = mG d 172 123 [a0, a1, a2, a3, a4, a5] [.int s0, .int s1, .ref s2] lay M P := e_goto rfl rfl
set_option maxRecDepth 20000 in
theorem g172_122 {d : Nat} {a0 a1 a2 a3 a4 a5 : Option Value} {s0 : Int32} {s1 : Nat} {lay : List mShp} {M : mMem} {P : mPost} : mG (d) 172 122 [a0, a1, a2, a3, a4, a5] [.int s0, .ref s1] lay M P = mG d 172 123 [a0, a1, a2, a3, a4, a5] [.int (Int32.ofInt 0), .int s0, .ref s1] lay M P := e_iconst rfl
set_option maxRecDepth 20000 in
theorem g172_123 {d : Nat} {a0 a1 a2 a3 a4 a5 : Option Value} {s0 : Int32} {s1 : Int32} {s2 : Nat} {lay : List mShp} {M : mMem} {P : mPost} : mG (d) 172 123 [a0, a1, a2, a3, a4, a5] [.int s0, .int s1, .ref s2] lay M P = mG d 172 124 [a0, a1, a2, a3, a4, a5] [.int (s1 + s0), .ref s2] lay M P := e_iadd rfl
set_option maxRecDepth 20000 in
theorem g172_124 {d : Nat} {a0 a1 a2 a3 a4 a5 : Option Value} {s0 : Int32} {s1 : Nat} {lay : List mShp} {M : mMem} {P : mPost} (hs : mSh lay s1 = some (13, 44)) : mG (d) 172 124 [a0, a1, a2, a3, a4, a5] [.int s0, .ref s1] lay M P = mG d 172 127 [a0, a1, a2, a3, a4, a5] [] lay (mSetI M s1 15 s0) P := mG_of_and (mIsO_of hs (by decide)) (e_putI (ci := 10) (j := 15) rfl rfl (Or.inl rfl) rfl)
set_option maxRecDepth 20000 in
theorem g172_127 {d : Nat} {a0 a1 a2 a3 a4 a5 : Option Value} {lay : List mShp} {M : mMem} {P : mPost} : mG (d) 172 127 [a0, a1, a2, a3, a4, a5] [] lay M P = mG d 172 21 [a0, a1, a2, a3, a4, a5] [] lay M P := e_goto rfl rfl
set_option maxRecDepth 20000 in
theorem g172_130 {d : Nat} {a0 a2 a3 a4 a5 : Option Value} {x : Int32} {lay : List mShp} {M : mMem} {P : mPost} : mG (d) 172 130 [a0, some (.int x), a2, a3, a4, a5] [] lay M P = mG d 172 131 [a0, some (.int x), a2, a3, a4, a5] [.int x] lay M P := e_iload_n (i := 1) rfl rfl rfl
set_option maxRecDepth 20000 in
theorem g172_131 {d : Nat} {a0 a1 a2 a3 a4 a5 : Option Value} {s0 : Int32} {lay : List mShp} {M : mMem} {P : mPost} : mG (d) 172 131 [a0, a1, a2, a3, a4, a5] [.int s0] lay M P = P (some (.int s0)) lay M := e_ireturnI rfl rfl
-- 173 X10_law
theorem g173_in {d : Nat} {x0 : Nat} {lay : List mShp} {M : mMem} {P : mPost} : mF d 173 [.ref x0] lay M P = mG d 173 0 [some (.ref x0), none] [] lay M P := mF_in rfl rfl
set_option maxRecDepth 20000 in
theorem g173_0 {d : Nat} {a1 : Option Value} {x : Nat} {lay : List mShp} {M : mMem} {P : mPost} (hx : ¬ x = 0) : mG (d) 173 0 [some (.ref x), a1] [] lay M P = mG d 173 1 [some (.ref x), a1] [.ref x] lay M P := e_aload_nP hx (i := 0) rfl rfl rfl
set_option maxRecDepth 20000 in
theorem g173_1 {d : Nat} {a1 : Option Value} {s0 : Nat} {x : Nat} {lay : List mShp} {M : mMem} {P : mPost} (hx : ¬ x = 0) : mG (d) 173 1 [some (.ref x), a1] [.ref s0] lay M P = mG d 173 2 [some (.ref x), a1] [.ref x, .ref s0] lay M P := e_aload_nP hx (i := 0) rfl rfl rfl
set_option maxRecDepth 20000 in
theorem g173_2 {d : Nat} {a0 a1 : Option Value} {s0 : Nat} {s1 : Nat} {lay : List mShp} {M : mMem} {P : mPost} (hs : mSh lay s0 = some (13, 44)) : mG (d) 173 2 [a0, a1] [.ref s0, .ref s1] lay M P = mG d 173 5 [a0, a1] [.int (M.1 s0 9), .ref s1] lay M P := mG_of_and (mIsO_of hs (by decide)) (e_getI (ci := 10) (j := 9) rfl rfl rfl)
set_option maxRecDepth 20000 in
theorem g173_5 {d : Nat} {a0 a1 : Option Value} {s0 : Int32} {s1 : Nat} {lay : List mShp} {M : mMem} {P : mPost} (hs : mSh lay s1 = some (13, 44)) : mG (d) 173 5 [a0, a1] [.int s0, .ref s1] lay M P = mG d 173 8 [a0, a1] [] lay (mSetI M s1 14 s0) P := mG_of_and (mIsO_of hs (by decide)) (e_putI (ci := 10) (j := 14) rfl rfl (Or.inl rfl) rfl)
set_option maxRecDepth 20000 in
theorem g173_8 {d : Nat} {a0 a1 : Option Value} {lay : List mShp} {M : mMem} {P : mPost} : mG (d) 173 8 [a0, a1] [] lay M P = mG d 173 9 [a0, a1] [.int (Int32.ofInt 0)] lay M P := e_iconst rfl
set_option maxRecDepth 20000 in
theorem g173_9 {d : Nat} {a0 a1 : Option Value} {s0 : Int32} {lay : List mShp} {M : mMem} {P : mPost} (h0 : mNoL a0 = true) : mG (d) 173 9 [a0, a1] [.int s0] lay M P = mG d 173 10 [a0, some (.int s0)] [] lay M P := e_istore_n (i := 1) rfl rfl (by simp) (mS1_1 h0)
set_option maxRecDepth 20000 in
theorem g173_10 {d : Nat} {a0 : Option Value} {x : Int32} {lay : List mShp} {M : mMem} {P : mPost} : mG (d) 173 10 [a0, some (.int x)] [] lay M P = mG d 173 11 [a0, some (.int x)] [.int x] lay M P := e_iload_n (i := 1) rfl rfl rfl
set_option maxRecDepth 20000 in
theorem g173_11 {d : Nat} {a1 : Option Value} {s0 : Int32} {x : Nat} {lay : List mShp} {M : mMem} {P : mPost} (hx : ¬ x = 0) : mG (d) 173 11 [some (.ref x), a1] [.int s0] lay M P = mG d 173 12 [some (.ref x), a1] [.ref x, .int s0] lay M P := e_aload_nP hx (i := 0) rfl rfl rfl
set_option maxRecDepth 20000 in
theorem g173_12 {d : Nat} {a0 a1 : Option Value} {s0 : Nat} {s1 : Int32} {lay : List mShp} {M : mMem} {P : mPost} (hs : mSh lay s0 = some (13, 44)) : mG (d) 173 12 [a0, a1] [.ref s0, .int s1] lay M P = mG d 173 15 [a0, a1] [.int (M.1 s0 14), .int s1] lay M P := mG_of_and (mIsO_of hs (by decide)) (e_getI (ci := 10) (j := 14) rfl rfl rfl)
set_option maxRecDepth 20000 in
theorem g173_15 {d : Nat} {a0 a1 : Option Value} {s0 : Int32} {s1 : Int32} {lay : List mShp} {M : mMem} {P : mPost} : mG (d) 173 15 [a0, a1] [.int s0, .int s1] lay M P = if s1 < s0 then mG d 173 18 [a0, a1] [] lay M P else mG d 173 36 [a0, a1] [] lay M P := e_icmp_ge rfl rfl
set_option maxRecDepth 20000 in
theorem g173_18 {d : Nat} {a1 : Option Value} {x : Nat} {lay : List mShp} {M : mMem} {P : mPost} (hx : ¬ x = 0) : mG (d) 173 18 [some (.ref x), a1] [] lay M P = mG d 173 19 [some (.ref x), a1] [.ref x] lay M P := e_aload_nP hx (i := 0) rfl rfl rfl
set_option maxRecDepth 20000 in
theorem g173_19 {d : Nat} {a0 a1 : Option Value} {s0 : Nat} {lay : List mShp} {M : mMem} {P : mPost} (hs : mSh lay s0 = some (13, 44)) : mG (d) 173 19 [a0, a1] [.ref s0] lay M P = mG d 173 22 [a0, a1] [.ref (M.2.2 s0 13)] lay M P := mG_of_and (mIsO_of hs (by decide)) (e_getA (ci := 10) (j := 13) rfl rfl rfl)
set_option maxRecDepth 20000 in
theorem g173_22 {d : Nat} {a0 : Option Value} {s0 : Nat} {x : Int32} {lay : List mShp} {M : mMem} {P : mPost} : mG (d) 173 22 [a0, some (.int x)] [.ref s0] lay M P = mG d 173 23 [a0, some (.int x)] [.int x, .ref s0] lay M P := e_iload_n (i := 1) rfl rfl rfl
set_option maxRecDepth 20000 in
theorem g173_23 {d : Nat} {a1 : Option Value} {s0 : Int32} {s1 : Nat} {x : Nat} {lay : List mShp} {M : mMem} {P : mPost} (hx : ¬ x = 0) : mG (d) 173 23 [some (.ref x), a1] [.int s0, .ref s1] lay M P = mG d 173 24 [some (.ref x), a1] [.ref x, .int s0, .ref s1] lay M P := e_aload_nP hx (i := 0) rfl rfl rfl
set_option maxRecDepth 20000 in
theorem g173_24 {d : Nat} {a0 a1 : Option Value} {s0 : Nat} {s1 : Int32} {s2 : Nat} {lay : List mShp} {M : mMem} {P : mPost} (hs : mSh lay s0 = some (13, 44)) : mG (d) 173 24 [a0, a1] [.ref s0, .int s1, .ref s2] lay M P = mG d 173 27 [a0, a1] [.ref (M.2.2 s0 8), .int s1, .ref s2] lay M P := mG_of_and (mIsO_of hs (by decide)) (e_getA (ci := 10) (j := 8) rfl rfl rfl)
set_option maxRecDepth 20000 in
theorem g173_27 {d : Nat} {a0 : Option Value} {s0 : Nat} {s1 : Int32} {s2 : Nat} {x : Int32} {lay : List mShp} {M : mMem} {P : mPost} : mG (d) 173 27 [a0, some (.int x)] [.ref s0, .int s1, .ref s2] lay M P = mG d 173 28 [a0, some (.int x)] [.int x, .ref s0, .int s1, .ref s2] lay M P := e_iload_n (i := 1) rfl rfl rfl
set_option maxRecDepth 20000 in
theorem g173_28 {d : Nat} {a0 a1 : Option Value} {s0 : Int32} {s1 : Nat} {s2 : Int32} {s3 : Nat} {lay : List mShp} {M : mMem} {P : mPost} (hs : mSh lay s1 = some (0, 120)) : mG (d) 173 28 [a0, a1] [.int s0, .ref s1, .int s2, .ref s3] lay M P = (mIdx s0 120 = true ∧ mG d 173 29 [a0, a1] [.int (M.1 s1 s0.toNatClampNeg), .int s2, .ref s3] lay M P) := e_iaload rfl hs
set_option maxRecDepth 20000 in
theorem g173_29 {d : Nat} {a0 a1 : Option Value} {s0 : Int32} {s1 : Int32} {s2 : Nat} {lay : List mShp} {M : mMem} {P : mPost} (hs : mSh lay s2 = some (0, 120)) : mG (d) 173 29 [a0, a1] [.int s0, .int s1, .ref s2] lay M P = (mIdx s1 120 = true ∧ mG d 173 30 [a0, a1] [] lay (mSetI M s2 s1.toNatClampNeg s0) P) := e_iastore rfl hs
set_option maxRecDepth 20000 in
theorem g173_30 {d : Nat} {a0 : Option Value} {x : Int32} {lay : List mShp} {M : mMem} {P : mPost} (h0 : mNoL a0 = true) : mG (d) 173 30 [a0, some (.int x)] [] lay M P = mG d 173 33 [a0, some (.int (x + Int32.ofInt 1))] [] lay M P := e_iinc (n := 1) rfl rfl (mS1_1 h0)
set_option maxRecDepth 20000 in
theorem g173_33 {d : Nat} {a0 a1 : Option Value} {lay : List mShp} {M : mMem} {P : mPost} : mG (d) 173 33 [a0, a1] [] lay M P = mG d 173 10 [a0, a1] [] lay M P := e_goto rfl rfl
set_option maxRecDepth 20000 in
theorem g173_36 {d : Nat} {a1 : Option Value} {x : Nat} {lay : List mShp} {M : mMem} {P : mPost} (hx : ¬ x = 0) : mG (d) 173 36 [some (.ref x), a1] [] lay M P = mG d 173 37 [some (.ref x), a1] [.ref x] lay M P := e_aload_nP hx (i := 0) rfl rfl rfl
set_option maxRecDepth 20000 in
theorem g173_37 {d : Nat} {a0 a1 : Option Value} {s0 : Nat} {lay : List mShp} {M : mMem} {P : mPost} : mG (d) 173 37 [a0, a1] [.ref s0] lay M P = mG d 173 38 [a0, a1] [.int (Int32.ofInt 0), .ref s0] lay M P := e_iconst rfl
set_option maxRecDepth 20000 in
theorem g173_38 {d : Nat} {a0 a1 : Option Value} {s0 : Int32} {s1 : Nat} {lay : List mShp} {M : mMem} {P : mPost} (hs : mSh lay s1 = some (13, 44)) : mG (d) 173 38 [a0, a1] [.int s0, .ref s1] lay M P = mG d 173 41 [a0, a1] [] lay (mSetI M s1 9 s0) P := mG_of_and (mIsO_of hs (by decide)) (e_putI (ci := 10) (j := 9) rfl rfl (Or.inl rfl) rfl)
set_option maxRecDepth 20000 in
theorem g173_41 {d : Nat} {a0 a1 : Option Value} {lay : List mShp} {M : mMem} {P : mPost} : mG (d) 173 41 [a0, a1] [] lay M P = mG d 173 42 [a0, a1] [.int (Int32.ofInt 0)] lay M P := e_iconst rfl
set_option maxRecDepth 20000 in
theorem g173_42 {d : Nat} {a0 a1 : Option Value} {s0 : Int32} {lay : List mShp} {M : mMem} {P : mPost} (h0 : mNoL a0 = true) : mG (d) 173 42 [a0, a1] [.int s0] lay M P = mG d 173 43 [a0, some (.int s0)] [] lay M P := e_istore_n (i := 1) rfl rfl (by simp) (mS1_1 h0)
set_option maxRecDepth 20000 in
theorem g173_43 {d : Nat} {a0 : Option Value} {x : Int32} {lay : List mShp} {M : mMem} {P : mPost} : mG (d) 173 43 [a0, some (.int x)] [] lay M P = mG d 173 44 [a0, some (.int x)] [.int x] lay M P := e_iload_n (i := 1) rfl rfl rfl
set_option maxRecDepth 20000 in
theorem g173_44 {d : Nat} {a0 a1 : Option Value} {s0 : Int32} {lay : List mShp} {M : mMem} {P : mPost} : mG (d) 173 44 [a0, a1] [.int s0] lay M P = mG d 173 46 [a0, a1] [.int (Int32.ofInt 6), .int s0] lay M P := e_bipush rfl
set_option maxRecDepth 20000 in
theorem g173_46 {d : Nat} {a0 a1 : Option Value} {s0 : Int32} {s1 : Int32} {lay : List mShp} {M : mMem} {P : mPost} : mG (d) 173 46 [a0, a1] [.int s0, .int s1] lay M P = if s1 < s0 then mG d 173 49 [a0, a1] [] lay M P else mG d 173 62 [a0, a1] [] lay M P := e_icmp_ge rfl rfl
set_option maxRecDepth 20000 in
theorem g173_49 {d : Nat} {a1 : Option Value} {x : Nat} {lay : List mShp} {M : mMem} {P : mPost} (hx : ¬ x = 0) : mG (d) 173 49 [some (.ref x), a1] [] lay M P = mG d 173 50 [some (.ref x), a1] [.ref x] lay M P := e_aload_nP hx (i := 0) rfl rfl rfl
set_option maxRecDepth 20000 in
theorem g173_50 {d : Nat} {a0 a1 : Option Value} {s0 : Nat} {lay : List mShp} {M : mMem} {P : mPost} (hs : mSh lay s0 = some (13, 44)) : mG (d) 173 50 [a0, a1] [.ref s0] lay M P = mG d 173 53 [a0, a1] [.ref (M.2.2 s0 18)] lay M P := mG_of_and (mIsO_of hs (by decide)) (e_getA (ci := 10) (j := 18) rfl rfl rfl)
set_option maxRecDepth 20000 in
theorem g173_53 {d : Nat} {a0 : Option Value} {s0 : Nat} {x : Int32} {lay : List mShp} {M : mMem} {P : mPost} : mG (d) 173 53 [a0, some (.int x)] [.ref s0] lay M P = mG d 173 54 [a0, some (.int x)] [.int x, .ref s0] lay M P := e_iload_n (i := 1) rfl rfl rfl
set_option maxRecDepth 20000 in
theorem g173_54 {d : Nat} {a0 a1 : Option Value} {s0 : Int32} {s1 : Nat} {lay : List mShp} {M : mMem} {P : mPost} : mG (d) 173 54 [a0, a1] [.int s0, .ref s1] lay M P = mG d 173 55 [a0, a1] [.int (Int32.ofInt 0), .int s0, .ref s1] lay M P := e_iconst rfl
set_option maxRecDepth 20000 in
theorem g173_55 {d : Nat} {a0 a1 : Option Value} {s0 : Int32} {s1 : Int32} {s2 : Nat} {lay : List mShp} {M : mMem} {P : mPost} (hs : mSh lay s2 = some (0, 6)) : mG (d) 173 55 [a0, a1] [.int s0, .int s1, .ref s2] lay M P = (mIdx s1 6 = true ∧ mG d 173 56 [a0, a1] [] lay (mSetI M s2 s1.toNatClampNeg s0) P) := e_iastore rfl hs
set_option maxRecDepth 20000 in
theorem g173_56 {d : Nat} {a0 : Option Value} {x : Int32} {lay : List mShp} {M : mMem} {P : mPost} (h0 : mNoL a0 = true) : mG (d) 173 56 [a0, some (.int x)] [] lay M P = mG d 173 59 [a0, some (.int (x + Int32.ofInt 1))] [] lay M P := e_iinc (n := 1) rfl rfl (mS1_1 h0)
set_option maxRecDepth 20000 in
theorem g173_59 {d : Nat} {a0 a1 : Option Value} {lay : List mShp} {M : mMem} {P : mPost} : mG (d) 173 59 [a0, a1] [] lay M P = mG d 173 43 [a0, a1] [] lay M P := e_goto rfl rfl
set_option maxRecDepth 20000 in
theorem g173_62 {d : Nat} {a1 : Option Value} {x : Nat} {lay : List mShp} {M : mMem} {P : mPost} (hx : ¬ x = 0) : mG (d) 173 62 [some (.ref x), a1] [] lay M P = mG d 173 63 [some (.ref x), a1] [.ref x] lay M P := e_aload_nP hx (i := 0) rfl rfl rfl
set_option maxRecDepth 20000 in
theorem g173_63 {d : Nat} {a0 a1 : Option Value} {s0 : Nat} {lay : List mShp} {M : mMem} {P : mPost} (hs : mSh lay s0 = some (13, 44)) : mG (d + 1) 173 63 [a0, a1] [.ref s0] lay M P = mF d 172 [.ref s0] lay M (fun v lay1 M1 => mG (d + 1) 173 66 [a0, a1] (v.toList ++ []) lay1 M1 P) := e_virtP0 (j := 172) (c := 10) rfl rfl rfl rfl rfl rfl hs (Nat.le_of_ble_eq_true rfl)
set_option maxRecDepth 20000 in
theorem g173_66 {d : Nat} {a0 a1 : Option Value} {s0 : Int32} {lay : List mShp} {M : mMem} {P : mPost} : mG (d) 173 66 [a0, a1] [.int s0] lay M P = mG d 173 67 [a0, a1] [] lay M P := e_popi rfl
set_option maxRecDepth 20000 in
theorem g173_67 {d : Nat} {a1 : Option Value} {x : Nat} {lay : List mShp} {M : mMem} {P : mPost} (hx : ¬ x = 0) : mG (d) 173 67 [some (.ref x), a1] [] lay M P = mG d 173 68 [some (.ref x), a1] [.ref x] lay M P := e_aload_nP hx (i := 0) rfl rfl rfl
set_option maxRecDepth 20000 in
theorem g173_68 {d : Nat} {a0 a1 : Option Value} {s0 : Nat} {lay : List mShp} {M : mMem} {P : mPost} (hs : mSh lay s0 = some (13, 44)) : mG (d) 173 68 [a0, a1] [.ref s0] lay M P = mG d 173 71 [a0, a1] [.int (M.1 s0 16)] lay M P := mG_of_and (mIsO_of hs (by decide)) (e_getZ (ci := 10) (j := 16) rfl rfl rfl)
set_option maxRecDepth 20000 in
theorem g173_71 {d : Nat} {a0 a1 : Option Value} {s0 : Int32} {lay : List mShp} {M : mMem} {P : mPost} : mG (d) 173 71 [a0, a1] [.int s0] lay M P = if s0 = 0 then mG d 173 85 [a0, a1] [] lay M P else mG d 173 74 [a0, a1] [] lay M P := e_if_eq rfl rfl
set_option maxRecDepth 20000 in
theorem g173_74 {d : Nat} {a1 : Option Value} {x : Nat} {lay : List mShp} {M : mMem} {P : mPost} (hx : ¬ x = 0) : mG (d) 173 74 [some (.ref x), a1] [] lay M P = mG d 173 75 [some (.ref x), a1] [.ref x] lay M P := e_aload_nP hx (i := 0) rfl rfl rfl
set_option maxRecDepth 20000 in
theorem g173_75 {d : Nat} {a0 a1 : Option Value} {s0 : Nat} {lay : List mShp} {M : mMem} {P : mPost} (hs : mSh lay s0 = some (13, 44)) : mG (d) 173 75 [a0, a1] [.ref s0] lay M P = mG d 173 78 [a0, a1] [.int (M.1 s0 15)] lay M P := mG_of_and (mIsO_of hs (by decide)) (e_getI (ci := 10) (j := 15) rfl rfl rfl)
set_option maxRecDepth 20000 in
theorem g173_78 {d : Nat} {a1 : Option Value} {s0 : Int32} {x : Nat} {lay : List mShp} {M : mMem} {P : mPost} (hx : ¬ x = 0) : mG (d) 173 78 [some (.ref x), a1] [.int s0] lay M P = mG d 173 79 [some (.ref x), a1] [.ref x, .int s0] lay M P := e_aload_nP hx (i := 0) rfl rfl rfl
set_option maxRecDepth 20000 in
theorem g173_79 {d : Nat} {a0 a1 : Option Value} {s0 : Nat} {s1 : Int32} {lay : List mShp} {M : mMem} {P : mPost} (hs : mSh lay s0 = some (13, 44)) : mG (d) 173 79 [a0, a1] [.ref s0, .int s1] lay M P = mG d 173 82 [a0, a1] [.int (M.1 s0 14), .int s1] lay M P := mG_of_and (mIsO_of hs (by decide)) (e_getI (ci := 10) (j := 14) rfl rfl rfl)
set_option maxRecDepth 20000 in
theorem g173_82 {d : Nat} {a0 a1 : Option Value} {s0 : Int32} {s1 : Int32} {lay : List mShp} {M : mMem} {P : mPost} : mG (d) 173 82 [a0, a1] [.int s0, .int s1] lay M P = if s1 < s0 then mG d 173 85 [a0, a1] [] lay M P else mG d 173 93 [a0, a1] [] lay M P := e_icmp_ge rfl rfl
set_option maxRecDepth 20000 in
theorem g173_85 {d : Nat} {a0 a1 : Option Value} {lay : List mShp} {M : mMem} {P : mPost} : mG (d) 173 85 [a0, a1] [] lay M P = mG d 173 87 [a0, a1] [.int (Int32.ofInt (-100))] lay M P := e_bipush rfl
set_option maxRecDepth 20000 in
theorem g173_87 {d : Nat} {a1 : Option Value} {s0 : Int32} {x : Nat} {lay : List mShp} {M : mMem} {P : mPost} (hx : ¬ x = 0) : mG (d) 173 87 [some (.ref x), a1] [.int s0] lay M P = mG d 173 88 [some (.ref x), a1] [.ref x, .int s0] lay M P := e_aload_nP hx (i := 0) rfl rfl rfl
set_option maxRecDepth 20000 in
theorem g173_88 {d : Nat} {a0 a1 : Option Value} {s0 : Nat} {s1 : Int32} {lay : List mShp} {M : mMem} {P : mPost} (hs : mSh lay s0 = some (13, 44)) : mG (d) 173 88 [a0, a1] [.ref s0, .int s1] lay M P = mG d 173 91 [a0, a1] [.int (M.1 s0 15), .int s1] lay M P := mG_of_and (mIsO_of hs (by decide)) (e_getI (ci := 10) (j := 15) rfl rfl rfl)
set_option maxRecDepth 20000 in
theorem g173_91 {d : Nat} {a0 a1 : Option Value} {s0 : Int32} {s1 : Int32} {lay : List mShp} {M : mMem} {P : mPost} : mG (d) 173 91 [a0, a1] [.int s0, .int s1] lay M P = mG d 173 92 [a0, a1] [.int (s1 - s0)] lay M P := e_isub rfl
set_option maxRecDepth 20000 in
theorem g173_92 {d : Nat} {a0 a1 : Option Value} {s0 : Int32} {lay : List mShp} {M : mMem} {P : mPost} : mG (d) 173 92 [a0, a1] [.int s0] lay M P = P (some (.int s0)) lay M := e_ireturnI rfl rfl
set_option maxRecDepth 20000 in
theorem g173_93 {d : Nat} {a0 a1 : Option Value} {lay : List mShp} {M : mMem} {P : mPost} : mG (d) 173 93 [a0, a1] [] lay M P = mG d 173 94 [a0, a1] [.int (Int32.ofInt 0)] lay M P := e_iconst rfl
set_option maxRecDepth 20000 in
theorem g173_94 {d : Nat} {a0 a1 : Option Value} {s0 : Int32} {lay : List mShp} {M : mMem} {P : mPost} (h0 : mNoL a0 = true) : mG (d) 173 94 [a0, a1] [.int s0] lay M P = mG d 173 95 [a0, some (.int s0)] [] lay M P := e_istore_n (i := 1) rfl rfl (by simp) (mS1_1 h0)
set_option maxRecDepth 20000 in
theorem g173_95 {d : Nat} {a0 : Option Value} {x : Int32} {lay : List mShp} {M : mMem} {P : mPost} : mG (d) 173 95 [a0, some (.int x)] [] lay M P = mG d 173 96 [a0, some (.int x)] [.int x] lay M P := e_iload_n (i := 1) rfl rfl rfl
set_option maxRecDepth 20000 in
theorem g173_96 {d : Nat} {a1 : Option Value} {s0 : Int32} {x : Nat} {lay : List mShp} {M : mMem} {P : mPost} (hx : ¬ x = 0) : mG (d) 173 96 [some (.ref x), a1] [.int s0] lay M P = mG d 173 97 [some (.ref x), a1] [.ref x, .int s0] lay M P := e_aload_nP hx (i := 0) rfl rfl rfl
set_option maxRecDepth 20000 in
theorem g173_97 {d : Nat} {a0 a1 : Option Value} {s0 : Nat} {s1 : Int32} {lay : List mShp} {M : mMem} {P : mPost} (hs : mSh lay s0 = some (13, 44)) : mG (d) 173 97 [a0, a1] [.ref s0, .int s1] lay M P = mG d 173 100 [a0, a1] [.int (M.1 s0 14), .int s1] lay M P := mG_of_and (mIsO_of hs (by decide)) (e_getI (ci := 10) (j := 14) rfl rfl rfl)
set_option maxRecDepth 20000 in
theorem g173_100 {d : Nat} {a0 a1 : Option Value} {s0 : Int32} {s1 : Int32} {lay : List mShp} {M : mMem} {P : mPost} : mG (d) 173 100 [a0, a1] [.int s0, .int s1] lay M P = if s1 < s0 then mG d 173 103 [a0, a1] [] lay M P else mG d 173 121 [a0, a1] [] lay M P := e_icmp_ge rfl rfl
set_option maxRecDepth 20000 in
theorem g173_103 {d : Nat} {a1 : Option Value} {x : Nat} {lay : List mShp} {M : mMem} {P : mPost} (hx : ¬ x = 0) : mG (d) 173 103 [some (.ref x), a1] [] lay M P = mG d 173 104 [some (.ref x), a1] [.ref x] lay M P := e_aload_nP hx (i := 0) rfl rfl rfl
set_option maxRecDepth 20000 in
theorem g173_104 {d : Nat} {a0 a1 : Option Value} {s0 : Nat} {lay : List mShp} {M : mMem} {P : mPost} (hs : mSh lay s0 = some (13, 44)) : mG (d) 173 104 [a0, a1] [.ref s0] lay M P = mG d 173 107 [a0, a1] [.ref (M.2.2 s0 10)] lay M P := mG_of_and (mIsO_of hs (by decide)) (e_getA (ci := 10) (j := 10) rfl rfl rfl)
set_option maxRecDepth 20000 in
theorem g173_107 {d : Nat} {a0 : Option Value} {s0 : Nat} {x : Int32} {lay : List mShp} {M : mMem} {P : mPost} : mG (d) 173 107 [a0, some (.int x)] [.ref s0] lay M P = mG d 173 108 [a0, some (.int x)] [.int x, .ref s0] lay M P := e_iload_n (i := 1) rfl rfl rfl
set_option maxRecDepth 20000 in
theorem g173_108 {d : Nat} {a1 : Option Value} {s0 : Int32} {s1 : Nat} {x : Nat} {lay : List mShp} {M : mMem} {P : mPost} (hx : ¬ x = 0) : mG (d) 173 108 [some (.ref x), a1] [.int s0, .ref s1] lay M P = mG d 173 109 [some (.ref x), a1] [.ref x, .int s0, .ref s1] lay M P := e_aload_nP hx (i := 0) rfl rfl rfl
set_option maxRecDepth 20000 in
theorem g173_109 {d : Nat} {a0 a1 : Option Value} {s0 : Nat} {s1 : Int32} {s2 : Nat} {lay : List mShp} {M : mMem} {P : mPost} (hs : mSh lay s0 = some (13, 44)) : mG (d) 173 109 [a0, a1] [.ref s0, .int s1, .ref s2] lay M P = mG d 173 112 [a0, a1] [.ref (M.2.2 s0 13), .int s1, .ref s2] lay M P := mG_of_and (mIsO_of hs (by decide)) (e_getA (ci := 10) (j := 13) rfl rfl rfl)
set_option maxRecDepth 20000 in
theorem g173_112 {d : Nat} {a0 : Option Value} {s0 : Nat} {s1 : Int32} {s2 : Nat} {x : Int32} {lay : List mShp} {M : mMem} {P : mPost} : mG (d) 173 112 [a0, some (.int x)] [.ref s0, .int s1, .ref s2] lay M P = mG d 173 113 [a0, some (.int x)] [.int x, .ref s0, .int s1, .ref s2] lay M P := e_iload_n (i := 1) rfl rfl rfl
set_option maxRecDepth 20000 in
theorem g173_113 {d : Nat} {a0 a1 : Option Value} {s0 : Int32} {s1 : Nat} {s2 : Int32} {s3 : Nat} {lay : List mShp} {M : mMem} {P : mPost} (hs : mSh lay s1 = some (0, 120)) : mG (d) 173 113 [a0, a1] [.int s0, .ref s1, .int s2, .ref s3] lay M P = (mIdx s0 120 = true ∧ mG d 173 114 [a0, a1] [.int (M.1 s1 s0.toNatClampNeg), .int s2, .ref s3] lay M P) := e_iaload rfl hs
set_option maxRecDepth 20000 in
theorem g173_114 {d : Nat} {a0 a1 : Option Value} {s0 : Int32} {s1 : Int32} {s2 : Nat} {lay : List mShp} {M : mMem} {P : mPost} (hs : mSh lay s2 = some (0, 120)) : mG (d) 173 114 [a0, a1] [.int s0, .int s1, .ref s2] lay M P = (mIdx s1 120 = true ∧ mG d 173 115 [a0, a1] [] lay (mSetI M s2 s1.toNatClampNeg s0) P) := e_iastore rfl hs
set_option maxRecDepth 20000 in
theorem g173_115 {d : Nat} {a0 : Option Value} {x : Int32} {lay : List mShp} {M : mMem} {P : mPost} (h0 : mNoL a0 = true) : mG (d) 173 115 [a0, some (.int x)] [] lay M P = mG d 173 118 [a0, some (.int (x + Int32.ofInt 1))] [] lay M P := e_iinc (n := 1) rfl rfl (mS1_1 h0)
set_option maxRecDepth 20000 in
theorem g173_118 {d : Nat} {a0 a1 : Option Value} {lay : List mShp} {M : mMem} {P : mPost} : mG (d) 173 118 [a0, a1] [] lay M P = mG d 173 95 [a0, a1] [] lay M P := e_goto rfl rfl
set_option maxRecDepth 20000 in
theorem g173_121 {d : Nat} {a1 : Option Value} {x : Nat} {lay : List mShp} {M : mMem} {P : mPost} (hx : ¬ x = 0) : mG (d) 173 121 [some (.ref x), a1] [] lay M P = mG d 173 122 [some (.ref x), a1] [.ref x] lay M P := e_aload_nP hx (i := 0) rfl rfl rfl
set_option maxRecDepth 20000 in
theorem g173_122 {d : Nat} {a1 : Option Value} {s0 : Nat} {x : Nat} {lay : List mShp} {M : mMem} {P : mPost} (hx : ¬ x = 0) : mG (d) 173 122 [some (.ref x), a1] [.ref s0] lay M P = mG d 173 123 [some (.ref x), a1] [.ref x, .ref s0] lay M P := e_aload_nP hx (i := 0) rfl rfl rfl
set_option maxRecDepth 20000 in
theorem g173_123 {d : Nat} {a0 a1 : Option Value} {s0 : Nat} {s1 : Nat} {lay : List mShp} {M : mMem} {P : mPost} (hs : mSh lay s0 = some (13, 44)) : mG (d) 173 123 [a0, a1] [.ref s0, .ref s1] lay M P = mG d 173 126 [a0, a1] [.int (M.1 s0 14), .ref s1] lay M P := mG_of_and (mIsO_of hs (by decide)) (e_getI (ci := 10) (j := 14) rfl rfl rfl)
set_option maxRecDepth 20000 in
theorem g173_126 {d : Nat} {a0 a1 : Option Value} {s0 : Int32} {s1 : Nat} {lay : List mShp} {M : mMem} {P : mPost} (hs : mSh lay s1 = some (13, 44)) : mG (d) 173 126 [a0, a1] [.int s0, .ref s1] lay M P = mG d 173 129 [a0, a1] [] lay (mSetI M s1 11 s0) P := mG_of_and (mIsO_of hs (by decide)) (e_putI (ci := 10) (j := 11) rfl rfl (Or.inl rfl) rfl)
set_option maxRecDepth 20000 in
theorem g173_129 {d : Nat} {a1 : Option Value} {x : Nat} {lay : List mShp} {M : mMem} {P : mPost} (hx : ¬ x = 0) : mG (d) 173 129 [some (.ref x), a1] [] lay M P = mG d 173 130 [some (.ref x), a1] [.ref x] lay M P := e_aload_nP hx (i := 0) rfl rfl rfl
set_option maxRecDepth 20000 in
theorem g173_130 {d : Nat} {a0 a1 : Option Value} {s0 : Nat} {lay : List mShp} {M : mMem} {P : mPost} : mG (d) 173 130 [a0, a1] [.ref s0] lay M P = mG d 173 131 [a0, a1] [.int (Int32.ofInt 1), .ref s0] lay M P := e_iconst rfl
set_option maxRecDepth 20000 in
theorem g173_131 {d : Nat} {a0 a1 : Option Value} {s0 : Int32} {s1 : Nat} {lay : List mShp} {M : mMem} {P : mPost} (hs : mSh lay s1 = some (13, 44)) : mG (d) 173 131 [a0, a1] [.int s0, .ref s1] lay M P = ((s0 = 0 ∨ s0 = 1) ∧ mG d 173 134 [a0, a1] [] lay (mSetI M s1 12 s0) P) := mG_of_and (mIsO_of hs (by decide)) (e_putZ (ci := 10) (j := 12) rfl rfl (Or.inl rfl) rfl)
set_option maxRecDepth 20000 in
theorem g173_134 {d : Nat} {a0 a1 : Option Value} {lay : List mShp} {M : mMem} {P : mPost} : mG (d) 173 134 [a0, a1] [] lay M P = mG d 173 135 [a0, a1] [.int (Int32.ofInt 1)] lay M P := e_iconst rfl
set_option maxRecDepth 20000 in
theorem g173_135 {d : Nat} {a0 a1 : Option Value} {s0 : Int32} {lay : List mShp} {M : mMem} {P : mPost} : mG (d) 173 135 [a0, a1] [.int s0] lay M P = P (some (.int s0)) lay M := e_ireturnI rfl rfl
-- 174 X10_comesBy
theorem g174_in {d : Nat} {x0 : Nat} {lay : List mShp} {M : mMem} {P : mPost} : mF d 174 [.ref x0] lay M P = mG d 174 0 [some (.ref x0), none] [] lay M P := mF_in rfl rfl
set_option maxRecDepth 20000 in
theorem g174_0 {d : Nat} {a1 : Option Value} {x : Nat} {lay : List mShp} {M : mMem} {P : mPost} (hx : ¬ x = 0) : mG (d) 174 0 [some (.ref x), a1] [] lay M P = mG d 174 1 [some (.ref x), a1] [.ref x] lay M P := e_aload_nP hx (i := 0) rfl rfl rfl
set_option maxRecDepth 20000 in
theorem g174_1 {d : Nat} {a0 a1 : Option Value} {s0 : Nat} {lay : List mShp} {M : mMem} {P : mPost} (hs : mSh lay s0 = some (13, 44)) : mG (d) 174 1 [a0, a1] [.ref s0] lay M P = mG d 174 4 [a0, a1] [.int (M.1 s0 12)] lay M P := mG_of_and (mIsO_of hs (by decide)) (e_getZ (ci := 10) (j := 12) rfl rfl rfl)
set_option maxRecDepth 20000 in
theorem g174_4 {d : Nat} {a0 a1 : Option Value} {s0 : Int32} {lay : List mShp} {M : mMem} {P : mPost} : mG (d) 174 4 [a0, a1] [.int s0] lay M P = if s0 = 0 then mG d 174 7 [a0, a1] [] lay M P else mG d 174 23 [a0, a1] [] lay M P := e_if_ne rfl rfl
set_option maxRecDepth 20000 in
theorem g174_7 {d : Nat} {a1 : Option Value} {x : Nat} {lay : List mShp} {M : mMem} {P : mPost} (hx : ¬ x = 0) : mG (d) 174 7 [some (.ref x), a1] [] lay M P = mG d 174 8 [some (.ref x), a1] [.ref x] lay M P := e_aload_nP hx (i := 0) rfl rfl rfl
set_option maxRecDepth 20000 in
theorem g174_8 {d : Nat} {a0 a1 : Option Value} {s0 : Nat} {lay : List mShp} {M : mMem} {P : mPost} (hs : mSh lay s0 = some (13, 44)) : mG (d) 174 8 [a0, a1] [.ref s0] lay M P = mG d 174 11 [a0, a1] [.ref (M.2.2 s0 18)] lay M P := mG_of_and (mIsO_of hs (by decide)) (e_getA (ci := 10) (j := 18) rfl rfl rfl)
set_option maxRecDepth 20000 in
theorem g174_11 {d : Nat} {a0 a1 : Option Value} {s0 : Nat} {lay : List mShp} {M : mMem} {P : mPost} : mG (d) 174 11 [a0, a1] [.ref s0] lay M P = mG d 174 12 [a0, a1] [.int (Int32.ofInt 0), .ref s0] lay M P := e_iconst rfl
set_option maxRecDepth 20000 in
theorem g174_12 {d : Nat} {a0 a1 : Option Value} {s0 : Int32} {s1 : Nat} {lay : List mShp} {M : mMem} {P : mPost} (hs : mSh lay s1 = some (0, 6)) : mG (d) 174 12 [a0, a1] [.int s0, .ref s1] lay M P = (mIdx s0 6 = true ∧ mG d 174 13 [a0, a1] [.int (M.1 s1 s0.toNatClampNeg)] lay M P) := e_iaload rfl hs
set_option maxRecDepth 20000 in
theorem g174_13 {d : Nat} {a1 : Option Value} {s0 : Int32} {x : Nat} {lay : List mShp} {M : mMem} {P : mPost} (hx : ¬ x = 0) : mG (d) 174 13 [some (.ref x), a1] [.int s0] lay M P = mG d 174 14 [some (.ref x), a1] [.ref x, .int s0] lay M P := e_aload_nP hx (i := 0) rfl rfl rfl
set_option maxRecDepth 20000 in
theorem g174_14 {d : Nat} {a0 a1 : Option Value} {s0 : Nat} {s1 : Int32} {lay : List mShp} {M : mMem} {P : mPost} (hs : mSh lay s0 = some (13, 44)) : mG (d) 174 14 [a0, a1] [.ref s0, .int s1] lay M P = mG d 174 17 [a0, a1] [.ref (M.2.2 s0 18), .int s1] lay M P := mG_of_and (mIsO_of hs (by decide)) (e_getA (ci := 10) (j := 18) rfl rfl rfl)
set_option maxRecDepth 20000 in
theorem g174_17 {d : Nat} {a0 a1 : Option Value} {s0 : Nat} {s1 : Int32} {lay : List mShp} {M : mMem} {P : mPost} : mG (d) 174 17 [a0, a1] [.ref s0, .int s1] lay M P = mG d 174 18 [a0, a1] [.int (Int32.ofInt 1), .ref s0, .int s1] lay M P := e_iconst rfl
set_option maxRecDepth 20000 in
theorem g174_18 {d : Nat} {a0 a1 : Option Value} {s0 : Int32} {s1 : Nat} {s2 : Int32} {lay : List mShp} {M : mMem} {P : mPost} (hs : mSh lay s1 = some (0, 6)) : mG (d) 174 18 [a0, a1] [.int s0, .ref s1, .int s2] lay M P = (mIdx s0 6 = true ∧ mG d 174 19 [a0, a1] [.int (M.1 s1 s0.toNatClampNeg), .int s2] lay M P) := e_iaload rfl hs
set_option maxRecDepth 20000 in
theorem g174_19 {d : Nat} {a0 a1 : Option Value} {s0 : Int32} {s1 : Int32} {lay : List mShp} {M : mMem} {P : mPost} : mG (d) 174 19 [a0, a1] [.int s0, .int s1] lay M P = mG d 174 20 [a0, a1] [.int (Int32.ofInt 2), .int s0, .int s1] lay M P := e_iconst rfl
set_option maxRecDepth 20000 in
theorem g174_20 {d : Nat} {a0 a1 : Option Value} {s0 : Int32} {s1 : Int32} {s2 : Int32} {lay : List mShp} {M : mMem} {P : mPost} : mG (d) 174 20 [a0, a1] [.int s0, .int s1, .int s2] lay M P = (s0 ≠ 0 ∧ mG d 174 21 [a0, a1] [.int (s1 / s0), .int s2] lay M P) := e_idiv rfl
set_option maxRecDepth 20000 in
theorem g174_21 {d : Nat} {a0 a1 : Option Value} {s0 : Int32} {s1 : Int32} {lay : List mShp} {M : mMem} {P : mPost} : mG (d) 174 21 [a0, a1] [.int s0, .int s1] lay M P = mG d 174 22 [a0, a1] [.int (s1 - s0)] lay M P := e_isub rfl
set_option maxRecDepth 20000 in
theorem g174_22 {d : Nat} {a0 a1 : Option Value} {s0 : Int32} {lay : List mShp} {M : mMem} {P : mPost} : mG (d) 174 22 [a0, a1] [.int s0] lay M P = P (some (.int s0)) lay M := e_ireturnI rfl rfl
set_option maxRecDepth 20000 in
theorem g174_23 {d : Nat} {a1 : Option Value} {x : Nat} {lay : List mShp} {M : mMem} {P : mPost} (hx : ¬ x = 0) : mG (d) 174 23 [some (.ref x), a1] [] lay M P = mG d 174 24 [some (.ref x), a1] [.ref x] lay M P := e_aload_nP hx (i := 0) rfl rfl rfl
set_option maxRecDepth 20000 in
theorem g174_24 {d : Nat} {a1 : Option Value} {s0 : Nat} {x : Nat} {lay : List mShp} {M : mMem} {P : mPost} (hx : ¬ x = 0) : mG (d) 174 24 [some (.ref x), a1] [.ref s0] lay M P = mG d 174 25 [some (.ref x), a1] [.ref x, .ref s0] lay M P := e_aload_nP hx (i := 0) rfl rfl rfl
set_option maxRecDepth 20000 in
theorem g174_25 {d : Nat} {a0 a1 : Option Value} {s0 : Nat} {s1 : Nat} {lay : List mShp} {M : mMem} {P : mPost} (hs : mSh lay s0 = some (13, 44)) : mG (d) 174 25 [a0, a1] [.ref s0, .ref s1] lay M P = mG d 174 28 [a0, a1] [.int (M.1 s0 11), .ref s1] lay M P := mG_of_and (mIsO_of hs (by decide)) (e_getI (ci := 10) (j := 11) rfl rfl rfl)
set_option maxRecDepth 20000 in
theorem g174_28 {d : Nat} {a0 a1 : Option Value} {s0 : Int32} {s1 : Nat} {lay : List mShp} {M : mMem} {P : mPost} (hs : mSh lay s1 = some (13, 44)) : mG (d) 174 28 [a0, a1] [.int s0, .ref s1] lay M P = mG d 174 31 [a0, a1] [] lay (mSetI M s1 14 s0) P := mG_of_and (mIsO_of hs (by decide)) (e_putI (ci := 10) (j := 14) rfl rfl (Or.inl rfl) rfl)
set_option maxRecDepth 20000 in
theorem g174_31 {d : Nat} {a0 a1 : Option Value} {lay : List mShp} {M : mMem} {P : mPost} : mG (d) 174 31 [a0, a1] [] lay M P = mG d 174 32 [a0, a1] [.int (Int32.ofInt 0)] lay M P := e_iconst rfl
set_option maxRecDepth 20000 in
theorem g174_32 {d : Nat} {a0 a1 : Option Value} {s0 : Int32} {lay : List mShp} {M : mMem} {P : mPost} (h0 : mNoL a0 = true) : mG (d) 174 32 [a0, a1] [.int s0] lay M P = mG d 174 33 [a0, some (.int s0)] [] lay M P := e_istore_n (i := 1) rfl rfl (by simp) (mS1_1 h0)
set_option maxRecDepth 20000 in
theorem g174_33 {d : Nat} {a0 : Option Value} {x : Int32} {lay : List mShp} {M : mMem} {P : mPost} : mG (d) 174 33 [a0, some (.int x)] [] lay M P = mG d 174 34 [a0, some (.int x)] [.int x] lay M P := e_iload_n (i := 1) rfl rfl rfl
set_option maxRecDepth 20000 in
theorem g174_34 {d : Nat} {a1 : Option Value} {s0 : Int32} {x : Nat} {lay : List mShp} {M : mMem} {P : mPost} (hx : ¬ x = 0) : mG (d) 174 34 [some (.ref x), a1] [.int s0] lay M P = mG d 174 35 [some (.ref x), a1] [.ref x, .int s0] lay M P := e_aload_nP hx (i := 0) rfl rfl rfl
set_option maxRecDepth 20000 in
theorem g174_35 {d : Nat} {a0 a1 : Option Value} {s0 : Nat} {s1 : Int32} {lay : List mShp} {M : mMem} {P : mPost} (hs : mSh lay s0 = some (13, 44)) : mG (d) 174 35 [a0, a1] [.ref s0, .int s1] lay M P = mG d 174 38 [a0, a1] [.int (M.1 s0 14), .int s1] lay M P := mG_of_and (mIsO_of hs (by decide)) (e_getI (ci := 10) (j := 14) rfl rfl rfl)
set_option maxRecDepth 20000 in
theorem g174_38 {d : Nat} {a0 a1 : Option Value} {s0 : Int32} {s1 : Int32} {lay : List mShp} {M : mMem} {P : mPost} : mG (d) 174 38 [a0, a1] [.int s0, .int s1] lay M P = if s1 < s0 then mG d 174 41 [a0, a1] [] lay M P else mG d 174 59 [a0, a1] [] lay M P := e_icmp_ge rfl rfl
set_option maxRecDepth 20000 in
theorem g174_41 {d : Nat} {a1 : Option Value} {x : Nat} {lay : List mShp} {M : mMem} {P : mPost} (hx : ¬ x = 0) : mG (d) 174 41 [some (.ref x), a1] [] lay M P = mG d 174 42 [some (.ref x), a1] [.ref x] lay M P := e_aload_nP hx (i := 0) rfl rfl rfl
set_option maxRecDepth 20000 in
theorem g174_42 {d : Nat} {a0 a1 : Option Value} {s0 : Nat} {lay : List mShp} {M : mMem} {P : mPost} (hs : mSh lay s0 = some (13, 44)) : mG (d) 174 42 [a0, a1] [.ref s0] lay M P = mG d 174 45 [a0, a1] [.ref (M.2.2 s0 13)] lay M P := mG_of_and (mIsO_of hs (by decide)) (e_getA (ci := 10) (j := 13) rfl rfl rfl)
set_option maxRecDepth 20000 in
theorem g174_45 {d : Nat} {a0 : Option Value} {s0 : Nat} {x : Int32} {lay : List mShp} {M : mMem} {P : mPost} : mG (d) 174 45 [a0, some (.int x)] [.ref s0] lay M P = mG d 174 46 [a0, some (.int x)] [.int x, .ref s0] lay M P := e_iload_n (i := 1) rfl rfl rfl
set_option maxRecDepth 20000 in
theorem g174_46 {d : Nat} {a1 : Option Value} {s0 : Int32} {s1 : Nat} {x : Nat} {lay : List mShp} {M : mMem} {P : mPost} (hx : ¬ x = 0) : mG (d) 174 46 [some (.ref x), a1] [.int s0, .ref s1] lay M P = mG d 174 47 [some (.ref x), a1] [.ref x, .int s0, .ref s1] lay M P := e_aload_nP hx (i := 0) rfl rfl rfl
set_option maxRecDepth 20000 in
theorem g174_47 {d : Nat} {a0 a1 : Option Value} {s0 : Nat} {s1 : Int32} {s2 : Nat} {lay : List mShp} {M : mMem} {P : mPost} (hs : mSh lay s0 = some (13, 44)) : mG (d) 174 47 [a0, a1] [.ref s0, .int s1, .ref s2] lay M P = mG d 174 50 [a0, a1] [.ref (M.2.2 s0 10), .int s1, .ref s2] lay M P := mG_of_and (mIsO_of hs (by decide)) (e_getA (ci := 10) (j := 10) rfl rfl rfl)
set_option maxRecDepth 20000 in
theorem g174_50 {d : Nat} {a0 : Option Value} {s0 : Nat} {s1 : Int32} {s2 : Nat} {x : Int32} {lay : List mShp} {M : mMem} {P : mPost} : mG (d) 174 50 [a0, some (.int x)] [.ref s0, .int s1, .ref s2] lay M P = mG d 174 51 [a0, some (.int x)] [.int x, .ref s0, .int s1, .ref s2] lay M P := e_iload_n (i := 1) rfl rfl rfl
set_option maxRecDepth 20000 in
theorem g174_51 {d : Nat} {a0 a1 : Option Value} {s0 : Int32} {s1 : Nat} {s2 : Int32} {s3 : Nat} {lay : List mShp} {M : mMem} {P : mPost} (hs : mSh lay s1 = some (0, 120)) : mG (d) 174 51 [a0, a1] [.int s0, .ref s1, .int s2, .ref s3] lay M P = (mIdx s0 120 = true ∧ mG d 174 52 [a0, a1] [.int (M.1 s1 s0.toNatClampNeg), .int s2, .ref s3] lay M P) := e_iaload rfl hs
set_option maxRecDepth 20000 in
theorem g174_52 {d : Nat} {a0 a1 : Option Value} {s0 : Int32} {s1 : Int32} {s2 : Nat} {lay : List mShp} {M : mMem} {P : mPost} (hs : mSh lay s2 = some (0, 120)) : mG (d) 174 52 [a0, a1] [.int s0, .int s1, .ref s2] lay M P = (mIdx s1 120 = true ∧ mG d 174 53 [a0, a1] [] lay (mSetI M s2 s1.toNatClampNeg s0) P) := e_iastore rfl hs
set_option maxRecDepth 20000 in
theorem g174_53 {d : Nat} {a0 : Option Value} {x : Int32} {lay : List mShp} {M : mMem} {P : mPost} (h0 : mNoL a0 = true) : mG (d) 174 53 [a0, some (.int x)] [] lay M P = mG d 174 56 [a0, some (.int (x + Int32.ofInt 1))] [] lay M P := e_iinc (n := 1) rfl rfl (mS1_1 h0)
set_option maxRecDepth 20000 in
theorem g174_56 {d : Nat} {a0 a1 : Option Value} {lay : List mShp} {M : mMem} {P : mPost} : mG (d) 174 56 [a0, a1] [] lay M P = mG d 174 33 [a0, a1] [] lay M P := e_goto rfl rfl
set_option maxRecDepth 20000 in
theorem g174_59 {d : Nat} {a1 : Option Value} {x : Nat} {lay : List mShp} {M : mMem} {P : mPost} (hx : ¬ x = 0) : mG (d) 174 59 [some (.ref x), a1] [] lay M P = mG d 174 60 [some (.ref x), a1] [.ref x] lay M P := e_aload_nP hx (i := 0) rfl rfl rfl
set_option maxRecDepth 20000 in
theorem g174_60 {d : Nat} {a0 a1 : Option Value} {s0 : Nat} {lay : List mShp} {M : mMem} {P : mPost} (hs : mSh lay s0 = some (13, 44)) : mG (d + 1) 174 60 [a0, a1] [.ref s0] lay M P = mF d 172 [.ref s0] lay M (fun v lay1 M1 => mG (d + 1) 174 63 [a0, a1] (v.toList ++ []) lay1 M1 P) := e_virtP0 (j := 172) (c := 10) rfl rfl rfl rfl rfl rfl hs (Nat.le_of_ble_eq_true rfl)
set_option maxRecDepth 20000 in
theorem g174_63 {d : Nat} {a0 a1 : Option Value} {s0 : Int32} {lay : List mShp} {M : mMem} {P : mPost} : mG (d) 174 63 [a0, a1] [.int s0] lay M P = P (some (.int s0)) lay M := e_ireturnI rfl rfl
-- 175 X10_far
theorem g175_in {d : Nat} {x0 : Int32} {x1 : Int32} {lay : List mShp} {M : mMem} {P : mPost} : mF d 175 [.int x0, .int x1] lay M P = mG d 175 0 [some (.int x0), some (.int x1)] [] lay M P := mF_in rfl rfl
set_option maxRecDepth 20000 in
theorem g175_0 {d : Nat} {a1 : Option Value} {x : Int32} {lay : List mShp} {M : mMem} {P : mPost} : mG (d) 175 0 [some (.int x), a1] [] lay M P = mG d 175 1 [some (.int x), a1] [.int x] lay M P := e_iload_n (i := 0) rfl rfl rfl
set_option maxRecDepth 20000 in
theorem g175_1 {d : Nat} {a0 a1 : Option Value} {s0 : Int32} {lay : List mShp} {M : mMem} {P : mPost} : mG (d) 175 1 [a0, a1] [.int s0] lay M P = mG d 175 3 [a0, a1] [.int (Int32.ofInt 6), .int s0] lay M P := e_bipush rfl
set_option maxRecDepth 20000 in
theorem g175_3 {d : Nat} {a0 a1 : Option Value} {s0 : Int32} {s1 : Int32} {lay : List mShp} {M : mMem} {P : mPost} : mG (d) 175 3 [a0, a1] [.int s0, .int s1] lay M P = (s0 ≠ 0 ∧ mG d 175 4 [a0, a1] [.int (s1 / s0)] lay M P) := e_idiv rfl
set_option maxRecDepth 20000 in
theorem g175_4 {d : Nat} {a0 : Option Value} {s0 : Int32} {x : Int32} {lay : List mShp} {M : mMem} {P : mPost} : mG (d) 175 4 [a0, some (.int x)] [.int s0] lay M P = mG d 175 5 [a0, some (.int x)] [.int x, .int s0] lay M P := e_iload_n (i := 1) rfl rfl rfl
set_option maxRecDepth 20000 in
theorem g175_5 {d : Nat} {a0 a1 : Option Value} {s0 : Int32} {s1 : Int32} {lay : List mShp} {M : mMem} {P : mPost} : mG (d) 175 5 [a0, a1] [.int s0, .int s1] lay M P = mG d 175 7 [a0, a1] [.int (Int32.ofInt 6), .int s0, .int s1] lay M P := e_bipush rfl
set_option maxRecDepth 20000 in
theorem g175_7 {d : Nat} {a0 a1 : Option Value} {s0 : Int32} {s1 : Int32} {s2 : Int32} {lay : List mShp} {M : mMem} {P : mPost} : mG (d) 175 7 [a0, a1] [.int s0, .int s1, .int s2] lay M P = (s0 ≠ 0 ∧ mG d 175 8 [a0, a1] [.int (s1 / s0), .int s2] lay M P) := e_idiv rfl
set_option maxRecDepth 20000 in
theorem g175_8 {d : Nat} {a0 a1 : Option Value} {s0 : Int32} {s1 : Int32} {lay : List mShp} {M : mMem} {P : mPost} : mG (d) 175 8 [a0, a1] [.int s0, .int s1] lay M P = mG d 175 9 [a0, a1] [.int (s1 - s0)] lay M P := e_isub rfl
set_option maxRecDepth 20000 in
theorem g175_9 {d : Nat} {a0 a1 : Option Value} {s0 : Int32} {lay : List mShp} {M : mMem} {P : mPost} : mG (d) 175 9 [a0, a1] [.int s0] lay M P = mG d 175 12 [a0, a1] [.int (if 0 ≤ s0 then s0 else 0 - s0)] lay M P := e_abs rfl rfl (Nat.le_of_ble_eq_true rfl)
set_option maxRecDepth 20000 in
theorem g175_12 {d : Nat} {a1 : Option Value} {s0 : Int32} {x : Int32} {lay : List mShp} {M : mMem} {P : mPost} : mG (d) 175 12 [some (.int x), a1] [.int s0] lay M P = mG d 175 13 [some (.int x), a1] [.int x, .int s0] lay M P := e_iload_n (i := 0) rfl rfl rfl
set_option maxRecDepth 20000 in
theorem g175_13 {d : Nat} {a0 a1 : Option Value} {s0 : Int32} {s1 : Int32} {lay : List mShp} {M : mMem} {P : mPost} : mG (d) 175 13 [a0, a1] [.int s0, .int s1] lay M P = mG d 175 15 [a0, a1] [.int (Int32.ofInt 6), .int s0, .int s1] lay M P := e_bipush rfl
set_option maxRecDepth 20000 in
theorem g175_15 {d : Nat} {a0 a1 : Option Value} {s0 : Int32} {s1 : Int32} {s2 : Int32} {lay : List mShp} {M : mMem} {P : mPost} : mG (d) 175 15 [a0, a1] [.int s0, .int s1, .int s2] lay M P = (s0 ≠ 0 ∧ mG d 175 16 [a0, a1] [.int (s1 - s1 / s0 * s0), .int s2] lay M P) := e_irem rfl
set_option maxRecDepth 20000 in
theorem g175_16 {d : Nat} {a0 : Option Value} {s0 : Int32} {s1 : Int32} {x : Int32} {lay : List mShp} {M : mMem} {P : mPost} : mG (d) 175 16 [a0, some (.int x)] [.int s0, .int s1] lay M P = mG d 175 17 [a0, some (.int x)] [.int x, .int s0, .int s1] lay M P := e_iload_n (i := 1) rfl rfl rfl
set_option maxRecDepth 20000 in
theorem g175_17 {d : Nat} {a0 a1 : Option Value} {s0 : Int32} {s1 : Int32} {s2 : Int32} {lay : List mShp} {M : mMem} {P : mPost} : mG (d) 175 17 [a0, a1] [.int s0, .int s1, .int s2] lay M P = mG d 175 19 [a0, a1] [.int (Int32.ofInt 6), .int s0, .int s1, .int s2] lay M P := e_bipush rfl
set_option maxRecDepth 20000 in
theorem g175_19 {d : Nat} {a0 a1 : Option Value} {s0 : Int32} {s1 : Int32} {s2 : Int32} {s3 : Int32} {lay : List mShp} {M : mMem} {P : mPost} : mG (d) 175 19 [a0, a1] [.int s0, .int s1, .int s2, .int s3] lay M P = (s0 ≠ 0 ∧ mG d 175 20 [a0, a1] [.int (s1 - s1 / s0 * s0), .int s2, .int s3] lay M P) := e_irem rfl
set_option maxRecDepth 20000 in
theorem g175_20 {d : Nat} {a0 a1 : Option Value} {s0 : Int32} {s1 : Int32} {s2 : Int32} {lay : List mShp} {M : mMem} {P : mPost} : mG (d) 175 20 [a0, a1] [.int s0, .int s1, .int s2] lay M P = mG d 175 21 [a0, a1] [.int (s1 - s0), .int s2] lay M P := e_isub rfl
set_option maxRecDepth 20000 in
theorem g175_21 {d : Nat} {a0 a1 : Option Value} {s0 : Int32} {s1 : Int32} {lay : List mShp} {M : mMem} {P : mPost} : mG (d) 175 21 [a0, a1] [.int s0, .int s1] lay M P = mG d 175 24 [a0, a1] [.int (if 0 ≤ s0 then s0 else 0 - s0), .int s1] lay M P := e_abs rfl rfl (Nat.le_of_ble_eq_true rfl)
set_option maxRecDepth 20000 in
theorem g175_24 {d : Nat} {a0 a1 : Option Value} {s0 : Int32} {s1 : Int32} {lay : List mShp} {M : mMem} {P : mPost} : mG (d) 175 24 [a0, a1] [.int s0, .int s1] lay M P = mG d 175 25 [a0, a1] [.int (s1 + s0)] lay M P := e_iadd rfl
set_option maxRecDepth 20000 in
theorem g175_25 {d : Nat} {a0 a1 : Option Value} {s0 : Int32} {lay : List mShp} {M : mMem} {P : mPost} : mG (d) 175 25 [a0, a1] [.int s0] lay M P = P (some (.int s0)) lay M := e_ireturnI rfl rfl
-- 176 X10_carers
theorem g176_in {d : Nat} {x0 : Nat} {x1 : Int32} {lay : List mShp} {M : mMem} {P : mPost} : mF d 176 [.ref x0, .int x1] lay M P = mG d 176 0 [some (.ref x0), some (.int x1), none, none] [] lay M P := mF_in rfl rfl
set_option maxRecDepth 20000 in
theorem g176_0 {d : Nat} {a0 a1 a2 a3 : Option Value} {lay : List mShp} {M : mMem} {P : mPost} : mG (d) 176 0 [a0, a1, a2, a3] [] lay M P = mG d 176 1 [a0, a1, a2, a3] [.int (Int32.ofInt 0)] lay M P := e_iconst rfl
set_option maxRecDepth 20000 in
theorem g176_1 {d : Nat} {a0 a1 a2 a3 : Option Value} {s0 : Int32} {lay : List mShp} {M : mMem} {P : mPost} (h0 : mNoL a1 = true) : mG (d) 176 1 [a0, a1, a2, a3] [.int s0] lay M P = mG d 176 2 [a0, a1, some (.int s0), a3] [] lay M P := e_istore_n (i := 2) rfl rfl (by simp) (mS1_2 h0)
set_option maxRecDepth 20000 in
theorem g176_2 {d : Nat} {a0 a1 a2 a3 : Option Value} {lay : List mShp} {M : mMem} {P : mPost} : mG (d) 176 2 [a0, a1, a2, a3] [] lay M P = mG d 176 3 [a0, a1, a2, a3] [.int (Int32.ofInt 0)] lay M P := e_iconst rfl
set_option maxRecDepth 20000 in
theorem g176_3 {d : Nat} {a0 a1 a2 a3 : Option Value} {s0 : Int32} {lay : List mShp} {M : mMem} {P : mPost} (h0 : mNoL a2 = true) : mG (d) 176 3 [a0, a1, a2, a3] [.int s0] lay M P = mG d 176 4 [a0, a1, a2, some (.int s0)] [] lay M P := e_istore_n (i := 3) rfl rfl (by simp) (mS1_3 h0)
set_option maxRecDepth 20000 in
theorem g176_4 {d : Nat} {a0 a1 a2 : Option Value} {x : Int32} {lay : List mShp} {M : mMem} {P : mPost} : mG (d) 176 4 [a0, a1, a2, some (.int x)] [] lay M P = mG d 176 5 [a0, a1, a2, some (.int x)] [.int x] lay M P := e_iload_n (i := 3) rfl rfl rfl
set_option maxRecDepth 20000 in
theorem g176_5 {d : Nat} {a1 a2 a3 : Option Value} {s0 : Int32} {x : Nat} {lay : List mShp} {M : mMem} {P : mPost} (hx : ¬ x = 0) : mG (d) 176 5 [some (.ref x), a1, a2, a3] [.int s0] lay M P = mG d 176 6 [some (.ref x), a1, a2, a3] [.ref x, .int s0] lay M P := e_aload_nP hx (i := 0) rfl rfl rfl
set_option maxRecDepth 20000 in
theorem g176_6 {d : Nat} {a0 a1 a2 a3 : Option Value} {s0 : Nat} {s1 : Int32} {lay : List mShp} {M : mMem} {P : mPost} (hs : mSh lay s0 = some (13, 44)) : mG (d) 176 6 [a0, a1, a2, a3] [.ref s0, .int s1] lay M P = mG d 176 9 [a0, a1, a2, a3] [.int (M.1 s0 2), .int s1] lay M P := mG_of_and (mIsO_of hs (by decide)) (e_getI (ci := 10) (j := 2) rfl rfl rfl)
set_option maxRecDepth 20000 in
theorem g176_9 {d : Nat} {a0 a1 a2 a3 : Option Value} {s0 : Int32} {s1 : Int32} {lay : List mShp} {M : mMem} {P : mPost} : mG (d) 176 9 [a0, a1, a2, a3] [.int s0, .int s1] lay M P = if s1 < s0 then mG d 176 12 [a0, a1, a2, a3] [] lay M P else mG d 176 36 [a0, a1, a2, a3] [] lay M P := e_icmp_ge rfl rfl
set_option maxRecDepth 20000 in
theorem g176_12 {d : Nat} {a0 a1 a3 : Option Value} {x : Int32} {lay : List mShp} {M : mMem} {P : mPost} : mG (d) 176 12 [a0, a1, some (.int x), a3] [] lay M P = mG d 176 13 [a0, a1, some (.int x), a3] [.int x] lay M P := e_iload_n (i := 2) rfl rfl rfl
set_option maxRecDepth 20000 in
theorem g176_13 {d : Nat} {a1 a2 a3 : Option Value} {s0 : Int32} {x : Nat} {lay : List mShp} {M : mMem} {P : mPost} (hx : ¬ x = 0) : mG (d) 176 13 [some (.ref x), a1, a2, a3] [.int s0] lay M P = mG d 176 14 [some (.ref x), a1, a2, a3] [.ref x, .int s0] lay M P := e_aload_nP hx (i := 0) rfl rfl rfl
set_option maxRecDepth 20000 in
theorem g176_14 {d : Nat} {a0 a1 a2 : Option Value} {s0 : Nat} {s1 : Int32} {x : Int32} {lay : List mShp} {M : mMem} {P : mPost} : mG (d) 176 14 [a0, a1, a2, some (.int x)] [.ref s0, .int s1] lay M P = mG d 176 15 [a0, a1, a2, some (.int x)] [.int x, .ref s0, .int s1] lay M P := e_iload_n (i := 3) rfl rfl rfl
set_option maxRecDepth 20000 in
theorem g176_15 {d : Nat} {a0 a1 a2 a3 : Option Value} {s0 : Int32} {s1 : Nat} {s2 : Int32} {lay : List mShp} {M : mMem} {P : mPost} : mG (d) 176 15 [a0, a1, a2, a3] [.int s0, .ref s1, .int s2] lay M P = mG d 176 16 [a0, a1, a2, a3] [.int (Int32.ofInt 4), .int s0, .ref s1, .int s2] lay M P := e_iconst rfl
set_option maxRecDepth 20000 in
theorem g176_16 {d : Nat} {a0 a1 a2 a3 : Option Value} {s0 : Int32} {s1 : Int32} {s2 : Nat} {s3 : Int32} {lay : List mShp} {M : mMem} {P : mPost} (hs : mSh lay s2 = some (13, 44)) : mG (d + 1) 176 16 [a0, a1, a2, a3] [.int s0, .int s1, .ref s2, .int s3] lay M P = mF d 152 [.ref s2, .int s1, .int s0] lay M (fun v lay1 M1 => mG (d + 1) 176 19 [a0, a1, a2, a3] (v.toList ++ [.int s3]) lay1 M1 P) := e_virtP2 (j := 152) (c := 10) rfl rfl rfl rfl rfl rfl hs (Nat.le_of_ble_eq_true rfl)
set_option maxRecDepth 20000 in
theorem g176_19 {d : Nat} {a0 a2 a3 : Option Value} {s0 : Int32} {s1 : Int32} {x : Int32} {lay : List mShp} {M : mMem} {P : mPost} : mG (d) 176 19 [a0, some (.int x), a2, a3] [.int s0, .int s1] lay M P = mG d 176 20 [a0, some (.int x), a2, a3] [.int x, .int s0, .int s1] lay M P := e_iload_n (i := 1) rfl rfl rfl
set_option maxRecDepth 20000 in
theorem g176_20 {d : Nat} {a0 a1 a2 a3 : Option Value} {s0 : Int32} {s1 : Int32} {s2 : Int32} {lay : List mShp} {M : mMem} {P : mPost} : mG (d) 176 20 [a0, a1, a2, a3] [.int s0, .int s1, .int s2] lay M P = if s1 = s0 then mG d 176 23 [a0, a1, a2, a3] [.int s2] lay M P else mG d 176 27 [a0, a1, a2, a3] [.int s2] lay M P := e_icmp_ne rfl rfl
set_option maxRecDepth 20000 in
theorem g176_23 {d : Nat} {a0 a1 a2 a3 : Option Value} {s0 : Int32} {lay : List mShp} {M : mMem} {P : mPost} : mG (d) 176 23 [a0, a1, a2, a3] [.int s0] lay M P = mG d 176 24 [a0, a1, a2, a3] [.int (Int32.ofInt 1), .int s0] lay M P := e_iconst rfl
set_option maxRecDepth 20000 in
theorem g176_24 {d : Nat} {a0 a1 a2 a3 : Option Value} {s0 : Int32} {s1 : Int32} {lay : List mShp} {M : mMem} {P : mPost} : mG (d) 176 24 [a0, a1, a2, a3] [.int s0, .int s1] lay M P = mG d 176 28 [a0, a1, a2, a3] [.int s0, .int s1] lay M P := e_goto rfl rfl
set_option maxRecDepth 20000 in
theorem g176_27 {d : Nat} {a0 a1 a2 a3 : Option Value} {s0 : Int32} {lay : List mShp} {M : mMem} {P : mPost} : mG (d) 176 27 [a0, a1, a2, a3] [.int s0] lay M P = mG d 176 28 [a0, a1, a2, a3] [.int (Int32.ofInt 0), .int s0] lay M P := e_iconst rfl
set_option maxRecDepth 20000 in
theorem g176_28 {d : Nat} {a0 a1 a2 a3 : Option Value} {s0 : Int32} {s1 : Int32} {lay : List mShp} {M : mMem} {P : mPost} : mG (d) 176 28 [a0, a1, a2, a3] [.int s0, .int s1] lay M P = mG d 176 29 [a0, a1, a2, a3] [.int (s1 + s0)] lay M P := e_iadd rfl
set_option maxRecDepth 20000 in
theorem g176_29 {d : Nat} {a0 a1 a2 a3 : Option Value} {s0 : Int32} {lay : List mShp} {M : mMem} {P : mPost} (h0 : mNoL a1 = true) : mG (d) 176 29 [a0, a1, a2, a3] [.int s0] lay M P = mG d 176 30 [a0, a1, some (.int s0), a3] [] lay M P := e_istore_n (i := 2) rfl rfl (by simp) (mS1_2 h0)
set_option maxRecDepth 20000 in
theorem g176_30 {d : Nat} {a0 a1 a2 : Option Value} {x : Int32} {lay : List mShp} {M : mMem} {P : mPost} (h0 : mNoL a2 = true) : mG (d) 176 30 [a0, a1, a2, some (.int x)] [] lay M P = mG d 176 33 [a0, a1, a2, some (.int (x + Int32.ofInt 1))] [] lay M P := e_iinc (n := 3) rfl rfl (mS1_3 h0)
set_option maxRecDepth 20000 in
theorem g176_33 {d : Nat} {a0 a1 a2 a3 : Option Value} {lay : List mShp} {M : mMem} {P : mPost} : mG (d) 176 33 [a0, a1, a2, a3] [] lay M P = mG d 176 4 [a0, a1, a2, a3] [] lay M P := e_goto rfl rfl
set_option maxRecDepth 20000 in
theorem g176_36 {d : Nat} {a0 a1 a3 : Option Value} {x : Int32} {lay : List mShp} {M : mMem} {P : mPost} : mG (d) 176 36 [a0, a1, some (.int x), a3] [] lay M P = mG d 176 37 [a0, a1, some (.int x), a3] [.int x] lay M P := e_iload_n (i := 2) rfl rfl rfl
set_option maxRecDepth 20000 in
theorem g176_37 {d : Nat} {a0 a1 a2 a3 : Option Value} {s0 : Int32} {lay : List mShp} {M : mMem} {P : mPost} : mG (d) 176 37 [a0, a1, a2, a3] [.int s0] lay M P = P (some (.int s0)) lay M := e_ireturnI rfl rfl
-- 177 X10_comesFrom
theorem g177_in {d : Nat} {x0 : Nat} {x1 : Int32} {lay : List mShp} {M : mMem} {P : mPost} : mF d 177 [.ref x0, .int x1] lay M P = mG d 177 0 [some (.ref x0), some (.int x1), none] [] lay M P := mF_in rfl rfl
set_option maxRecDepth 20000 in
theorem g177_0 {d : Nat} {a1 a2 : Option Value} {x : Nat} {lay : List mShp} {M : mMem} {P : mPost} (hx : ¬ x = 0) : mG (d) 177 0 [some (.ref x), a1, a2] [] lay M P = mG d 177 1 [some (.ref x), a1, a2] [.ref x] lay M P := e_aload_nP hx (i := 0) rfl rfl rfl
set_option maxRecDepth 20000 in
theorem g177_1 {d : Nat} {a0 a2 : Option Value} {s0 : Nat} {x : Int32} {lay : List mShp} {M : mMem} {P : mPost} : mG (d) 177 1 [a0, some (.int x), a2] [.ref s0] lay M P = mG d 177 2 [a0, some (.int x), a2] [.int x, .ref s0] lay M P := e_iload_n (i := 1) rfl rfl rfl
set_option maxRecDepth 20000 in
theorem g177_2 {d : Nat} {a0 a1 a2 : Option Value} {s0 : Int32} {s1 : Nat} {lay : List mShp} {M : mMem} {P : mPost} : mG (d) 177 2 [a0, a1, a2] [.int s0, .ref s1] lay M P = mG d 177 3 [a0, a1, a2] [.int (Int32.ofInt 4), .int s0, .ref s1] lay M P := e_iconst rfl
set_option maxRecDepth 20000 in
theorem g177_3 {d : Nat} {a0 a1 a2 : Option Value} {s0 : Int32} {s1 : Int32} {s2 : Nat} {lay : List mShp} {M : mMem} {P : mPost} (hs : mSh lay s2 = some (13, 44)) : mG (d + 1) 177 3 [a0, a1, a2] [.int s0, .int s1, .ref s2] lay M P = mF d 152 [.ref s2, .int s1, .int s0] lay M (fun v lay1 M1 => mG (d + 1) 177 6 [a0, a1, a2] (v.toList ++ []) lay1 M1 P) := e_virtP2 (j := 152) (c := 10) rfl rfl rfl rfl rfl rfl hs (Nat.le_of_ble_eq_true rfl)
set_option maxRecDepth 20000 in
theorem g177_6 {d : Nat} {a0 a1 a2 : Option Value} {s0 : Int32} {lay : List mShp} {M : mMem} {P : mPost} (h0 : mNoL a1 = true) : mG (d) 177 6 [a0, a1, a2] [.int s0] lay M P = mG d 177 7 [a0, a1, some (.int s0)] [] lay M P := e_istore_n (i := 2) rfl rfl (by simp) (mS1_2 h0)
set_option maxRecDepth 20000 in
theorem g177_7 {d : Nat} {a0 a1 : Option Value} {x : Int32} {lay : List mShp} {M : mMem} {P : mPost} : mG (d) 177 7 [a0, a1, some (.int x)] [] lay M P = mG d 177 8 [a0, a1, some (.int x)] [.int x] lay M P := e_iload_n (i := 2) rfl rfl rfl
set_option maxRecDepth 20000 in
theorem g177_8 {d : Nat} {a0 a1 a2 : Option Value} {s0 : Int32} {lay : List mShp} {M : mMem} {P : mPost} : mG (d) 177 8 [a0, a1, a2] [.int s0] lay M P = mG d 177 9 [a0, a1, a2] [.int (Int32.ofInt (-1)), .int s0] lay M P := e_iconst rfl
set_option maxRecDepth 20000 in
theorem g177_9 {d : Nat} {a0 a1 a2 : Option Value} {s0 : Int32} {s1 : Int32} {lay : List mShp} {M : mMem} {P : mPost} : mG (d) 177 9 [a0, a1, a2] [.int s0, .int s1] lay M P = if s1 = s0 then mG d 177 21 [a0, a1, a2] [] lay M P else mG d 177 12 [a0, a1, a2] [] lay M P := e_icmp_eq rfl rfl
set_option maxRecDepth 20000 in
theorem g177_12 {d : Nat} {a1 a2 : Option Value} {x : Nat} {lay : List mShp} {M : mMem} {P : mPost} (hx : ¬ x = 0) : mG (d) 177 12 [some (.ref x), a1, a2] [] lay M P = mG d 177 13 [some (.ref x), a1, a2] [.ref x] lay M P := e_aload_nP hx (i := 0) rfl rfl rfl
set_option maxRecDepth 20000 in
theorem g177_13 {d : Nat} {a0 a2 : Option Value} {s0 : Nat} {x : Int32} {lay : List mShp} {M : mMem} {P : mPost} : mG (d) 177 13 [a0, some (.int x), a2] [.ref s0] lay M P = mG d 177 14 [a0, some (.int x), a2] [.int x, .ref s0] lay M P := e_iload_n (i := 1) rfl rfl rfl
set_option maxRecDepth 20000 in
theorem g177_14 {d : Nat} {a0 a1 a2 : Option Value} {s0 : Int32} {s1 : Nat} {lay : List mShp} {M : mMem} {P : mPost} : mG (d) 177 14 [a0, a1, a2] [.int s0, .ref s1] lay M P = mG d 177 15 [a0, a1, a2] [.int (Int32.ofInt 3), .int s0, .ref s1] lay M P := e_iconst rfl
set_option maxRecDepth 20000 in
theorem g177_15 {d : Nat} {a0 a1 a2 : Option Value} {s0 : Int32} {s1 : Int32} {s2 : Nat} {lay : List mShp} {M : mMem} {P : mPost} (hs : mSh lay s2 = some (13, 44)) : mG (d + 1) 177 15 [a0, a1, a2] [.int s0, .int s1, .ref s2] lay M P = mF d 152 [.ref s2, .int s1, .int s0] lay M (fun v lay1 M1 => mG (d + 1) 177 18 [a0, a1, a2] (v.toList ++ []) lay1 M1 P) := e_virtP2 (j := 152) (c := 10) rfl rfl rfl rfl rfl rfl hs (Nat.le_of_ble_eq_true rfl)
set_option maxRecDepth 20000 in
theorem g177_18 {d : Nat} {a0 a1 a2 : Option Value} {s0 : Int32} {lay : List mShp} {M : mMem} {P : mPost} : mG (d) 177 18 [a0, a1, a2] [.int s0] lay M P = if s0 = 0 then mG d 177 21 [a0, a1, a2] [] lay M P else mG d 177 23 [a0, a1, a2] [] lay M P := e_if_ne rfl rfl
set_option maxRecDepth 20000 in
theorem g177_21 {d : Nat} {a0 a1 a2 : Option Value} {lay : List mShp} {M : mMem} {P : mPost} : mG (d) 177 21 [a0, a1, a2] [] lay M P = mG d 177 22 [a0, a1, a2] [.int (Int32.ofInt 0)] lay M P := e_iconst rfl
set_option maxRecDepth 20000 in
theorem g177_22 {d : Nat} {a0 a1 a2 : Option Value} {s0 : Int32} {lay : List mShp} {M : mMem} {P : mPost} : mG (d) 177 22 [a0, a1, a2] [.int s0] lay M P = P (some (.int s0)) lay M := e_ireturnI rfl rfl
set_option maxRecDepth 20000 in
theorem g177_23 {d : Nat} {a1 a2 : Option Value} {x : Nat} {lay : List mShp} {M : mMem} {P : mPost} (hx : ¬ x = 0) : mG (d) 177 23 [some (.ref x), a1, a2] [] lay M P = mG d 177 24 [some (.ref x), a1, a2] [.ref x] lay M P := e_aload_nP hx (i := 0) rfl rfl rfl
set_option maxRecDepth 20000 in
theorem g177_24 {d : Nat} {a0 a1 a2 : Option Value} {s0 : Nat} {lay : List mShp} {M : mMem} {P : mPost} (hs : mSh lay s0 = some (13, 44)) : mG (d) 177 24 [a0, a1, a2] [.ref s0] lay M P = mG d 177 27 [a0, a1, a2] [.ref (M.2.2 s0 18)] lay M P := mG_of_and (mIsO_of hs (by decide)) (e_getA (ci := 10) (j := 18) rfl rfl rfl)
set_option maxRecDepth 20000 in
theorem g177_27 {d : Nat} {a0 a1 a2 : Option Value} {s0 : Nat} {lay : List mShp} {M : mMem} {P : mPost} : mG (d) 177 27 [a0, a1, a2] [.ref s0] lay M P = mG d 177 28 [a0, a1, a2] [.int (Int32.ofInt 0), .ref s0] lay M P := e_iconst rfl
set_option maxRecDepth 20000 in
theorem g177_28 {d : Nat} {a1 a2 : Option Value} {s0 : Int32} {s1 : Nat} {x : Nat} {lay : List mShp} {M : mMem} {P : mPost} (hx : ¬ x = 0) : mG (d) 177 28 [some (.ref x), a1, a2] [.int s0, .ref s1] lay M P = mG d 177 29 [some (.ref x), a1, a2] [.ref x, .int s0, .ref s1] lay M P := e_aload_nP hx (i := 0) rfl rfl rfl
set_option maxRecDepth 20000 in
theorem g177_29 {d : Nat} {a0 a2 : Option Value} {s0 : Nat} {s1 : Int32} {s2 : Nat} {x : Int32} {lay : List mShp} {M : mMem} {P : mPost} : mG (d) 177 29 [a0, some (.int x), a2] [.ref s0, .int s1, .ref s2] lay M P = mG d 177 30 [a0, some (.int x), a2] [.int x, .ref s0, .int s1, .ref s2] lay M P := e_iload_n (i := 1) rfl rfl rfl
set_option maxRecDepth 20000 in
theorem g177_30 {d : Nat} {a0 a1 a2 : Option Value} {s0 : Int32} {s1 : Nat} {s2 : Int32} {s3 : Nat} {lay : List mShp} {M : mMem} {P : mPost} : mG (d) 177 30 [a0, a1, a2] [.int s0, .ref s1, .int s2, .ref s3] lay M P = mG d 177 31 [a0, a1, a2] [.int (Int32.ofInt 1), .int s0, .ref s1, .int s2, .ref s3] lay M P := e_iconst rfl
set_option maxRecDepth 20000 in
theorem g177_31 {d : Nat} {a0 a1 a2 : Option Value} {s0 : Int32} {s1 : Int32} {s2 : Nat} {s3 : Int32} {s4 : Nat} {lay : List mShp} {M : mMem} {P : mPost} (hs : mSh lay s2 = some (13, 44)) : mG (d + 1) 177 31 [a0, a1, a2] [.int s0, .int s1, .ref s2, .int s3, .ref s4] lay M P = mF d 152 [.ref s2, .int s1, .int s0] lay M (fun v lay1 M1 => mG (d + 1) 177 34 [a0, a1, a2] (v.toList ++ [.int s3, .ref s4]) lay1 M1 P) := e_virtP2 (j := 152) (c := 10) rfl rfl rfl rfl rfl rfl hs (Nat.le_of_ble_eq_true rfl)
set_option maxRecDepth 20000 in
theorem g177_34 {d : Nat} {a0 a1 a2 : Option Value} {s0 : Int32} {s1 : Int32} {s2 : Nat} {lay : List mShp} {M : mMem} {P : mPost} (hs : mSh lay s2 = some (0, 6)) : mG (d) 177 34 [a0, a1, a2] [.int s0, .int s1, .ref s2] lay M P = (mIdx s1 6 = true ∧ mG d 177 35 [a0, a1, a2] [] lay (mSetI M s2 s1.toNatClampNeg s0) P) := e_iastore rfl hs
set_option maxRecDepth 20000 in
theorem g177_35 {d : Nat} {a1 a2 : Option Value} {x : Nat} {lay : List mShp} {M : mMem} {P : mPost} (hx : ¬ x = 0) : mG (d) 177 35 [some (.ref x), a1, a2] [] lay M P = mG d 177 36 [some (.ref x), a1, a2] [.ref x] lay M P := e_aload_nP hx (i := 0) rfl rfl rfl
set_option maxRecDepth 20000 in
theorem g177_36 {d : Nat} {a0 a1 a2 : Option Value} {s0 : Nat} {lay : List mShp} {M : mMem} {P : mPost} (hs : mSh lay s0 = some (13, 44)) : mG (d) 177 36 [a0, a1, a2] [.ref s0] lay M P = mG d 177 39 [a0, a1, a2] [.ref (M.2.2 s0 18)] lay M P := mG_of_and (mIsO_of hs (by decide)) (e_getA (ci := 10) (j := 18) rfl rfl rfl)
set_option maxRecDepth 20000 in
theorem g177_39 {d : Nat} {a0 a1 a2 : Option Value} {s0 : Nat} {lay : List mShp} {M : mMem} {P : mPost} : mG (d) 177 39 [a0, a1, a2] [.ref s0] lay M P = mG d 177 40 [a0, a1, a2] [.int (Int32.ofInt 1), .ref s0] lay M P := e_iconst rfl
set_option maxRecDepth 20000 in
theorem g177_40 {d : Nat} {a1 a2 : Option Value} {s0 : Int32} {s1 : Nat} {x : Nat} {lay : List mShp} {M : mMem} {P : mPost} (hx : ¬ x = 0) : mG (d) 177 40 [some (.ref x), a1, a2] [.int s0, .ref s1] lay M P = mG d 177 41 [some (.ref x), a1, a2] [.ref x, .int s0, .ref s1] lay M P := e_aload_nP hx (i := 0) rfl rfl rfl
set_option maxRecDepth 20000 in
theorem g177_41 {d : Nat} {a0 a2 : Option Value} {s0 : Nat} {s1 : Int32} {s2 : Nat} {x : Int32} {lay : List mShp} {M : mMem} {P : mPost} : mG (d) 177 41 [a0, some (.int x), a2] [.ref s0, .int s1, .ref s2] lay M P = mG d 177 42 [a0, some (.int x), a2] [.int x, .ref s0, .int s1, .ref s2] lay M P := e_iload_n (i := 1) rfl rfl rfl
set_option maxRecDepth 20000 in
theorem g177_42 {d : Nat} {a0 a1 a2 : Option Value} {s0 : Int32} {s1 : Nat} {s2 : Int32} {s3 : Nat} {lay : List mShp} {M : mMem} {P : mPost} : mG (d) 177 42 [a0, a1, a2] [.int s0, .ref s1, .int s2, .ref s3] lay M P = mG d 177 43 [a0, a1, a2] [.int (Int32.ofInt 0), .int s0, .ref s1, .int s2, .ref s3] lay M P := e_iconst rfl
set_option maxRecDepth 20000 in
theorem g177_43 {d : Nat} {a0 a1 a2 : Option Value} {s0 : Int32} {s1 : Int32} {s2 : Nat} {s3 : Int32} {s4 : Nat} {lay : List mShp} {M : mMem} {P : mPost} (hs : mSh lay s2 = some (13, 44)) : mG (d + 1) 177 43 [a0, a1, a2] [.int s0, .int s1, .ref s2, .int s3, .ref s4] lay M P = mF d 152 [.ref s2, .int s1, .int s0] lay M (fun v lay1 M1 => mG (d + 1) 177 46 [a0, a1, a2] (v.toList ++ [.int s3, .ref s4]) lay1 M1 P) := e_virtP2 (j := 152) (c := 10) rfl rfl rfl rfl rfl rfl hs (Nat.le_of_ble_eq_true rfl)
set_option maxRecDepth 20000 in
theorem g177_46 {d : Nat} {a1 a2 : Option Value} {s0 : Int32} {s1 : Int32} {s2 : Nat} {x : Nat} {lay : List mShp} {M : mMem} {P : mPost} (hx : ¬ x = 0) : mG (d) 177 46 [some (.ref x), a1, a2] [.int s0, .int s1, .ref s2] lay M P = mG d 177 47 [some (.ref x), a1, a2] [.ref x, .int s0, .int s1, .ref s2] lay M P := e_aload_nP hx (i := 0) rfl rfl rfl
set_option maxRecDepth 20000 in
theorem g177_47 {d : Nat} {a0 a1 : Option Value} {s0 : Nat} {s1 : Int32} {s2 : Int32} {s3 : Nat} {x : Int32} {lay : List mShp} {M : mMem} {P : mPost} : mG (d) 177 47 [a0, a1, some (.int x)] [.ref s0, .int s1, .int s2, .ref s3] lay M P = mG d 177 48 [a0, a1, some (.int x)] [.int x, .ref s0, .int s1, .int s2, .ref s3] lay M P := e_iload_n (i := 2) rfl rfl rfl
set_option maxRecDepth 20000 in
theorem g177_48 {d : Nat} {a0 a1 a2 : Option Value} {s0 : Int32} {s1 : Nat} {s2 : Int32} {s3 : Int32} {s4 : Nat} {lay : List mShp} {M : mMem} {P : mPost} : mG (d) 177 48 [a0, a1, a2] [.int s0, .ref s1, .int s2, .int s3, .ref s4] lay M P = mG d 177 49 [a0, a1, a2] [.int (Int32.ofInt 0), .int s0, .ref s1, .int s2, .int s3, .ref s4] lay M P := e_iconst rfl
set_option maxRecDepth 20000 in
theorem g177_49 {d : Nat} {a0 a1 a2 : Option Value} {s0 : Int32} {s1 : Int32} {s2 : Nat} {s3 : Int32} {s4 : Int32} {s5 : Nat} {lay : List mShp} {M : mMem} {P : mPost} (hs : mSh lay s2 = some (13, 44)) : mG (d + 1) 177 49 [a0, a1, a2] [.int s0, .int s1, .ref s2, .int s3, .int s4, .ref s5] lay M P = mF d 152 [.ref s2, .int s1, .int s0] lay M (fun v lay1 M1 => mG (d + 1) 177 52 [a0, a1, a2] (v.toList ++ [.int s3, .int s4, .ref s5]) lay1 M1 P) := e_virtP2 (j := 152) (c := 10) rfl rfl rfl rfl rfl rfl hs (Nat.le_of_ble_eq_true rfl)
set_option maxRecDepth 20000 in
theorem g177_52 {d : Nat} {a0 a1 a2 : Option Value} {s0 : Int32} {s1 : Int32} {s2 : Int32} {s3 : Nat} {lay : List mShp} {M : mMem} {P : mPost} : mG (d + 1) 177 52 [a0, a1, a2] [.int s0, .int s1, .int s2, .ref s3] lay M P = mF d 175 [.int s1, .int s0] lay M (fun v lay1 M1 => mG (d + 1) 177 55 [a0, a1, a2] (v.toList ++ [.int s2, .ref s3]) lay1 M1 P) := e_static2 (j := 175) rfl rfl rfl rfl rfl (Nat.le_of_ble_eq_true rfl)
set_option maxRecDepth 20000 in
theorem g177_55 {d : Nat} {a0 a1 a2 : Option Value} {s0 : Int32} {s1 : Int32} {s2 : Nat} {lay : List mShp} {M : mMem} {P : mPost} (hs : mSh lay s2 = some (0, 6)) : mG (d) 177 55 [a0, a1, a2] [.int s0, .int s1, .ref s2] lay M P = (mIdx s1 6 = true ∧ mG d 177 56 [a0, a1, a2] [] lay (mSetI M s2 s1.toNatClampNeg s0) P) := e_iastore rfl hs
set_option maxRecDepth 20000 in
theorem g177_56 {d : Nat} {a1 a2 : Option Value} {x : Nat} {lay : List mShp} {M : mMem} {P : mPost} (hx : ¬ x = 0) : mG (d) 177 56 [some (.ref x), a1, a2] [] lay M P = mG d 177 57 [some (.ref x), a1, a2] [.ref x] lay M P := e_aload_nP hx (i := 0) rfl rfl rfl
set_option maxRecDepth 20000 in
theorem g177_57 {d : Nat} {a0 a1 a2 : Option Value} {s0 : Nat} {lay : List mShp} {M : mMem} {P : mPost} (hs : mSh lay s0 = some (13, 44)) : mG (d) 177 57 [a0, a1, a2] [.ref s0] lay M P = mG d 177 60 [a0, a1, a2] [.ref (M.2.2 s0 18)] lay M P := mG_of_and (mIsO_of hs (by decide)) (e_getA (ci := 10) (j := 18) rfl rfl rfl)
set_option maxRecDepth 20000 in
theorem g177_60 {d : Nat} {a0 a1 a2 : Option Value} {s0 : Nat} {lay : List mShp} {M : mMem} {P : mPost} : mG (d) 177 60 [a0, a1, a2] [.ref s0] lay M P = mG d 177 61 [a0, a1, a2] [.int (Int32.ofInt 2), .ref s0] lay M P := e_iconst rfl
set_option maxRecDepth 20000 in
theorem g177_61 {d : Nat} {a1 a2 : Option Value} {s0 : Int32} {s1 : Nat} {x : Nat} {lay : List mShp} {M : mMem} {P : mPost} (hx : ¬ x = 0) : mG (d) 177 61 [some (.ref x), a1, a2] [.int s0, .ref s1] lay M P = mG d 177 62 [some (.ref x), a1, a2] [.ref x, .int s0, .ref s1] lay M P := e_aload_nP hx (i := 0) rfl rfl rfl
set_option maxRecDepth 20000 in
theorem g177_62 {d : Nat} {a0 a1 : Option Value} {s0 : Nat} {s1 : Int32} {s2 : Nat} {x : Int32} {lay : List mShp} {M : mMem} {P : mPost} : mG (d) 177 62 [a0, a1, some (.int x)] [.ref s0, .int s1, .ref s2] lay M P = mG d 177 63 [a0, a1, some (.int x)] [.int x, .ref s0, .int s1, .ref s2] lay M P := e_iload_n (i := 2) rfl rfl rfl
set_option maxRecDepth 20000 in
theorem g177_63 {d : Nat} {a0 a1 a2 : Option Value} {s0 : Int32} {s1 : Nat} {s2 : Int32} {s3 : Nat} {lay : List mShp} {M : mMem} {P : mPost} : mG (d) 177 63 [a0, a1, a2] [.int s0, .ref s1, .int s2, .ref s3] lay M P = mG d 177 64 [a0, a1, a2] [.int (Int32.ofInt 2), .int s0, .ref s1, .int s2, .ref s3] lay M P := e_iconst rfl
set_option maxRecDepth 20000 in
theorem g177_64 {d : Nat} {a0 a1 a2 : Option Value} {s0 : Int32} {s1 : Int32} {s2 : Nat} {s3 : Int32} {s4 : Nat} {lay : List mShp} {M : mMem} {P : mPost} (hs : mSh lay s2 = some (13, 44)) : mG (d + 1) 177 64 [a0, a1, a2] [.int s0, .int s1, .ref s2, .int s3, .ref s4] lay M P = mF d 152 [.ref s2, .int s1, .int s0] lay M (fun v lay1 M1 => mG (d + 1) 177 67 [a0, a1, a2] (v.toList ++ [.int s3, .ref s4]) lay1 M1 P) := e_virtP2 (j := 152) (c := 10) rfl rfl rfl rfl rfl rfl hs (Nat.le_of_ble_eq_true rfl)
set_option maxRecDepth 20000 in
theorem g177_67 {d : Nat} {a0 a1 a2 : Option Value} {s0 : Int32} {s1 : Int32} {s2 : Nat} {lay : List mShp} {M : mMem} {P : mPost} (hs : mSh lay s2 = some (0, 6)) : mG (d) 177 67 [a0, a1, a2] [.int s0, .int s1, .ref s2] lay M P = (mIdx s1 6 = true ∧ mG d 177 68 [a0, a1, a2] [] lay (mSetI M s2 s1.toNatClampNeg s0) P) := e_iastore rfl hs
set_option maxRecDepth 20000 in
theorem g177_68 {d : Nat} {a1 a2 : Option Value} {x : Nat} {lay : List mShp} {M : mMem} {P : mPost} (hx : ¬ x = 0) : mG (d) 177 68 [some (.ref x), a1, a2] [] lay M P = mG d 177 69 [some (.ref x), a1, a2] [.ref x] lay M P := e_aload_nP hx (i := 0) rfl rfl rfl
set_option maxRecDepth 20000 in
theorem g177_69 {d : Nat} {a0 a1 a2 : Option Value} {s0 : Nat} {lay : List mShp} {M : mMem} {P : mPost} (hs : mSh lay s0 = some (13, 44)) : mG (d) 177 69 [a0, a1, a2] [.ref s0] lay M P = mG d 177 72 [a0, a1, a2] [.ref (M.2.2 s0 18)] lay M P := mG_of_and (mIsO_of hs (by decide)) (e_getA (ci := 10) (j := 18) rfl rfl rfl)
set_option maxRecDepth 20000 in
theorem g177_72 {d : Nat} {a0 a1 a2 : Option Value} {s0 : Nat} {lay : List mShp} {M : mMem} {P : mPost} : mG (d) 177 72 [a0, a1, a2] [.ref s0] lay M P = mG d 177 73 [a0, a1, a2] [.int (Int32.ofInt 3), .ref s0] lay M P := e_iconst rfl
set_option maxRecDepth 20000 in
theorem g177_73 {d : Nat} {a1 a2 : Option Value} {s0 : Int32} {s1 : Nat} {x : Nat} {lay : List mShp} {M : mMem} {P : mPost} (hx : ¬ x = 0) : mG (d) 177 73 [some (.ref x), a1, a2] [.int s0, .ref s1] lay M P = mG d 177 74 [some (.ref x), a1, a2] [.ref x, .int s0, .ref s1] lay M P := e_aload_nP hx (i := 0) rfl rfl rfl
set_option maxRecDepth 20000 in
theorem g177_74 {d : Nat} {a0 a1 : Option Value} {s0 : Nat} {s1 : Int32} {s2 : Nat} {x : Int32} {lay : List mShp} {M : mMem} {P : mPost} : mG (d) 177 74 [a0, a1, some (.int x)] [.ref s0, .int s1, .ref s2] lay M P = mG d 177 75 [a0, a1, some (.int x)] [.int x, .ref s0, .int s1, .ref s2] lay M P := e_iload_n (i := 2) rfl rfl rfl
set_option maxRecDepth 20000 in
theorem g177_75 {d : Nat} {a0 a1 a2 : Option Value} {s0 : Int32} {s1 : Nat} {s2 : Int32} {s3 : Nat} {lay : List mShp} {M : mMem} {P : mPost} (hs : mSh lay s1 = some (13, 44)) : mG (d + 1) 177 75 [a0, a1, a2] [.int s0, .ref s1, .int s2, .ref s3] lay M P = mF d 176 [.ref s1, .int s0] lay M (fun v lay1 M1 => mG (d + 1) 177 78 [a0, a1, a2] (v.toList ++ [.int s2, .ref s3]) lay1 M1 P) := e_virtP1 (j := 176) (c := 10) rfl rfl rfl rfl rfl rfl hs (Nat.le_of_ble_eq_true rfl)
set_option maxRecDepth 20000 in
theorem g177_78 {d : Nat} {a0 a1 a2 : Option Value} {s0 : Int32} {s1 : Int32} {s2 : Nat} {lay : List mShp} {M : mMem} {P : mPost} (hs : mSh lay s2 = some (0, 6)) : mG (d) 177 78 [a0, a1, a2] [.int s0, .int s1, .ref s2] lay M P = (mIdx s1 6 = true ∧ mG d 177 79 [a0, a1, a2] [] lay (mSetI M s2 s1.toNatClampNeg s0) P) := e_iastore rfl hs
set_option maxRecDepth 20000 in
theorem g177_79 {d : Nat} {a1 a2 : Option Value} {x : Nat} {lay : List mShp} {M : mMem} {P : mPost} (hx : ¬ x = 0) : mG (d) 177 79 [some (.ref x), a1, a2] [] lay M P = mG d 177 80 [some (.ref x), a1, a2] [.ref x] lay M P := e_aload_nP hx (i := 0) rfl rfl rfl
set_option maxRecDepth 20000 in
theorem g177_80 {d : Nat} {a0 a1 a2 : Option Value} {s0 : Nat} {lay : List mShp} {M : mMem} {P : mPost} (hs : mSh lay s0 = some (13, 44)) : mG (d) 177 80 [a0, a1, a2] [.ref s0] lay M P = mG d 177 83 [a0, a1, a2] [.ref (M.2.2 s0 18)] lay M P := mG_of_and (mIsO_of hs (by decide)) (e_getA (ci := 10) (j := 18) rfl rfl rfl)
set_option maxRecDepth 20000 in
theorem g177_83 {d : Nat} {a0 a1 a2 : Option Value} {s0 : Nat} {lay : List mShp} {M : mMem} {P : mPost} : mG (d) 177 83 [a0, a1, a2] [.ref s0] lay M P = mG d 177 84 [a0, a1, a2] [.int (Int32.ofInt 4), .ref s0] lay M P := e_iconst rfl
set_option maxRecDepth 20000 in
theorem g177_84 {d : Nat} {a1 a2 : Option Value} {s0 : Int32} {s1 : Nat} {x : Nat} {lay : List mShp} {M : mMem} {P : mPost} (hx : ¬ x = 0) : mG (d) 177 84 [some (.ref x), a1, a2] [.int s0, .ref s1] lay M P = mG d 177 85 [some (.ref x), a1, a2] [.ref x, .int s0, .ref s1] lay M P := e_aload_nP hx (i := 0) rfl rfl rfl
set_option maxRecDepth 20000 in
theorem g177_85 {d : Nat} {a0 a2 : Option Value} {s0 : Nat} {s1 : Int32} {s2 : Nat} {x : Int32} {lay : List mShp} {M : mMem} {P : mPost} : mG (d) 177 85 [a0, some (.int x), a2] [.ref s0, .int s1, .ref s2] lay M P = mG d 177 86 [a0, some (.int x), a2] [.int x, .ref s0, .int s1, .ref s2] lay M P := e_iload_n (i := 1) rfl rfl rfl
set_option maxRecDepth 20000 in
theorem g177_86 {d : Nat} {a0 a1 a2 : Option Value} {s0 : Int32} {s1 : Nat} {s2 : Int32} {s3 : Nat} {lay : List mShp} {M : mMem} {P : mPost} : mG (d) 177 86 [a0, a1, a2] [.int s0, .ref s1, .int s2, .ref s3] lay M P = mG d 177 87 [a0, a1, a2] [.int (Int32.ofInt 3), .int s0, .ref s1, .int s2, .ref s3] lay M P := e_iconst rfl
set_option maxRecDepth 20000 in
theorem g177_87 {d : Nat} {a0 a1 a2 : Option Value} {s0 : Int32} {s1 : Int32} {s2 : Nat} {s3 : Int32} {s4 : Nat} {lay : List mShp} {M : mMem} {P : mPost} (hs : mSh lay s2 = some (13, 44)) : mG (d + 1) 177 87 [a0, a1, a2] [.int s0, .int s1, .ref s2, .int s3, .ref s4] lay M P = mF d 152 [.ref s2, .int s1, .int s0] lay M (fun v lay1 M1 => mG (d + 1) 177 90 [a0, a1, a2] (v.toList ++ [.int s3, .ref s4]) lay1 M1 P) := e_virtP2 (j := 152) (c := 10) rfl rfl rfl rfl rfl rfl hs (Nat.le_of_ble_eq_true rfl)
set_option maxRecDepth 20000 in
theorem g177_90 {d : Nat} {a0 a1 a2 : Option Value} {s0 : Int32} {s1 : Int32} {s2 : Nat} {lay : List mShp} {M : mMem} {P : mPost} (hs : mSh lay s2 = some (0, 6)) : mG (d) 177 90 [a0, a1, a2] [.int s0, .int s1, .ref s2] lay M P = (mIdx s1 6 = true ∧ mG d 177 91 [a0, a1, a2] [] lay (mSetI M s2 s1.toNatClampNeg s0) P) := e_iastore rfl hs
set_option maxRecDepth 20000 in
theorem g177_91 {d : Nat} {a1 a2 : Option Value} {x : Nat} {lay : List mShp} {M : mMem} {P : mPost} (hx : ¬ x = 0) : mG (d) 177 91 [some (.ref x), a1, a2] [] lay M P = mG d 177 92 [some (.ref x), a1, a2] [.ref x] lay M P := e_aload_nP hx (i := 0) rfl rfl rfl
set_option maxRecDepth 20000 in
theorem g177_92 {d : Nat} {a0 a1 a2 : Option Value} {s0 : Nat} {lay : List mShp} {M : mMem} {P : mPost} (hs : mSh lay s0 = some (13, 44)) : mG (d) 177 92 [a0, a1, a2] [.ref s0] lay M P = mG d 177 95 [a0, a1, a2] [.ref (M.2.2 s0 18)] lay M P := mG_of_and (mIsO_of hs (by decide)) (e_getA (ci := 10) (j := 18) rfl rfl rfl)
set_option maxRecDepth 20000 in
theorem g177_95 {d : Nat} {a0 a1 a2 : Option Value} {s0 : Nat} {lay : List mShp} {M : mMem} {P : mPost} : mG (d) 177 95 [a0, a1, a2] [.ref s0] lay M P = mG d 177 96 [a0, a1, a2] [.int (Int32.ofInt 5), .ref s0] lay M P := e_iconst rfl
set_option maxRecDepth 20000 in
theorem g177_96 {d : Nat} {a1 a2 : Option Value} {s0 : Int32} {s1 : Nat} {x : Nat} {lay : List mShp} {M : mMem} {P : mPost} (hx : ¬ x = 0) : mG (d) 177 96 [some (.ref x), a1, a2] [.int s0, .ref s1] lay M P = mG d 177 97 [some (.ref x), a1, a2] [.ref x, .int s0, .ref s1] lay M P := e_aload_nP hx (i := 0) rfl rfl rfl
set_option maxRecDepth 20000 in
theorem g177_97 {d : Nat} {a0 a1 a2 : Option Value} {s0 : Nat} {s1 : Int32} {s2 : Nat} {lay : List mShp} {M : mMem} {P : mPost} (hs : mSh lay s0 = some (13, 44)) : mG (d) 177 97 [a0, a1, a2] [.ref s0, .int s1, .ref s2] lay M P = mG d 177 100 [a0, a1, a2] [.ref (M.2.2 s0 0), .int s1, .ref s2] lay M P := mG_of_and (mIsO_of hs (by decide)) (e_getA (ci := 10) (j := 0) rfl rfl rfl)
set_option maxRecDepth 20000 in
theorem g177_100 {d : Nat} {a0 a1 a2 : Option Value} {s0 : Nat} {s1 : Int32} {s2 : Nat} {lay : List mShp} {M : mMem} {P : mPost} : mG (d) 177 100 [a0, a1, a2] [.ref s0, .int s1, .ref s2] lay M P = mG d 177 102 [a0, a1, a2] [.int (Int32.ofInt 41), .ref s0, .int s1, .ref s2] lay M P := e_bipush rfl
set_option maxRecDepth 20000 in
theorem g177_102 {d : Nat} {a0 a1 a2 : Option Value} {s0 : Int32} {s1 : Nat} {s2 : Int32} {s3 : Nat} {lay : List mShp} {M : mMem} {P : mPost} (hs : mSh lay s1 = some (0, 42)) : mG (d) 177 102 [a0, a1, a2] [.int s0, .ref s1, .int s2, .ref s3] lay M P = (mIdx s0 42 = true ∧ mG d 177 103 [a0, a1, a2] [.int (M.1 s1 s0.toNatClampNeg), .int s2, .ref s3] lay M P) := e_iaload rfl hs
set_option maxRecDepth 20000 in
theorem g177_103 {d : Nat} {a0 a1 a2 : Option Value} {s0 : Int32} {s1 : Int32} {s2 : Nat} {lay : List mShp} {M : mMem} {P : mPost} (hs : mSh lay s2 = some (0, 6)) : mG (d) 177 103 [a0, a1, a2] [.int s0, .int s1, .ref s2] lay M P = (mIdx s1 6 = true ∧ mG d 177 104 [a0, a1, a2] [] lay (mSetI M s2 s1.toNatClampNeg s0) P) := e_iastore rfl hs
set_option maxRecDepth 20000 in
theorem g177_104 {d : Nat} {a1 a2 : Option Value} {x : Nat} {lay : List mShp} {M : mMem} {P : mPost} (hx : ¬ x = 0) : mG (d) 177 104 [some (.ref x), a1, a2] [] lay M P = mG d 177 105 [some (.ref x), a1, a2] [.ref x] lay M P := e_aload_nP hx (i := 0) rfl rfl rfl
set_option maxRecDepth 20000 in
theorem g177_105 {d : Nat} {a0 a1 a2 : Option Value} {s0 : Nat} {lay : List mShp} {M : mMem} {P : mPost} (hs : mSh lay s0 = some (13, 44)) : mG (d + 1) 177 105 [a0, a1, a2] [.ref s0] lay M P = mF d 174 [.ref s0] lay M (fun v lay1 M1 => mG (d + 1) 177 108 [a0, a1, a2] (v.toList ++ []) lay1 M1 P) := e_virtP0 (j := 174) (c := 10) rfl rfl rfl rfl rfl rfl hs (Nat.le_of_ble_eq_true rfl)
set_option maxRecDepth 20000 in
theorem g177_108 {d : Nat} {a0 a1 a2 : Option Value} {s0 : Int32} {lay : List mShp} {M : mMem} {P : mPost} : mG (d) 177 108 [a0, a1, a2] [.int s0] lay M P = mG d 177 109 [a0, a1, a2] [.int (Int32.ofInt 0), .int s0] lay M P := e_iconst rfl
set_option maxRecDepth 20000 in
theorem g177_109 {d : Nat} {a0 a1 a2 : Option Value} {s0 : Int32} {s1 : Int32} {lay : List mShp} {M : mMem} {P : mPost} : mG (d) 177 109 [a0, a1, a2] [.int s0, .int s1] lay M P = mG d 177 111 [a0, a1, a2] [.int (Int32.ofInt 20), .int s0, .int s1] lay M P := e_bipush rfl
set_option maxRecDepth 20000 in
theorem g177_111 {d : Nat} {a0 a1 a2 : Option Value} {s0 : Int32} {s1 : Int32} {s2 : Int32} {lay : List mShp} {M : mMem} {P : mPost} : mG (d + 1) 177 111 [a0, a1, a2] [.int s0, .int s1, .int s2] lay M P = mF d 147 [.int s2, .int s1, .int s0] lay M (fun v lay1 M1 => mG (d + 1) 177 114 [a0, a1, a2] (v.toList ++ []) lay1 M1 P) := e_static3 (j := 147) rfl rfl rfl rfl rfl (Nat.le_of_ble_eq_true rfl)
set_option maxRecDepth 20000 in
theorem g177_114 {d : Nat} {a0 a1 a2 : Option Value} {s0 : Int32} {lay : List mShp} {M : mMem} {P : mPost} : mG (d) 177 114 [a0, a1, a2] [.int s0] lay M P = P (some (.int s0)) lay M := e_ireturnI rfl rfl
-- 178 X10_comes
theorem g178_in {d : Nat} {x0 : Nat} {x1 : Int32} {lay : List mShp} {M : mMem} {P : mPost} : mF d 178 [.ref x0, .int x1] lay M P = mG d 178 0 [some (.ref x0), some (.int x1)] [] lay M P := mF_in rfl rfl
set_option maxRecDepth 20000 in
theorem g178_0 {d : Nat} {a1 : Option Value} {x : Nat} {lay : List mShp} {M : mMem} {P : mPost} (hx : ¬ x = 0) : mG (d) 178 0 [some (.ref x), a1] [] lay M P = mG d 178 1 [some (.ref x), a1] [.ref x] lay M P := e_aload_nP hx (i := 0) rfl rfl rfl
set_option maxRecDepth 20000 in
theorem g178_1 {d : Nat} {a0 : Option Value} {s0 : Nat} {x : Int32} {lay : List mShp} {M : mMem} {P : mPost} : mG (d) 178 1 [a0, some (.int x)] [.ref s0] lay M P = mG d 178 2 [a0, some (.int x)] [.int x, .ref s0] lay M P := e_iload_n (i := 1) rfl rfl rfl
set_option maxRecDepth 20000 in
theorem g178_2 {d : Nat} {a0 a1 : Option Value} {s0 : Int32} {s1 : Nat} {lay : List mShp} {M : mMem} {P : mPost} (hs : mSh lay s1 = some (13, 44)) : mG (d + 1) 178 2 [a0, a1] [.int s0, .ref s1] lay M P = mF d 151 [.ref s1, .int s0] lay M (fun v lay1 M1 => mG (d + 1) 178 5 [a0, a1] (v.toList ++ []) lay1 M1 P) := e_virtP1 (j := 151) (c := 10) rfl rfl rfl rfl rfl rfl hs (Nat.le_of_ble_eq_true rfl)
set_option maxRecDepth 20000 in
theorem g178_5 {d : Nat} {a0 a1 : Option Value} {s0 : Int32} {lay : List mShp} {M : mMem} {P : mPost} : mG (d) 178 5 [a0, a1] [.int s0] lay M P = if s0 = 0 then mG d 178 16 [a0, a1] [] lay M P else mG d 178 8 [a0, a1] [] lay M P := e_if_eq rfl rfl
set_option maxRecDepth 20000 in
theorem g178_8 {d : Nat} {a1 : Option Value} {x : Nat} {lay : List mShp} {M : mMem} {P : mPost} (hx : ¬ x = 0) : mG (d) 178 8 [some (.ref x), a1] [] lay M P = mG d 178 9 [some (.ref x), a1] [.ref x] lay M P := e_aload_nP hx (i := 0) rfl rfl rfl
set_option maxRecDepth 20000 in
theorem g178_9 {d : Nat} {a0 : Option Value} {s0 : Nat} {x : Int32} {lay : List mShp} {M : mMem} {P : mPost} : mG (d) 178 9 [a0, some (.int x)] [.ref s0] lay M P = mG d 178 10 [a0, some (.int x)] [.int x, .ref s0] lay M P := e_iload_n (i := 1) rfl rfl rfl
set_option maxRecDepth 20000 in
theorem g178_10 {d : Nat} {a0 a1 : Option Value} {s0 : Int32} {s1 : Nat} {lay : List mShp} {M : mMem} {P : mPost} (hs : mSh lay s1 = some (13, 44)) : mG (d + 1) 178 10 [a0, a1] [.int s0, .ref s1] lay M P = mF d 177 [.ref s1, .int s0] lay M (fun v lay1 M1 => mG (d + 1) 178 13 [a0, a1] (v.toList ++ []) lay1 M1 P) := e_virtP1 (j := 177) (c := 10) rfl rfl rfl rfl rfl rfl hs (Nat.le_of_ble_eq_true rfl)
set_option maxRecDepth 20000 in
theorem g178_13 {d : Nat} {a0 a1 : Option Value} {s0 : Int32} {lay : List mShp} {M : mMem} {P : mPost} : mG (d) 178 13 [a0, a1] [.int s0] lay M P = mG d 178 17 [a0, a1] [.int s0] lay M P := e_goto rfl rfl
set_option maxRecDepth 20000 in
theorem g178_16 {d : Nat} {a0 a1 : Option Value} {lay : List mShp} {M : mMem} {P : mPost} : mG (d) 178 16 [a0, a1] [] lay M P = mG d 178 17 [a0, a1] [.int (Int32.ofInt (-1))] lay M P := e_iconst rfl
set_option maxRecDepth 20000 in
theorem g178_17 {d : Nat} {a0 a1 : Option Value} {s0 : Int32} {lay : List mShp} {M : mMem} {P : mPost} : mG (d) 178 17 [a0, a1] [.int s0] lay M P = P (some (.int s0)) lay M := e_ireturnI rfl rfl
-- 179 X10_goDay
theorem g179_in {d : Nat} {x0 : Nat} {lay : List mShp} {M : mMem} {P : mPost} : mF d 179 [.ref x0] lay M P = mG d 179 0 [some (.ref x0), none, none] [] lay M P := mF_in rfl rfl
set_option maxRecDepth 20000 in
theorem g179_0 {d : Nat} {a1 a2 : Option Value} {x : Nat} {lay : List mShp} {M : mMem} {P : mPost} (hx : ¬ x = 0) : mG (d) 179 0 [some (.ref x), a1, a2] [] lay M P = mG d 179 1 [some (.ref x), a1, a2] [.ref x] lay M P := e_aload_nP hx (i := 0) rfl rfl rfl
set_option maxRecDepth 20000 in
theorem g179_1 {d : Nat} {a0 a1 a2 : Option Value} {s0 : Nat} {lay : List mShp} {M : mMem} {P : mPost} : mG (d) 179 1 [a0, a1, a2] [.ref s0] lay M P = mG d 179 2 [a0, a1, a2] [.int (Int32.ofInt 0), .ref s0] lay M P := e_iconst rfl
set_option maxRecDepth 20000 in
theorem g179_2 {d : Nat} {a0 a1 a2 : Option Value} {s0 : Int32} {s1 : Nat} {lay : List mShp} {M : mMem} {P : mPost} (hs : mSh lay s1 = some (13, 44)) : mG (d) 179 2 [a0, a1, a2] [.int s0, .ref s1] lay M P = mG d 179 5 [a0, a1, a2] [] lay (mSetI M s1 22 s0) P := mG_of_and (mIsO_of hs (by decide)) (e_putI (ci := 10) (j := 22) rfl rfl (Or.inl rfl) rfl)
set_option maxRecDepth 20000 in
theorem g179_5 {d : Nat} {a0 a1 a2 : Option Value} {lay : List mShp} {M : mMem} {P : mPost} : mG (d) 179 5 [a0, a1, a2] [] lay M P = mG d 179 6 [a0, a1, a2] [.int (Int32.ofInt 0)] lay M P := e_iconst rfl
set_option maxRecDepth 20000 in
theorem g179_6 {d : Nat} {a0 a1 a2 : Option Value} {s0 : Int32} {lay : List mShp} {M : mMem} {P : mPost} (h0 : mNoL a0 = true) : mG (d) 179 6 [a0, a1, a2] [.int s0] lay M P = mG d 179 7 [a0, some (.int s0), a2] [] lay M P := e_istore_n (i := 1) rfl rfl (by simp) (mS1_1 h0)
set_option maxRecDepth 20000 in
theorem g179_7 {d : Nat} {a0 a2 : Option Value} {x : Int32} {lay : List mShp} {M : mMem} {P : mPost} : mG (d) 179 7 [a0, some (.int x), a2] [] lay M P = mG d 179 8 [a0, some (.int x), a2] [.int x] lay M P := e_iload_n (i := 1) rfl rfl rfl
set_option maxRecDepth 20000 in
theorem g179_8 {d : Nat} {a1 a2 : Option Value} {s0 : Int32} {x : Nat} {lay : List mShp} {M : mMem} {P : mPost} (hx : ¬ x = 0) : mG (d) 179 8 [some (.ref x), a1, a2] [.int s0] lay M P = mG d 179 9 [some (.ref x), a1, a2] [.ref x, .int s0] lay M P := e_aload_nP hx (i := 0) rfl rfl rfl
set_option maxRecDepth 20000 in
theorem g179_9 {d : Nat} {a0 a1 a2 : Option Value} {s0 : Nat} {s1 : Int32} {lay : List mShp} {M : mMem} {P : mPost} (hs : mSh lay s0 = some (13, 44)) : mG (d) 179 9 [a0, a1, a2] [.ref s0, .int s1] lay M P = mG d 179 12 [a0, a1, a2] [.int (M.1 s0 2), .int s1] lay M P := mG_of_and (mIsO_of hs (by decide)) (e_getI (ci := 10) (j := 2) rfl rfl rfl)
set_option maxRecDepth 20000 in
theorem g179_12 {d : Nat} {a0 a1 a2 : Option Value} {s0 : Int32} {s1 : Int32} {lay : List mShp} {M : mMem} {P : mPost} : mG (d) 179 12 [a0, a1, a2] [.int s0, .int s1] lay M P = if s1 < s0 then mG d 179 15 [a0, a1, a2] [] lay M P else mG d 179 54 [a0, a1, a2] [] lay M P := e_icmp_ge rfl rfl
set_option maxRecDepth 20000 in
theorem g179_15 {d : Nat} {a1 a2 : Option Value} {x : Nat} {lay : List mShp} {M : mMem} {P : mPost} (hx : ¬ x = 0) : mG (d) 179 15 [some (.ref x), a1, a2] [] lay M P = mG d 179 16 [some (.ref x), a1, a2] [.ref x] lay M P := e_aload_nP hx (i := 0) rfl rfl rfl
set_option maxRecDepth 20000 in
theorem g179_16 {d : Nat} {a0 a1 a2 : Option Value} {s0 : Nat} {lay : List mShp} {M : mMem} {P : mPost} (hs : mSh lay s0 = some (13, 44)) : mG (d) 179 16 [a0, a1, a2] [.ref s0] lay M P = mG d 179 19 [a0, a1, a2] [.ref (M.2.2 s0 21)] lay M P := mG_of_and (mIsO_of hs (by decide)) (e_getA (ci := 10) (j := 21) rfl rfl rfl)
set_option maxRecDepth 20000 in
theorem g179_19 {d : Nat} {a0 a2 : Option Value} {s0 : Nat} {x : Int32} {lay : List mShp} {M : mMem} {P : mPost} : mG (d) 179 19 [a0, some (.int x), a2] [.ref s0] lay M P = mG d 179 20 [a0, some (.int x), a2] [.int x, .ref s0] lay M P := e_iload_n (i := 1) rfl rfl rfl
set_option maxRecDepth 20000 in
theorem g179_20 {d : Nat} {a1 a2 : Option Value} {s0 : Int32} {s1 : Nat} {x : Nat} {lay : List mShp} {M : mMem} {P : mPost} (hx : ¬ x = 0) : mG (d) 179 20 [some (.ref x), a1, a2] [.int s0, .ref s1] lay M P = mG d 179 21 [some (.ref x), a1, a2] [.ref x, .int s0, .ref s1] lay M P := e_aload_nP hx (i := 0) rfl rfl rfl
set_option maxRecDepth 20000 in
theorem g179_21 {d : Nat} {a0 a2 : Option Value} {s0 : Nat} {s1 : Int32} {s2 : Nat} {x : Int32} {lay : List mShp} {M : mMem} {P : mPost} : mG (d) 179 21 [a0, some (.int x), a2] [.ref s0, .int s1, .ref s2] lay M P = mG d 179 22 [a0, some (.int x), a2] [.int x, .ref s0, .int s1, .ref s2] lay M P := e_iload_n (i := 1) rfl rfl rfl
set_option maxRecDepth 20000 in
theorem g179_22 {d : Nat} {a0 a1 a2 : Option Value} {s0 : Int32} {s1 : Nat} {s2 : Int32} {s3 : Nat} {lay : List mShp} {M : mMem} {P : mPost} : mG (d) 179 22 [a0, a1, a2] [.int s0, .ref s1, .int s2, .ref s3] lay M P = mG d 179 23 [a0, a1, a2] [.int (Int32.ofInt 2), .int s0, .ref s1, .int s2, .ref s3] lay M P := e_iconst rfl
set_option maxRecDepth 20000 in
theorem g179_23 {d : Nat} {a0 a1 a2 : Option Value} {s0 : Int32} {s1 : Int32} {s2 : Nat} {s3 : Int32} {s4 : Nat} {lay : List mShp} {M : mMem} {P : mPost} (hs : mSh lay s2 = some (13, 44)) : mG (d + 1) 179 23 [a0, a1, a2] [.int s0, .int s1, .ref s2, .int s3, .ref s4] lay M P = mF d 152 [.ref s2, .int s1, .int s0] lay M (fun v lay1 M1 => mG (d + 1) 179 26 [a0, a1, a2] (v.toList ++ [.int s3, .ref s4]) lay1 M1 P) := e_virtP2 (j := 152) (c := 10) rfl rfl rfl rfl rfl rfl hs (Nat.le_of_ble_eq_true rfl)
set_option maxRecDepth 20000 in
theorem g179_26 {d : Nat} {a0 a1 a2 : Option Value} {s0 : Int32} {s1 : Int32} {s2 : Nat} {lay : List mShp} {M : mMem} {P : mPost} : mG (d) 179 26 [a0, a1, a2] [.int s0, .int s1, .ref s2] lay M P = mG d 179 27 [a0, a1, a2] [.int (-s0), .int s1, .ref s2] lay M P := e_ineg rfl
set_option maxRecDepth 20000 in
theorem g179_27 {d : Nat} {a1 a2 : Option Value} {s0 : Int32} {s1 : Int32} {s2 : Nat} {x : Nat} {lay : List mShp} {M : mMem} {P : mPost} (hx : ¬ x = 0) : mG (d) 179 27 [some (.ref x), a1, a2] [.int s0, .int s1, .ref s2] lay M P = mG d 179 28 [some (.ref x), a1, a2] [.ref x, .int s0, .int s1, .ref s2] lay M P := e_aload_nP hx (i := 0) rfl rfl rfl
set_option maxRecDepth 20000 in
theorem g179_28 {d : Nat} {a0 a2 : Option Value} {s0 : Nat} {s1 : Int32} {s2 : Int32} {s3 : Nat} {x : Int32} {lay : List mShp} {M : mMem} {P : mPost} : mG (d) 179 28 [a0, some (.int x), a2] [.ref s0, .int s1, .int s2, .ref s3] lay M P = mG d 179 29 [a0, some (.int x), a2] [.int x, .ref s0, .int s1, .int s2, .ref s3] lay M P := e_iload_n (i := 1) rfl rfl rfl
set_option maxRecDepth 20000 in
theorem g179_29 {d : Nat} {a0 a1 a2 : Option Value} {s0 : Int32} {s1 : Nat} {s2 : Int32} {s3 : Int32} {s4 : Nat} {lay : List mShp} {M : mMem} {P : mPost} (hs : mSh lay s1 = some (13, 44)) : mG (d + 1) 179 29 [a0, a1, a2] [.int s0, .ref s1, .int s2, .int s3, .ref s4] lay M P = mF d 176 [.ref s1, .int s0] lay M (fun v lay1 M1 => mG (d + 1) 179 32 [a0, a1, a2] (v.toList ++ [.int s2, .int s3, .ref s4]) lay1 M1 P) := e_virtP1 (j := 176) (c := 10) rfl rfl rfl rfl rfl rfl hs (Nat.le_of_ble_eq_true rfl)
set_option maxRecDepth 20000 in
theorem g179_32 {d : Nat} {a0 a1 a2 : Option Value} {s0 : Int32} {s1 : Int32} {s2 : Int32} {s3 : Nat} {lay : List mShp} {M : mMem} {P : mPost} : mG (d) 179 32 [a0, a1, a2] [.int s0, .int s1, .int s2, .ref s3] lay M P = if s0 = 0 then mG d 179 35 [a0, a1, a2] [.int s1, .int s2, .ref s3] lay M P else mG d 179 45 [a0, a1, a2] [.int s1, .int s2, .ref s3] lay M P := e_if_ne rfl rfl
set_option maxRecDepth 20000 in
theorem g179_35 {d : Nat} {a1 a2 : Option Value} {s0 : Int32} {s1 : Int32} {s2 : Nat} {x : Nat} {lay : List mShp} {M : mMem} {P : mPost} (hx : ¬ x = 0) : mG (d) 179 35 [some (.ref x), a1, a2] [.int s0, .int s1, .ref s2] lay M P = mG d 179 36 [some (.ref x), a1, a2] [.ref x, .int s0, .int s1, .ref s2] lay M P := e_aload_nP hx (i := 0) rfl rfl rfl
set_option maxRecDepth 20000 in
theorem g179_36 {d : Nat} {a0 a1 a2 : Option Value} {s0 : Nat} {s1 : Int32} {s2 : Int32} {s3 : Nat} {lay : List mShp} {M : mMem} {P : mPost} (hs : mSh lay s0 = some (13, 44)) : mG (d) 179 36 [a0, a1, a2] [.ref s0, .int s1, .int s2, .ref s3] lay M P = mG d 179 39 [a0, a1, a2] [.ref (M.2.2 s0 0), .int s1, .int s2, .ref s3] lay M P := mG_of_and (mIsO_of hs (by decide)) (e_getA (ci := 10) (j := 0) rfl rfl rfl)
set_option maxRecDepth 20000 in
theorem g179_39 {d : Nat} {a0 a1 a2 : Option Value} {s0 : Nat} {s1 : Int32} {s2 : Int32} {s3 : Nat} {lay : List mShp} {M : mMem} {P : mPost} : mG (d) 179 39 [a0, a1, a2] [.ref s0, .int s1, .int s2, .ref s3] lay M P = mG d 179 41 [a0, a1, a2] [.int (Int32.ofInt 40), .ref s0, .int s1, .int s2, .ref s3] lay M P := e_bipush rfl
set_option maxRecDepth 20000 in
theorem g179_41 {d : Nat} {a0 a1 a2 : Option Value} {s0 : Int32} {s1 : Nat} {s2 : Int32} {s3 : Int32} {s4 : Nat} {lay : List mShp} {M : mMem} {P : mPost} (hs : mSh lay s1 = some (0, 42)) : mG (d) 179 41 [a0, a1, a2] [.int s0, .ref s1, .int s2, .int s3, .ref s4] lay M P = (mIdx s0 42 = true ∧ mG d 179 42 [a0, a1, a2] [.int (M.1 s1 s0.toNatClampNeg), .int s2, .int s3, .ref s4] lay M P) := e_iaload rfl hs
set_option maxRecDepth 20000 in
theorem g179_42 {d : Nat} {a0 a1 a2 : Option Value} {s0 : Int32} {s1 : Int32} {s2 : Int32} {s3 : Nat} {lay : List mShp} {M : mMem} {P : mPost} : mG (d) 179 42 [a0, a1, a2] [.int s0, .int s1, .int s2, .ref s3] lay M P = mG d 179 46 [a0, a1, a2] [.int s0, .int s1, .int s2, .ref s3] lay M P := e_goto rfl rfl
set_option maxRecDepth 20000 in
theorem g179_45 {d : Nat} {a0 a1 a2 : Option Value} {s0 : Int32} {s1 : Int32} {s2 : Nat} {lay : List mShp} {M : mMem} {P : mPost} : mG (d) 179 45 [a0, a1, a2] [.int s0, .int s1, .ref s2] lay M P = mG d 179 46 [a0, a1, a2] [.int (Int32.ofInt 0), .int s0, .int s1, .ref s2] lay M P := e_iconst rfl
set_option maxRecDepth 20000 in
theorem g179_46 {d : Nat} {a0 a1 a2 : Option Value} {s0 : Int32} {s1 : Int32} {s2 : Int32} {s3 : Nat} {lay : List mShp} {M : mMem} {P : mPost} : mG (d) 179 46 [a0, a1, a2] [.int s0, .int s1, .int s2, .ref s3] lay M P = mG d 179 47 [a0, a1, a2] [.int (s1 - s0), .int s2, .ref s3] lay M P := e_isub rfl
set_option maxRecDepth 20000 in
theorem g179_47 {d : Nat} {a0 a1 a2 : Option Value} {s0 : Int32} {s1 : Int32} {s2 : Nat} {lay : List mShp} {M : mMem} {P : mPost} (hs : mSh lay s2 = some (0, 8)) : mG (d) 179 47 [a0, a1, a2] [.int s0, .int s1, .ref s2] lay M P = (mIdx s1 8 = true ∧ mG d 179 48 [a0, a1, a2] [] lay (mSetI M s2 s1.toNatClampNeg s0) P) := e_iastore rfl hs
set_option maxRecDepth 20000 in
theorem g179_48 {d : Nat} {a0 a2 : Option Value} {x : Int32} {lay : List mShp} {M : mMem} {P : mPost} (h0 : mNoL a0 = true) : mG (d) 179 48 [a0, some (.int x), a2] [] lay M P = mG d 179 51 [a0, some (.int (x + Int32.ofInt 1)), a2] [] lay M P := e_iinc (n := 1) rfl rfl (mS1_1 h0)
set_option maxRecDepth 20000 in
theorem g179_51 {d : Nat} {a0 a1 a2 : Option Value} {lay : List mShp} {M : mMem} {P : mPost} : mG (d) 179 51 [a0, a1, a2] [] lay M P = mG d 179 7 [a0, a1, a2] [] lay M P := e_goto rfl rfl
set_option maxRecDepth 20000 in
theorem g179_54 {d : Nat} {a0 a1 a2 : Option Value} {lay : List mShp} {M : mMem} {P : mPost} : mG (d) 179 54 [a0, a1, a2] [] lay M P = mG d 179 55 [a0, a1, a2] [.int (Int32.ofInt 0)] lay M P := e_iconst rfl
set_option maxRecDepth 20000 in
theorem g179_55 {d : Nat} {a0 a1 a2 : Option Value} {s0 : Int32} {lay : List mShp} {M : mMem} {P : mPost} (h0 : mNoL a0 = true) : mG (d) 179 55 [a0, a1, a2] [.int s0] lay M P = mG d 179 56 [a0, some (.int s0), a2] [] lay M P := e_istore_n (i := 1) rfl rfl (by simp) (mS1_1 h0)
set_option maxRecDepth 20000 in
theorem g179_56 {d : Nat} {a0 a2 : Option Value} {x : Int32} {lay : List mShp} {M : mMem} {P : mPost} : mG (d) 179 56 [a0, some (.int x), a2] [] lay M P = mG d 179 57 [a0, some (.int x), a2] [.int x] lay M P := e_iload_n (i := 1) rfl rfl rfl
set_option maxRecDepth 20000 in
theorem g179_57 {d : Nat} {a1 a2 : Option Value} {s0 : Int32} {x : Nat} {lay : List mShp} {M : mMem} {P : mPost} (hx : ¬ x = 0) : mG (d) 179 57 [some (.ref x), a1, a2] [.int s0] lay M P = mG d 179 58 [some (.ref x), a1, a2] [.ref x, .int s0] lay M P := e_aload_nP hx (i := 0) rfl rfl rfl
set_option maxRecDepth 20000 in
theorem g179_58 {d : Nat} {a0 a1 a2 : Option Value} {s0 : Nat} {s1 : Int32} {lay : List mShp} {M : mMem} {P : mPost} (hs : mSh lay s0 = some (13, 44)) : mG (d) 179 58 [a0, a1, a2] [.ref s0, .int s1] lay M P = mG d 179 61 [a0, a1, a2] [.int (M.1 s0 2), .int s1] lay M P := mG_of_and (mIsO_of hs (by decide)) (e_getI (ci := 10) (j := 2) rfl rfl rfl)
set_option maxRecDepth 20000 in
theorem g179_61 {d : Nat} {a0 a1 a2 : Option Value} {s0 : Int32} {s1 : Int32} {lay : List mShp} {M : mMem} {P : mPost} : mG (d) 179 61 [a0, a1, a2] [.int s0, .int s1] lay M P = if s1 < s0 then mG d 179 64 [a0, a1, a2] [] lay M P else mG d 179 111 [a0, a1, a2] [] lay M P := e_icmp_ge rfl rfl
set_option maxRecDepth 20000 in
theorem g179_64 {d : Nat} {a1 a2 : Option Value} {x : Nat} {lay : List mShp} {M : mMem} {P : mPost} (hx : ¬ x = 0) : mG (d) 179 64 [some (.ref x), a1, a2] [] lay M P = mG d 179 65 [some (.ref x), a1, a2] [.ref x] lay M P := e_aload_nP hx (i := 0) rfl rfl rfl
set_option maxRecDepth 20000 in
theorem g179_65 {d : Nat} {a0 a2 : Option Value} {s0 : Nat} {x : Int32} {lay : List mShp} {M : mMem} {P : mPost} : mG (d) 179 65 [a0, some (.int x), a2] [.ref s0] lay M P = mG d 179 66 [a0, some (.int x), a2] [.int x, .ref s0] lay M P := e_iload_n (i := 1) rfl rfl rfl
set_option maxRecDepth 20000 in
theorem g179_66 {d : Nat} {a0 a1 a2 : Option Value} {s0 : Int32} {s1 : Nat} {lay : List mShp} {M : mMem} {P : mPost} (hs : mSh lay s1 = some (13, 44)) : mG (d + 1) 179 66 [a0, a1, a2] [.int s0, .ref s1] lay M P = mF d 177 [.ref s1, .int s0] lay M (fun v lay1 M1 => mG (d + 1) 179 69 [a0, a1, a2] (v.toList ++ []) lay1 M1 P) := e_virtP1 (j := 177) (c := 10) rfl rfl rfl rfl rfl rfl hs (Nat.le_of_ble_eq_true rfl)
set_option maxRecDepth 20000 in
theorem g179_69 {d : Nat} {a0 a1 a2 : Option Value} {s0 : Int32} {lay : List mShp} {M : mMem} {P : mPost} (h0 : mNoL a1 = true) : mG (d) 179 69 [a0, a1, a2] [.int s0] lay M P = mG d 179 70 [a0, a1, some (.int s0)] [] lay M P := e_istore_n (i := 2) rfl rfl (by simp) (mS1_2 h0)
set_option maxRecDepth 20000 in
theorem g179_70 {d : Nat} {a1 a2 : Option Value} {x : Nat} {lay : List mShp} {M : mMem} {P : mPost} (hx : ¬ x = 0) : mG (d) 179 70 [some (.ref x), a1, a2] [] lay M P = mG d 179 71 [some (.ref x), a1, a2] [.ref x] lay M P := e_aload_nP hx (i := 0) rfl rfl rfl
set_option maxRecDepth 20000 in
theorem g179_71 {d : Nat} {a0 a2 : Option Value} {s0 : Nat} {x : Int32} {lay : List mShp} {M : mMem} {P : mPost} : mG (d) 179 71 [a0, some (.int x), a2] [.ref s0] lay M P = mG d 179 72 [a0, some (.int x), a2] [.int x, .ref s0] lay M P := e_iload_n (i := 1) rfl rfl rfl
set_option maxRecDepth 20000 in
theorem g179_72 {d : Nat} {a0 a1 a2 : Option Value} {s0 : Int32} {s1 : Nat} {lay : List mShp} {M : mMem} {P : mPost} : mG (d) 179 72 [a0, a1, a2] [.int s0, .ref s1] lay M P = mG d 179 73 [a0, a1, a2] [.int (Int32.ofInt 4), .int s0, .ref s1] lay M P := e_iconst rfl
set_option maxRecDepth 20000 in
theorem g179_73 {d : Nat} {a0 a1 a2 : Option Value} {s0 : Int32} {s1 : Int32} {s2 : Nat} {lay : List mShp} {M : mMem} {P : mPost} (hs : mSh lay s2 = some (13, 44)) : mG (d + 1) 179 73 [a0, a1, a2] [.int s0, .int s1, .ref s2] lay M P = mF d 152 [.ref s2, .int s1, .int s0] lay M (fun v lay1 M1 => mG (d + 1) 179 76 [a0, a1, a2] (v.toList ++ []) lay1 M1 P) := e_virtP2 (j := 152) (c := 10) rfl rfl rfl rfl rfl rfl hs (Nat.le_of_ble_eq_true rfl)
set_option maxRecDepth 20000 in
theorem g179_76 {d : Nat} {a0 a1 a2 : Option Value} {s0 : Int32} {lay : List mShp} {M : mMem} {P : mPost} : mG (d) 179 76 [a0, a1, a2] [.int s0] lay M P = mG d 179 77 [a0, a1, a2] [.int (Int32.ofInt (-1)), .int s0] lay M P := e_iconst rfl
set_option maxRecDepth 20000 in
theorem g179_77 {d : Nat} {a0 a1 a2 : Option Value} {s0 : Int32} {s1 : Int32} {lay : List mShp} {M : mMem} {P : mPost} : mG (d) 179 77 [a0, a1, a2] [.int s0, .int s1] lay M P = if s1 = s0 then mG d 179 105 [a0, a1, a2] [] lay M P else mG d 179 80 [a0, a1, a2] [] lay M P := e_icmp_eq rfl rfl
set_option maxRecDepth 20000 in
theorem g179_80 {d : Nat} {a1 a2 : Option Value} {x : Nat} {lay : List mShp} {M : mMem} {P : mPost} (hx : ¬ x = 0) : mG (d) 179 80 [some (.ref x), a1, a2] [] lay M P = mG d 179 81 [some (.ref x), a1, a2] [.ref x] lay M P := e_aload_nP hx (i := 0) rfl rfl rfl
set_option maxRecDepth 20000 in
theorem g179_81 {d : Nat} {a0 a1 a2 : Option Value} {s0 : Nat} {lay : List mShp} {M : mMem} {P : mPost} (hs : mSh lay s0 = some (13, 44)) : mG (d) 179 81 [a0, a1, a2] [.ref s0] lay M P = mG d 179 84 [a0, a1, a2] [.ref (M.2.2 s0 21)] lay M P := mG_of_and (mIsO_of hs (by decide)) (e_getA (ci := 10) (j := 21) rfl rfl rfl)
set_option maxRecDepth 20000 in
theorem g179_84 {d : Nat} {a1 a2 : Option Value} {s0 : Nat} {x : Nat} {lay : List mShp} {M : mMem} {P : mPost} (hx : ¬ x = 0) : mG (d) 179 84 [some (.ref x), a1, a2] [.ref s0] lay M P = mG d 179 85 [some (.ref x), a1, a2] [.ref x, .ref s0] lay M P := e_aload_nP hx (i := 0) rfl rfl rfl
set_option maxRecDepth 20000 in
theorem g179_85 {d : Nat} {a0 a2 : Option Value} {s0 : Nat} {s1 : Nat} {x : Int32} {lay : List mShp} {M : mMem} {P : mPost} : mG (d) 179 85 [a0, some (.int x), a2] [.ref s0, .ref s1] lay M P = mG d 179 86 [a0, some (.int x), a2] [.int x, .ref s0, .ref s1] lay M P := e_iload_n (i := 1) rfl rfl rfl
set_option maxRecDepth 20000 in
theorem g179_86 {d : Nat} {a0 a1 a2 : Option Value} {s0 : Int32} {s1 : Nat} {s2 : Nat} {lay : List mShp} {M : mMem} {P : mPost} : mG (d) 179 86 [a0, a1, a2] [.int s0, .ref s1, .ref s2] lay M P = mG d 179 87 [a0, a1, a2] [.int (Int32.ofInt 4), .int s0, .ref s1, .ref s2] lay M P := e_iconst rfl
set_option maxRecDepth 20000 in
theorem g179_87 {d : Nat} {a0 a1 a2 : Option Value} {s0 : Int32} {s1 : Int32} {s2 : Nat} {s3 : Nat} {lay : List mShp} {M : mMem} {P : mPost} (hs : mSh lay s2 = some (13, 44)) : mG (d + 1) 179 87 [a0, a1, a2] [.int s0, .int s1, .ref s2, .ref s3] lay M P = mF d 152 [.ref s2, .int s1, .int s0] lay M (fun v lay1 M1 => mG (d + 1) 179 90 [a0, a1, a2] (v.toList ++ [.ref s3]) lay1 M1 P) := e_virtP2 (j := 152) (c := 10) rfl rfl rfl rfl rfl rfl hs (Nat.le_of_ble_eq_true rfl)
set_option maxRecDepth 20000 in
theorem g179_90 {d : Nat} {a0 a1 a2 : Option Value} {s0 : Int32} {s1 : Nat} {lay : List mShp} {M : mMem} {P : mPost} : mG (d) 179 90 [a0, a1, a2] [.int s0, .ref s1] lay M P = mG d 179 91 [a0, a1, a2] [.int s0, .ref s1, .int s0, .ref s1] lay M P := e_dup2 rfl
set_option maxRecDepth 20000 in
theorem g179_91 {d : Nat} {a0 a1 a2 : Option Value} {s0 : Int32} {s1 : Nat} {s2 : Int32} {s3 : Nat} {lay : List mShp} {M : mMem} {P : mPost} (hs : mSh lay s1 = some (0, 8)) : mG (d) 179 91 [a0, a1, a2] [.int s0, .ref s1, .int s2, .ref s3] lay M P = (mIdx s0 8 = true ∧ mG d 179 92 [a0, a1, a2] [.int (M.1 s1 s0.toNatClampNeg), .int s2, .ref s3] lay M P) := e_iaload rfl hs
set_option maxRecDepth 20000 in
theorem g179_92 {d : Nat} {a0 a1 : Option Value} {s0 : Int32} {s1 : Int32} {s2 : Nat} {x : Int32} {lay : List mShp} {M : mMem} {P : mPost} : mG (d) 179 92 [a0, a1, some (.int x)] [.int s0, .int s1, .ref s2] lay M P = mG d 179 93 [a0, a1, some (.int x)] [.int x, .int s0, .int s1, .ref s2] lay M P := e_iload_n (i := 2) rfl rfl rfl
set_option maxRecDepth 20000 in
theorem g179_93 {d : Nat} {a0 a1 a2 : Option Value} {s0 : Int32} {s1 : Int32} {s2 : Int32} {s3 : Nat} {lay : List mShp} {M : mMem} {P : mPost} : mG (d) 179 93 [a0, a1, a2] [.int s0, .int s1, .int s2, .ref s3] lay M P = mG d 179 94 [a0, a1, a2] [.int (s1 + s0), .int s2, .ref s3] lay M P := e_iadd rfl
set_option maxRecDepth 20000 in
theorem g179_94 {d : Nat} {a0 a1 a2 : Option Value} {s0 : Int32} {s1 : Int32} {s2 : Nat} {lay : List mShp} {M : mMem} {P : mPost} (hs : mSh lay s2 = some (0, 8)) : mG (d) 179 94 [a0, a1, a2] [.int s0, .int s1, .ref s2] lay M P = (mIdx s1 8 = true ∧ mG d 179 95 [a0, a1, a2] [] lay (mSetI M s2 s1.toNatClampNeg s0) P) := e_iastore rfl hs
set_option maxRecDepth 20000 in
theorem g179_95 {d : Nat} {a1 a2 : Option Value} {x : Nat} {lay : List mShp} {M : mMem} {P : mPost} (hx : ¬ x = 0) : mG (d) 179 95 [some (.ref x), a1, a2] [] lay M P = mG d 179 96 [some (.ref x), a1, a2] [.ref x] lay M P := e_aload_nP hx (i := 0) rfl rfl rfl
set_option maxRecDepth 20000 in
theorem g179_96 {d : Nat} {a0 a1 a2 : Option Value} {s0 : Nat} {lay : List mShp} {M : mMem} {P : mPost} : mG (d) 179 96 [a0, a1, a2] [.ref s0] lay M P = mG d 179 97 [a0, a1, a2] [.ref s0, .ref s0] lay M P := e_dupr rfl
set_option maxRecDepth 20000 in
theorem g179_97 {d : Nat} {a0 a1 a2 : Option Value} {s0 : Nat} {s1 : Nat} {lay : List mShp} {M : mMem} {P : mPost} (hs : mSh lay s0 = some (13, 44)) : mG (d) 179 97 [a0, a1, a2] [.ref s0, .ref s1] lay M P = mG d 179 100 [a0, a1, a2] [.int (M.1 s0 22), .ref s1] lay M P := mG_of_and (mIsO_of hs (by decide)) (e_getI (ci := 10) (j := 22) rfl rfl rfl)
set_option maxRecDepth 20000 in
theorem g179_100 {d : Nat} {a0 a1 : Option Value} {s0 : Int32} {s1 : Nat} {x : Int32} {lay : List mShp} {M : mMem} {P : mPost} : mG (d) 179 100 [a0, a1, some (.int x)] [.int s0, .ref s1] lay M P = mG d 179 101 [a0, a1, some (.int x)] [.int x, .int s0, .ref s1] lay M P := e_iload_n (i := 2) rfl rfl rfl
set_option maxRecDepth 20000 in
theorem g179_101 {d : Nat} {a0 a1 a2 : Option Value} {s0 : Int32} {s1 : Int32} {s2 : Nat} {lay : List mShp} {M : mMem} {P : mPost} : mG (d) 179 101 [a0, a1, a2] [.int s0, .int s1, .ref s2] lay M P = mG d 179 102 [a0, a1, a2] [.int (s1 + s0), .ref s2] lay M P := e_iadd rfl
set_option maxRecDepth 20000 in
theorem g179_102 {d : Nat} {a0 a1 a2 : Option Value} {s0 : Int32} {s1 : Nat} {lay : List mShp} {M : mMem} {P : mPost} (hs : mSh lay s1 = some (13, 44)) : mG (d) 179 102 [a0, a1, a2] [.int s0, .ref s1] lay M P = mG d 179 105 [a0, a1, a2] [] lay (mSetI M s1 22 s0) P := mG_of_and (mIsO_of hs (by decide)) (e_putI (ci := 10) (j := 22) rfl rfl (Or.inl rfl) rfl)
set_option maxRecDepth 20000 in
theorem g179_105 {d : Nat} {a0 a2 : Option Value} {x : Int32} {lay : List mShp} {M : mMem} {P : mPost} (h0 : mNoL a0 = true) : mG (d) 179 105 [a0, some (.int x), a2] [] lay M P = mG d 179 108 [a0, some (.int (x + Int32.ofInt 1)), a2] [] lay M P := e_iinc (n := 1) rfl rfl (mS1_1 h0)
set_option maxRecDepth 20000 in
theorem g179_108 {d : Nat} {a0 a1 a2 : Option Value} {lay : List mShp} {M : mMem} {P : mPost} : mG (d) 179 108 [a0, a1, a2] [] lay M P = mG d 179 56 [a0, a1, a2] [] lay M P := e_goto rfl rfl
set_option maxRecDepth 20000 in
theorem g179_111 {d : Nat} {a0 a1 a2 : Option Value} {lay : List mShp} {M : mMem} {P : mPost} : mG (d) 179 111 [a0, a1, a2] [] lay M P = mG d 179 112 [a0, a1, a2] [.int (Int32.ofInt 0)] lay M P := e_iconst rfl
set_option maxRecDepth 20000 in
theorem g179_112 {d : Nat} {a0 a1 a2 : Option Value} {s0 : Int32} {lay : List mShp} {M : mMem} {P : mPost} (h0 : mNoL a0 = true) : mG (d) 179 112 [a0, a1, a2] [.int s0] lay M P = mG d 179 113 [a0, some (.int s0), a2] [] lay M P := e_istore_n (i := 1) rfl rfl (by simp) (mS1_1 h0)
set_option maxRecDepth 20000 in
theorem g179_113 {d : Nat} {a0 a2 : Option Value} {x : Int32} {lay : List mShp} {M : mMem} {P : mPost} : mG (d) 179 113 [a0, some (.int x), a2] [] lay M P = mG d 179 114 [a0, some (.int x), a2] [.int x] lay M P := e_iload_n (i := 1) rfl rfl rfl
set_option maxRecDepth 20000 in
theorem g179_114 {d : Nat} {a1 a2 : Option Value} {s0 : Int32} {x : Nat} {lay : List mShp} {M : mMem} {P : mPost} (hx : ¬ x = 0) : mG (d) 179 114 [some (.ref x), a1, a2] [.int s0] lay M P = mG d 179 115 [some (.ref x), a1, a2] [.ref x, .int s0] lay M P := e_aload_nP hx (i := 0) rfl rfl rfl
set_option maxRecDepth 20000 in
theorem g179_115 {d : Nat} {a0 a1 a2 : Option Value} {s0 : Nat} {s1 : Int32} {lay : List mShp} {M : mMem} {P : mPost} (hs : mSh lay s0 = some (13, 44)) : mG (d) 179 115 [a0, a1, a2] [.ref s0, .int s1] lay M P = mG d 179 118 [a0, a1, a2] [.int (M.1 s0 2), .int s1] lay M P := mG_of_and (mIsO_of hs (by decide)) (e_getI (ci := 10) (j := 2) rfl rfl rfl)
set_option maxRecDepth 20000 in
theorem g179_118 {d : Nat} {a0 a1 a2 : Option Value} {s0 : Int32} {s1 : Int32} {lay : List mShp} {M : mMem} {P : mPost} : mG (d) 179 118 [a0, a1, a2] [.int s0, .int s1] lay M P = if s1 < s0 then mG d 179 121 [a0, a1, a2] [] lay M P else mG d 179 152 [a0, a1, a2] [] lay M P := e_icmp_ge rfl rfl
set_option maxRecDepth 20000 in
theorem g179_121 {d : Nat} {a1 a2 : Option Value} {x : Nat} {lay : List mShp} {M : mMem} {P : mPost} (hx : ¬ x = 0) : mG (d) 179 121 [some (.ref x), a1, a2] [] lay M P = mG d 179 122 [some (.ref x), a1, a2] [.ref x] lay M P := e_aload_nP hx (i := 0) rfl rfl rfl
set_option maxRecDepth 20000 in
theorem g179_122 {d : Nat} {a0 a2 : Option Value} {s0 : Nat} {x : Int32} {lay : List mShp} {M : mMem} {P : mPost} : mG (d) 179 122 [a0, some (.int x), a2] [.ref s0] lay M P = mG d 179 123 [a0, some (.int x), a2] [.int x, .ref s0] lay M P := e_iload_n (i := 1) rfl rfl rfl
set_option maxRecDepth 20000 in
theorem g179_123 {d : Nat} {a0 a1 a2 : Option Value} {s0 : Int32} {s1 : Nat} {lay : List mShp} {M : mMem} {P : mPost} : mG (d) 179 123 [a0, a1, a2] [.int s0, .ref s1] lay M P = mG d 179 124 [a0, a1, a2] [.int (Int32.ofInt 3), .int s0, .ref s1] lay M P := e_iconst rfl
set_option maxRecDepth 20000 in
theorem g179_124 {d : Nat} {a1 a2 : Option Value} {s0 : Int32} {s1 : Int32} {s2 : Nat} {x : Nat} {lay : List mShp} {M : mMem} {P : mPost} (hx : ¬ x = 0) : mG (d) 179 124 [some (.ref x), a1, a2] [.int s0, .int s1, .ref s2] lay M P = mG d 179 125 [some (.ref x), a1, a2] [.ref x, .int s0, .int s1, .ref s2] lay M P := e_aload_nP hx (i := 0) rfl rfl rfl
set_option maxRecDepth 20000 in
theorem g179_125 {d : Nat} {a0 a2 : Option Value} {s0 : Nat} {s1 : Int32} {s2 : Int32} {s3 : Nat} {x : Int32} {lay : List mShp} {M : mMem} {P : mPost} : mG (d) 179 125 [a0, some (.int x), a2] [.ref s0, .int s1, .int s2, .ref s3] lay M P = mG d 179 126 [a0, some (.int x), a2] [.int x, .ref s0, .int s1, .int s2, .ref s3] lay M P := e_iload_n (i := 1) rfl rfl rfl
set_option maxRecDepth 20000 in
theorem g179_126 {d : Nat} {a0 a1 a2 : Option Value} {s0 : Int32} {s1 : Nat} {s2 : Int32} {s3 : Int32} {s4 : Nat} {lay : List mShp} {M : mMem} {P : mPost} : mG (d) 179 126 [a0, a1, a2] [.int s0, .ref s1, .int s2, .int s3, .ref s4] lay M P = mG d 179 127 [a0, a1, a2] [.int (Int32.ofInt 3), .int s0, .ref s1, .int s2, .int s3, .ref s4] lay M P := e_iconst rfl
set_option maxRecDepth 20000 in
theorem g179_127 {d : Nat} {a0 a1 a2 : Option Value} {s0 : Int32} {s1 : Int32} {s2 : Nat} {s3 : Int32} {s4 : Int32} {s5 : Nat} {lay : List mShp} {M : mMem} {P : mPost} (hs : mSh lay s2 = some (13, 44)) : mG (d + 1) 179 127 [a0, a1, a2] [.int s0, .int s1, .ref s2, .int s3, .int s4, .ref s5] lay M P = mF d 152 [.ref s2, .int s1, .int s0] lay M (fun v lay1 M1 => mG (d + 1) 179 130 [a0, a1, a2] (v.toList ++ [.int s3, .int s4, .ref s5]) lay1 M1 P) := e_virtP2 (j := 152) (c := 10) rfl rfl rfl rfl rfl rfl hs (Nat.le_of_ble_eq_true rfl)
set_option maxRecDepth 20000 in
theorem g179_130 {d : Nat} {a1 a2 : Option Value} {s0 : Int32} {s1 : Int32} {s2 : Int32} {s3 : Nat} {x : Nat} {lay : List mShp} {M : mMem} {P : mPost} (hx : ¬ x = 0) : mG (d) 179 130 [some (.ref x), a1, a2] [.int s0, .int s1, .int s2, .ref s3] lay M P = mG d 179 131 [some (.ref x), a1, a2] [.ref x, .int s0, .int s1, .int s2, .ref s3] lay M P := e_aload_nP hx (i := 0) rfl rfl rfl
set_option maxRecDepth 20000 in
theorem g179_131 {d : Nat} {a0 a1 a2 : Option Value} {s0 : Nat} {s1 : Int32} {s2 : Int32} {s3 : Int32} {s4 : Nat} {lay : List mShp} {M : mMem} {P : mPost} (hs : mSh lay s0 = some (13, 44)) : mG (d) 179 131 [a0, a1, a2] [.ref s0, .int s1, .int s2, .int s3, .ref s4] lay M P = mG d 179 134 [a0, a1, a2] [.ref (M.2.2 s0 21), .int s1, .int s2, .int s3, .ref s4] lay M P := mG_of_and (mIsO_of hs (by decide)) (e_getA (ci := 10) (j := 21) rfl rfl rfl)
set_option maxRecDepth 20000 in
theorem g179_134 {d : Nat} {a0 a2 : Option Value} {s0 : Nat} {s1 : Int32} {s2 : Int32} {s3 : Int32} {s4 : Nat} {x : Int32} {lay : List mShp} {M : mMem} {P : mPost} : mG (d) 179 134 [a0, some (.int x), a2] [.ref s0, .int s1, .int s2, .int s3, .ref s4] lay M P = mG d 179 135 [a0, some (.int x), a2] [.int x, .ref s0, .int s1, .int s2, .int s3, .ref s4] lay M P := e_iload_n (i := 1) rfl rfl rfl
set_option maxRecDepth 20000 in
theorem g179_135 {d : Nat} {a0 a1 a2 : Option Value} {s0 : Int32} {s1 : Nat} {s2 : Int32} {s3 : Int32} {s4 : Int32} {s5 : Nat} {lay : List mShp} {M : mMem} {P : mPost} (hs : mSh lay s1 = some (0, 8)) : mG (d) 179 135 [a0, a1, a2] [.int s0, .ref s1, .int s2, .int s3, .int s4, .ref s5] lay M P = (mIdx s0 8 = true ∧ mG d 179 136 [a0, a1, a2] [.int (M.1 s1 s0.toNatClampNeg), .int s2, .int s3, .int s4, .ref s5] lay M P) := e_iaload rfl hs
set_option maxRecDepth 20000 in
theorem g179_136 {d : Nat} {a0 a1 a2 : Option Value} {s0 : Int32} {s1 : Int32} {s2 : Int32} {s3 : Int32} {s4 : Nat} {lay : List mShp} {M : mMem} {P : mPost} : mG (d) 179 136 [a0, a1, a2] [.int s0, .int s1, .int s2, .int s3, .ref s4] lay M P = mG d 179 137 [a0, a1, a2] [.int (s1 + s0), .int s2, .int s3, .ref s4] lay M P := e_iadd rfl
set_option maxRecDepth 20000 in
theorem g179_137 {d : Nat} {a0 a1 a2 : Option Value} {s0 : Int32} {s1 : Int32} {s2 : Int32} {s3 : Nat} {lay : List mShp} {M : mMem} {P : mPost} : mG (d) 179 137 [a0, a1, a2] [.int s0, .int s1, .int s2, .ref s3] lay M P = mG d 179 138 [a0, a1, a2] [.int (Int32.ofInt 0), .int s0, .int s1, .int s2, .ref s3] lay M P := e_iconst rfl
set_option maxRecDepth 20000 in
theorem g179_138 {d : Nat} {a0 a1 a2 : Option Value} {s0 : Int32} {s1 : Int32} {s2 : Int32} {s3 : Int32} {s4 : Nat} {lay : List mShp} {M : mMem} {P : mPost} : mG (d) 179 138 [a0, a1, a2] [.int s0, .int s1, .int s2, .int s3, .ref s4] lay M P = mG d 179 140 [a0, a1, a2] [.int (Int32.ofInt 99), .int s0, .int s1, .int s2, .int s3, .ref s4] lay M P := e_bipush rfl
set_option maxRecDepth 20000 in
theorem g179_140 {d : Nat} {a0 a1 a2 : Option Value} {s0 : Int32} {s1 : Int32} {s2 : Int32} {s3 : Int32} {s4 : Int32} {s5 : Nat} {lay : List mShp} {M : mMem} {P : mPost} : mG (d + 1) 179 140 [a0, a1, a2] [.int s0, .int s1, .int s2, .int s3, .int s4, .ref s5] lay M P = mF d 147 [.int s2, .int s1, .int s0] lay M (fun v lay1 M1 => mG (d + 1) 179 143 [a0, a1, a2] (v.toList ++ [.int s3, .int s4, .ref s5]) lay1 M1 P) := e_static3 (j := 147) rfl rfl rfl rfl rfl (Nat.le_of_ble_eq_true rfl)
set_option maxRecDepth 20000 in
theorem g179_143 {d : Nat} {a0 a1 a2 : Option Value} {s0 : Int32} {s1 : Int32} {s2 : Int32} {s3 : Nat} {lay : List mShp} {M : mMem} {P : mPost} (hs : mSh lay s3 = some (13, 44)) : mG (d + 1) 179 143 [a0, a1, a2] [.int s0, .int s1, .int s2, .ref s3] lay M P = mF d 153 [.ref s3, .int s2, .int s1, .int s0] lay M (fun v lay1 M1 => mG (d + 1) 179 146 [a0, a1, a2] (v.toList ++ []) lay1 M1 P) := e_virtP3 (j := 153) (c := 10) rfl rfl rfl rfl rfl rfl hs (Nat.le_of_ble_eq_true rfl)
set_option maxRecDepth 20000 in
theorem g179_146 {d : Nat} {a0 a2 : Option Value} {x : Int32} {lay : List mShp} {M : mMem} {P : mPost} (h0 : mNoL a0 = true) : mG (d) 179 146 [a0, some (.int x), a2] [] lay M P = mG d 179 149 [a0, some (.int (x + Int32.ofInt 1)), a2] [] lay M P := e_iinc (n := 1) rfl rfl (mS1_1 h0)
set_option maxRecDepth 20000 in
theorem g179_149 {d : Nat} {a0 a1 a2 : Option Value} {lay : List mShp} {M : mMem} {P : mPost} : mG (d) 179 149 [a0, a1, a2] [] lay M P = mG d 179 113 [a0, a1, a2] [] lay M P := e_goto rfl rfl
set_option maxRecDepth 20000 in
theorem g179_152 {d : Nat} {a1 a2 : Option Value} {x : Nat} {lay : List mShp} {M : mMem} {P : mPost} (hx : ¬ x = 0) : mG (d) 179 152 [some (.ref x), a1, a2] [] lay M P = mG d 179 153 [some (.ref x), a1, a2] [.ref x] lay M P := e_aload_nP hx (i := 0) rfl rfl rfl
set_option maxRecDepth 20000 in
theorem g179_153 {d : Nat} {a0 a1 a2 : Option Value} {s0 : Nat} {lay : List mShp} {M : mMem} {P : mPost} (hs : mSh lay s0 = some (13, 44)) : mG (d) 179 153 [a0, a1, a2] [.ref s0] lay M P = mG d 179 156 [a0, a1, a2] [.ref (M.2.2 s0 0)] lay M P := mG_of_and (mIsO_of hs (by decide)) (e_getA (ci := 10) (j := 0) rfl rfl rfl)
set_option maxRecDepth 20000 in
theorem g179_156 {d : Nat} {a0 a1 a2 : Option Value} {s0 : Nat} {lay : List mShp} {M : mMem} {P : mPost} : mG (d) 179 156 [a0, a1, a2] [.ref s0] lay M P = mG d 179 158 [a0, a1, a2] [.int (Int32.ofInt 41), .ref s0] lay M P := e_bipush rfl
set_option maxRecDepth 20000 in
theorem g179_158 {d : Nat} {a0 a1 a2 : Option Value} {s0 : Int32} {s1 : Nat} {lay : List mShp} {M : mMem} {P : mPost} : mG (d) 179 158 [a0, a1, a2] [.int s0, .ref s1] lay M P = mG d 179 160 [a0, a1, a2] [.int (Int32.ofInt 99), .int s0, .ref s1] lay M P := e_bipush rfl
set_option maxRecDepth 20000 in
theorem g179_160 {d : Nat} {a1 a2 : Option Value} {s0 : Int32} {s1 : Int32} {s2 : Nat} {x : Nat} {lay : List mShp} {M : mMem} {P : mPost} (hx : ¬ x = 0) : mG (d) 179 160 [some (.ref x), a1, a2] [.int s0, .int s1, .ref s2] lay M P = mG d 179 161 [some (.ref x), a1, a2] [.ref x, .int s0, .int s1, .ref s2] lay M P := e_aload_nP hx (i := 0) rfl rfl rfl
set_option maxRecDepth 20000 in
theorem g179_161 {d : Nat} {a0 a1 a2 : Option Value} {s0 : Nat} {s1 : Int32} {s2 : Int32} {s3 : Nat} {lay : List mShp} {M : mMem} {P : mPost} (hs : mSh lay s0 = some (13, 44)) : mG (d) 179 161 [a0, a1, a2] [.ref s0, .int s1, .int s2, .ref s3] lay M P = mG d 179 164 [a0, a1, a2] [.ref (M.2.2 s0 0), .int s1, .int s2, .ref s3] lay M P := mG_of_and (mIsO_of hs (by decide)) (e_getA (ci := 10) (j := 0) rfl rfl rfl)
set_option maxRecDepth 20000 in
theorem g179_164 {d : Nat} {a0 a1 a2 : Option Value} {s0 : Nat} {s1 : Int32} {s2 : Int32} {s3 : Nat} {lay : List mShp} {M : mMem} {P : mPost} : mG (d) 179 164 [a0, a1, a2] [.ref s0, .int s1, .int s2, .ref s3] lay M P = mG d 179 166 [a0, a1, a2] [.int (Int32.ofInt 41), .ref s0, .int s1, .int s2, .ref s3] lay M P := e_bipush rfl
set_option maxRecDepth 20000 in
theorem g179_166 {d : Nat} {a0 a1 a2 : Option Value} {s0 : Int32} {s1 : Nat} {s2 : Int32} {s3 : Int32} {s4 : Nat} {lay : List mShp} {M : mMem} {P : mPost} (hs : mSh lay s1 = some (0, 42)) : mG (d) 179 166 [a0, a1, a2] [.int s0, .ref s1, .int s2, .int s3, .ref s4] lay M P = (mIdx s0 42 = true ∧ mG d 179 167 [a0, a1, a2] [.int (M.1 s1 s0.toNatClampNeg), .int s2, .int s3, .ref s4] lay M P) := e_iaload rfl hs
set_option maxRecDepth 20000 in
theorem g179_167 {d : Nat} {a0 a1 a2 : Option Value} {s0 : Int32} {s1 : Int32} {s2 : Int32} {s3 : Nat} {lay : List mShp} {M : mMem} {P : mPost} : mG (d) 179 167 [a0, a1, a2] [.int s0, .int s1, .int s2, .ref s3] lay M P = mG d 179 168 [a0, a1, a2] [.int (Int32.ofInt 1), .int s0, .int s1, .int s2, .ref s3] lay M P := e_iconst rfl
set_option maxRecDepth 20000 in
theorem g179_168 {d : Nat} {a0 a1 a2 : Option Value} {s0 : Int32} {s1 : Int32} {s2 : Int32} {s3 : Int32} {s4 : Nat} {lay : List mShp} {M : mMem} {P : mPost} : mG (d) 179 168 [a0, a1, a2] [.int s0, .int s1, .int s2, .int s3, .ref s4] lay M P = mG d 179 169 [a0, a1, a2] [.int (s1 + s0), .int s2, .int s3, .ref s4] lay M P := e_iadd rfl
set_option maxRecDepth 20000 in
theorem g179_169 {d : Nat} {a0 a1 a2 : Option Value} {s0 : Int32} {s1 : Int32} {s2 : Int32} {s3 : Nat} {lay : List mShp} {M : mMem} {P : mPost} : mG (d) 179 169 [a0, a1, a2] [.int s0, .int s1, .int s2, .ref s3] lay M P = mG d 179 172 [a0, a1, a2] [.int (if s0 < s1 then s0 else s1), .int s2, .ref s3] lay M P := e_min rfl rfl (Nat.le_of_ble_eq_true rfl)
set_option maxRecDepth 20000 in
theorem g179_172 {d : Nat} {a0 a1 a2 : Option Value} {s0 : Int32} {s1 : Int32} {s2 : Nat} {lay : List mShp} {M : mMem} {P : mPost} (hs : mSh lay s2 = some (0, 42)) : mG (d) 179 172 [a0, a1, a2] [.int s0, .int s1, .ref s2] lay M P = (mIdx s1 42 = true ∧ mG d 179 173 [a0, a1, a2] [] lay (mSetI M s2 s1.toNatClampNeg s0) P) := e_iastore rfl hs
set_option maxRecDepth 20000 in
theorem g179_173 {d : Nat} {a0 a1 a2 : Option Value} {lay : List mShp} {M : mMem} {P : mPost} : mG (d) 179 173 [a0, a1, a2] [] lay M P = P none lay M := e_return rfl rfl
-- 180 X10_goDays
theorem g180_in {d : Nat} {x0 : Nat} {x1 : Int32} {lay : List mShp} {M : mMem} {P : mPost} : mF d 180 [.ref x0, .int x1] lay M P = mG d 180 0 [some (.ref x0), some (.int x1), none] [] lay M P := mF_in rfl rfl
set_option maxRecDepth 20000 in
theorem g180_0 {d : Nat} {a0 a1 a2 : Option Value} {lay : List mShp} {M : mMem} {P : mPost} : mG (d) 180 0 [a0, a1, a2] [] lay M P = mG d 180 1 [a0, a1, a2] [.int (Int32.ofInt 0)] lay M P := e_iconst rfl
set_option maxRecDepth 20000 in
theorem g180_1 {d : Nat} {a0 a1 a2 : Option Value} {s0 : Int32} {lay : List mShp} {M : mMem} {P : mPost} (h0 : mNoL a1 = true) : mG (d) 180 1 [a0, a1, a2] [.int s0] lay M P = mG d 180 2 [a0, a1, some (.int s0)] [] lay M P := e_istore_n (i := 2) rfl rfl (by simp) (mS1_2 h0)
set_option maxRecDepth 20000 in
theorem g180_2 {d : Nat} {a0 a1 : Option Value} {x : Int32} {lay : List mShp} {M : mMem} {P : mPost} : mG (d) 180 2 [a0, a1, some (.int x)] [] lay M P = mG d 180 3 [a0, a1, some (.int x)] [.int x] lay M P := e_iload_n (i := 2) rfl rfl rfl
set_option maxRecDepth 20000 in
theorem g180_3 {d : Nat} {a0 a2 : Option Value} {s0 : Int32} {x : Int32} {lay : List mShp} {M : mMem} {P : mPost} : mG (d) 180 3 [a0, some (.int x), a2] [.int s0] lay M P = mG d 180 4 [a0, some (.int x), a2] [.int x, .int s0] lay M P := e_iload_n (i := 1) rfl rfl rfl
set_option maxRecDepth 20000 in
theorem g180_4 {d : Nat} {a0 a1 a2 : Option Value} {s0 : Int32} {s1 : Int32} {lay : List mShp} {M : mMem} {P : mPost} : mG (d) 180 4 [a0, a1, a2] [.int s0, .int s1] lay M P = if s1 < s0 then mG d 180 7 [a0, a1, a2] [] lay M P else mG d 180 17 [a0, a1, a2] [] lay M P := e_icmp_ge rfl rfl
set_option maxRecDepth 20000 in
theorem g180_7 {d : Nat} {a1 a2 : Option Value} {x : Nat} {lay : List mShp} {M : mMem} {P : mPost} (hx : ¬ x = 0) : mG (d) 180 7 [some (.ref x), a1, a2] [] lay M P = mG d 180 8 [some (.ref x), a1, a2] [.ref x] lay M P := e_aload_nP hx (i := 0) rfl rfl rfl
set_option maxRecDepth 20000 in
theorem g180_8 {d : Nat} {a0 a1 a2 : Option Value} {s0 : Nat} {lay : List mShp} {M : mMem} {P : mPost} (hs : mSh lay s0 = some (13, 44)) : mG (d + 1) 180 8 [a0, a1, a2] [.ref s0] lay M P = mF d 179 [.ref s0] lay M (fun v lay1 M1 => mG (d + 1) 180 11 [a0, a1, a2] (v.toList ++ []) lay1 M1 P) := e_virtP0 (j := 179) (c := 10) rfl rfl rfl rfl rfl rfl hs (Nat.le_of_ble_eq_true rfl)
set_option maxRecDepth 20000 in
theorem g180_11 {d : Nat} {a0 a1 : Option Value} {x : Int32} {lay : List mShp} {M : mMem} {P : mPost} (h0 : mNoL a1 = true) : mG (d) 180 11 [a0, a1, some (.int x)] [] lay M P = mG d 180 14 [a0, a1, some (.int (x + Int32.ofInt 1))] [] lay M P := e_iinc (n := 2) rfl rfl (mS1_2 h0)
set_option maxRecDepth 20000 in
theorem g180_14 {d : Nat} {a0 a1 a2 : Option Value} {lay : List mShp} {M : mMem} {P : mPost} : mG (d) 180 14 [a0, a1, a2] [] lay M P = mG d 180 2 [a0, a1, a2] [] lay M P := e_goto rfl rfl
set_option maxRecDepth 20000 in
theorem g180_17 {d : Nat} {a0 a1 a2 : Option Value} {lay : List mShp} {M : mMem} {P : mPost} : mG (d) 180 17 [a0, a1, a2] [] lay M P = P none lay M := e_return rfl rfl
-- 181 X10_lacks
theorem g181_in {d : Nat} {x0 : Nat} {lay : List mShp} {M : mMem} {P : mPost} : mF d 181 [.ref x0] lay M P = mG d 181 0 [some (.ref x0), none, none] [] lay M P := mF_in rfl rfl
set_option maxRecDepth 20000 in
theorem g181_0 {d : Nat} {a0 a1 a2 : Option Value} {lay : List mShp} {M : mMem} {P : mPost} : mG (d) 181 0 [a0, a1, a2] [] lay M P = mG d 181 1 [a0, a1, a2] [.int (Int32.ofInt 0)] lay M P := e_iconst rfl
set_option maxRecDepth 20000 in
theorem g181_1 {d : Nat} {a0 a1 a2 : Option Value} {s0 : Int32} {lay : List mShp} {M : mMem} {P : mPost} (h0 : mNoL a0 = true) : mG (d) 181 1 [a0, a1, a2] [.int s0] lay M P = mG d 181 2 [a0, some (.int s0), a2] [] lay M P := e_istore_n (i := 1) rfl rfl (by simp) (mS1_1 h0)
set_option maxRecDepth 20000 in
theorem g181_2 {d : Nat} {a0 a1 a2 : Option Value} {lay : List mShp} {M : mMem} {P : mPost} : mG (d) 181 2 [a0, a1, a2] [] lay M P = mG d 181 3 [a0, a1, a2] [.int (Int32.ofInt 0)] lay M P := e_iconst rfl
set_option maxRecDepth 20000 in
theorem g181_3 {d : Nat} {a0 a1 a2 : Option Value} {s0 : Int32} {lay : List mShp} {M : mMem} {P : mPost} (h0 : mNoL a1 = true) : mG (d) 181 3 [a0, a1, a2] [.int s0] lay M P = mG d 181 4 [a0, a1, some (.int s0)] [] lay M P := e_istore_n (i := 2) rfl rfl (by simp) (mS1_2 h0)
set_option maxRecDepth 20000 in
theorem g181_4 {d : Nat} {a0 a1 : Option Value} {x : Int32} {lay : List mShp} {M : mMem} {P : mPost} : mG (d) 181 4 [a0, a1, some (.int x)] [] lay M P = mG d 181 5 [a0, a1, some (.int x)] [.int x] lay M P := e_iload_n (i := 2) rfl rfl rfl
set_option maxRecDepth 20000 in
theorem g181_5 {d : Nat} {a1 a2 : Option Value} {s0 : Int32} {x : Nat} {lay : List mShp} {M : mMem} {P : mPost} (hx : ¬ x = 0) : mG (d) 181 5 [some (.ref x), a1, a2] [.int s0] lay M P = mG d 181 6 [some (.ref x), a1, a2] [.ref x, .int s0] lay M P := e_aload_nP hx (i := 0) rfl rfl rfl
set_option maxRecDepth 20000 in
theorem g181_6 {d : Nat} {a0 a1 a2 : Option Value} {s0 : Nat} {s1 : Int32} {lay : List mShp} {M : mMem} {P : mPost} (hs : mSh lay s0 = some (13, 44)) : mG (d) 181 6 [a0, a1, a2] [.ref s0, .int s1] lay M P = mG d 181 9 [a0, a1, a2] [.int (M.1 s0 2), .int s1] lay M P := mG_of_and (mIsO_of hs (by decide)) (e_getI (ci := 10) (j := 2) rfl rfl rfl)
set_option maxRecDepth 20000 in
theorem g181_9 {d : Nat} {a0 a1 a2 : Option Value} {s0 : Int32} {s1 : Int32} {lay : List mShp} {M : mMem} {P : mPost} : mG (d) 181 9 [a0, a1, a2] [.int s0, .int s1] lay M P = if s1 < s0 then mG d 181 12 [a0, a1, a2] [] lay M P else mG d 181 45 [a0, a1, a2] [] lay M P := e_icmp_ge rfl rfl
set_option maxRecDepth 20000 in
theorem g181_12 {d : Nat} {a0 a2 : Option Value} {x : Int32} {lay : List mShp} {M : mMem} {P : mPost} : mG (d) 181 12 [a0, some (.int x), a2] [] lay M P = mG d 181 13 [a0, some (.int x), a2] [.int x] lay M P := e_iload_n (i := 1) rfl rfl rfl
set_option maxRecDepth 20000 in
theorem g181_13 {d : Nat} {a1 a2 : Option Value} {s0 : Int32} {x : Nat} {lay : List mShp} {M : mMem} {P : mPost} (hx : ¬ x = 0) : mG (d) 181 13 [some (.ref x), a1, a2] [.int s0] lay M P = mG d 181 14 [some (.ref x), a1, a2] [.ref x, .int s0] lay M P := e_aload_nP hx (i := 0) rfl rfl rfl
set_option maxRecDepth 20000 in
theorem g181_14 {d : Nat} {a0 a1 : Option Value} {s0 : Nat} {s1 : Int32} {x : Int32} {lay : List mShp} {M : mMem} {P : mPost} : mG (d) 181 14 [a0, a1, some (.int x)] [.ref s0, .int s1] lay M P = mG d 181 15 [a0, a1, some (.int x)] [.int x, .ref s0, .int s1] lay M P := e_iload_n (i := 2) rfl rfl rfl
set_option maxRecDepth 20000 in
theorem g181_15 {d : Nat} {a0 a1 a2 : Option Value} {s0 : Int32} {s1 : Nat} {s2 : Int32} {lay : List mShp} {M : mMem} {P : mPost} : mG (d) 181 15 [a0, a1, a2] [.int s0, .ref s1, .int s2] lay M P = mG d 181 16 [a0, a1, a2] [.int (Int32.ofInt 3), .int s0, .ref s1, .int s2] lay M P := e_iconst rfl
set_option maxRecDepth 20000 in
theorem g181_16 {d : Nat} {a0 a1 a2 : Option Value} {s0 : Int32} {s1 : Int32} {s2 : Nat} {s3 : Int32} {lay : List mShp} {M : mMem} {P : mPost} (hs : mSh lay s2 = some (13, 44)) : mG (d + 1) 181 16 [a0, a1, a2] [.int s0, .int s1, .ref s2, .int s3] lay M P = mF d 152 [.ref s2, .int s1, .int s0] lay M (fun v lay1 M1 => mG (d + 1) 181 19 [a0, a1, a2] (v.toList ++ [.int s3]) lay1 M1 P) := e_virtP2 (j := 152) (c := 10) rfl rfl rfl rfl rfl rfl hs (Nat.le_of_ble_eq_true rfl)
set_option maxRecDepth 20000 in
theorem g181_19 {d : Nat} {a0 a1 a2 : Option Value} {s0 : Int32} {s1 : Int32} {lay : List mShp} {M : mMem} {P : mPost} : mG (d) 181 19 [a0, a1, a2] [.int s0, .int s1] lay M P = if s0 = 0 then mG d 181 22 [a0, a1, a2] [.int s1] lay M P else mG d 181 36 [a0, a1, a2] [.int s1] lay M P := e_if_ne rfl rfl
set_option maxRecDepth 20000 in
theorem g181_22 {d : Nat} {a0 a1 : Option Value} {s0 : Int32} {x : Int32} {lay : List mShp} {M : mMem} {P : mPost} : mG (d) 181 22 [a0, a1, some (.int x)] [.int s0] lay M P = mG d 181 23 [a0, a1, some (.int x)] [.int x, .int s0] lay M P := e_iload_n (i := 2) rfl rfl rfl
set_option maxRecDepth 20000 in
theorem g181_23 {d : Nat} {a1 a2 : Option Value} {s0 : Int32} {s1 : Int32} {x : Nat} {lay : List mShp} {M : mMem} {P : mPost} (hx : ¬ x = 0) : mG (d) 181 23 [some (.ref x), a1, a2] [.int s0, .int s1] lay M P = mG d 181 24 [some (.ref x), a1, a2] [.ref x, .int s0, .int s1] lay M P := e_aload_nP hx (i := 0) rfl rfl rfl
set_option maxRecDepth 20000 in
theorem g181_24 {d : Nat} {a0 a1 a2 : Option Value} {s0 : Nat} {s1 : Int32} {s2 : Int32} {lay : List mShp} {M : mMem} {P : mPost} (hs : mSh lay s0 = some (13, 44)) : mG (d) 181 24 [a0, a1, a2] [.ref s0, .int s1, .int s2] lay M P = mG d 181 27 [a0, a1, a2] [.int (M.1 s0 20), .int s1, .int s2] lay M P := mG_of_and (mIsO_of hs (by decide)) (e_getI (ci := 10) (j := 20) rfl rfl rfl)
set_option maxRecDepth 20000 in
theorem g181_27 {d : Nat} {a0 a1 a2 : Option Value} {s0 : Int32} {s1 : Int32} {s2 : Int32} {lay : List mShp} {M : mMem} {P : mPost} : mG (d) 181 27 [a0, a1, a2] [.int s0, .int s1, .int s2] lay M P = if s1 = s0 then mG d 181 36 [a0, a1, a2] [.int s2] lay M P else mG d 181 30 [a0, a1, a2] [.int s2] lay M P := e_icmp_eq rfl rfl
set_option maxRecDepth 20000 in
theorem g181_30 {d : Nat} {a0 a1 a2 : Option Value} {s0 : Int32} {lay : List mShp} {M : mMem} {P : mPost} : mG (d) 181 30 [a0, a1, a2] [.int s0] lay M P = mG d 181 31 [a0, a1, a2] [.int (Int32.ofInt 1), .int s0] lay M P := e_iconst rfl
set_option maxRecDepth 20000 in
theorem g181_31 {d : Nat} {a0 a1 : Option Value} {s0 : Int32} {s1 : Int32} {x : Int32} {lay : List mShp} {M : mMem} {P : mPost} : mG (d) 181 31 [a0, a1, some (.int x)] [.int s0, .int s1] lay M P = mG d 181 32 [a0, a1, some (.int x)] [.int x, .int s0, .int s1] lay M P := e_iload_n (i := 2) rfl rfl rfl
set_option maxRecDepth 20000 in
theorem g181_32 {d : Nat} {a0 a1 a2 : Option Value} {s0 : Int32} {s1 : Int32} {s2 : Int32} {lay : List mShp} {M : mMem} {P : mPost} : mG (d) 181 32 [a0, a1, a2] [.int s0, .int s1, .int s2] lay M P = mG d 181 33 [a0, a1, a2] [.int (s1 <<< (s0 &&& 31)), .int s2] lay M P := e_ishl rfl
set_option maxRecDepth 20000 in
theorem g181_33 {d : Nat} {a0 a1 a2 : Option Value} {s0 : Int32} {s1 : Int32} {lay : List mShp} {M : mMem} {P : mPost} : mG (d) 181 33 [a0, a1, a2] [.int s0, .int s1] lay M P = mG d 181 37 [a0, a1, a2] [.int s0, .int s1] lay M P := e_goto rfl rfl
set_option maxRecDepth 20000 in
theorem g181_36 {d : Nat} {a0 a1 a2 : Option Value} {s0 : Int32} {lay : List mShp} {M : mMem} {P : mPost} : mG (d) 181 36 [a0, a1, a2] [.int s0] lay M P = mG d 181 37 [a0, a1, a2] [.int (Int32.ofInt 0), .int s0] lay M P := e_iconst rfl
set_option maxRecDepth 20000 in
theorem g181_37 {d : Nat} {a0 a1 a2 : Option Value} {s0 : Int32} {s1 : Int32} {lay : List mShp} {M : mMem} {P : mPost} : mG (d) 181 37 [a0, a1, a2] [.int s0, .int s1] lay M P = mG d 181 38 [a0, a1, a2] [.int (s1 ||| s0)] lay M P := e_ior rfl
set_option maxRecDepth 20000 in
theorem g181_38 {d : Nat} {a0 a1 a2 : Option Value} {s0 : Int32} {lay : List mShp} {M : mMem} {P : mPost} (h0 : mNoL a0 = true) : mG (d) 181 38 [a0, a1, a2] [.int s0] lay M P = mG d 181 39 [a0, some (.int s0), a2] [] lay M P := e_istore_n (i := 1) rfl rfl (by simp) (mS1_1 h0)
set_option maxRecDepth 20000 in
theorem g181_39 {d : Nat} {a0 a1 : Option Value} {x : Int32} {lay : List mShp} {M : mMem} {P : mPost} (h0 : mNoL a1 = true) : mG (d) 181 39 [a0, a1, some (.int x)] [] lay M P = mG d 181 42 [a0, a1, some (.int (x + Int32.ofInt 1))] [] lay M P := e_iinc (n := 2) rfl rfl (mS1_2 h0)
set_option maxRecDepth 20000 in
theorem g181_42 {d : Nat} {a0 a1 a2 : Option Value} {lay : List mShp} {M : mMem} {P : mPost} : mG (d) 181 42 [a0, a1, a2] [] lay M P = mG d 181 4 [a0, a1, a2] [] lay M P := e_goto rfl rfl
set_option maxRecDepth 20000 in
theorem g181_45 {d : Nat} {a0 a2 : Option Value} {x : Int32} {lay : List mShp} {M : mMem} {P : mPost} : mG (d) 181 45 [a0, some (.int x), a2] [] lay M P = mG d 181 46 [a0, some (.int x), a2] [.int x] lay M P := e_iload_n (i := 1) rfl rfl rfl
set_option maxRecDepth 20000 in
theorem g181_46 {d : Nat} {a0 a1 a2 : Option Value} {s0 : Int32} {lay : List mShp} {M : mMem} {P : mPost} : mG (d) 181 46 [a0, a1, a2] [.int s0] lay M P = P (some (.int s0)) lay M := e_ireturnI rfl rfl
-- 182 X10_stores
theorem g182_in {d : Nat} {x0 : Nat} {lay : List mShp} {M : mMem} {P : mPost} : mF d 182 [.ref x0] lay M P = mG d 182 0 [some (.ref x0), none, none] [] lay M P := mF_in rfl rfl
set_option maxRecDepth 20000 in
theorem g182_0 {d : Nat} {a0 a1 a2 : Option Value} {lay : List mShp} {M : mMem} {P : mPost} : mG (d) 182 0 [a0, a1, a2] [] lay M P = mG d 182 1 [a0, a1, a2] [.int (Int32.ofInt 0)] lay M P := e_iconst rfl
set_option maxRecDepth 20000 in
theorem g182_1 {d : Nat} {a0 a1 a2 : Option Value} {s0 : Int32} {lay : List mShp} {M : mMem} {P : mPost} (h0 : mNoL a0 = true) : mG (d) 182 1 [a0, a1, a2] [.int s0] lay M P = mG d 182 2 [a0, some (.int s0), a2] [] lay M P := e_istore_n (i := 1) rfl rfl (by simp) (mS1_1 h0)
set_option maxRecDepth 20000 in
theorem g182_2 {d : Nat} {a0 a1 a2 : Option Value} {lay : List mShp} {M : mMem} {P : mPost} : mG (d) 182 2 [a0, a1, a2] [] lay M P = mG d 182 3 [a0, a1, a2] [.int (Int32.ofInt 0)] lay M P := e_iconst rfl
set_option maxRecDepth 20000 in
theorem g182_3 {d : Nat} {a0 a1 a2 : Option Value} {s0 : Int32} {lay : List mShp} {M : mMem} {P : mPost} (h0 : mNoL a1 = true) : mG (d) 182 3 [a0, a1, a2] [.int s0] lay M P = mG d 182 4 [a0, a1, some (.int s0)] [] lay M P := e_istore_n (i := 2) rfl rfl (by simp) (mS1_2 h0)
set_option maxRecDepth 20000 in
theorem g182_4 {d : Nat} {a0 a1 : Option Value} {x : Int32} {lay : List mShp} {M : mMem} {P : mPost} : mG (d) 182 4 [a0, a1, some (.int x)] [] lay M P = mG d 182 5 [a0, a1, some (.int x)] [.int x] lay M P := e_iload_n (i := 2) rfl rfl rfl
set_option maxRecDepth 20000 in
theorem g182_5 {d : Nat} {a1 a2 : Option Value} {s0 : Int32} {x : Nat} {lay : List mShp} {M : mMem} {P : mPost} (hx : ¬ x = 0) : mG (d) 182 5 [some (.ref x), a1, a2] [.int s0] lay M P = mG d 182 6 [some (.ref x), a1, a2] [.ref x, .int s0] lay M P := e_aload_nP hx (i := 0) rfl rfl rfl
set_option maxRecDepth 20000 in
theorem g182_6 {d : Nat} {a0 a1 a2 : Option Value} {s0 : Nat} {s1 : Int32} {lay : List mShp} {M : mMem} {P : mPost} (hs : mSh lay s0 = some (13, 44)) : mG (d) 182 6 [a0, a1, a2] [.ref s0, .int s1] lay M P = mG d 182 9 [a0, a1, a2] [.int (M.1 s0 2), .int s1] lay M P := mG_of_and (mIsO_of hs (by decide)) (e_getI (ci := 10) (j := 2) rfl rfl rfl)
set_option maxRecDepth 20000 in
theorem g182_9 {d : Nat} {a0 a1 a2 : Option Value} {s0 : Int32} {s1 : Int32} {lay : List mShp} {M : mMem} {P : mPost} : mG (d) 182 9 [a0, a1, a2] [.int s0, .int s1] lay M P = if s1 < s0 then mG d 182 12 [a0, a1, a2] [] lay M P else mG d 182 27 [a0, a1, a2] [] lay M P := e_icmp_ge rfl rfl
set_option maxRecDepth 20000 in
theorem g182_12 {d : Nat} {a0 a2 : Option Value} {x : Int32} {lay : List mShp} {M : mMem} {P : mPost} : mG (d) 182 12 [a0, some (.int x), a2] [] lay M P = mG d 182 13 [a0, some (.int x), a2] [.int x] lay M P := e_iload_n (i := 1) rfl rfl rfl
set_option maxRecDepth 20000 in
theorem g182_13 {d : Nat} {a1 a2 : Option Value} {s0 : Int32} {x : Nat} {lay : List mShp} {M : mMem} {P : mPost} (hx : ¬ x = 0) : mG (d) 182 13 [some (.ref x), a1, a2] [.int s0] lay M P = mG d 182 14 [some (.ref x), a1, a2] [.ref x, .int s0] lay M P := e_aload_nP hx (i := 0) rfl rfl rfl
set_option maxRecDepth 20000 in
theorem g182_14 {d : Nat} {a0 a1 : Option Value} {s0 : Nat} {s1 : Int32} {x : Int32} {lay : List mShp} {M : mMem} {P : mPost} : mG (d) 182 14 [a0, a1, some (.int x)] [.ref s0, .int s1] lay M P = mG d 182 15 [a0, a1, some (.int x)] [.int x, .ref s0, .int s1] lay M P := e_iload_n (i := 2) rfl rfl rfl
set_option maxRecDepth 20000 in
theorem g182_15 {d : Nat} {a0 a1 a2 : Option Value} {s0 : Int32} {s1 : Nat} {s2 : Int32} {lay : List mShp} {M : mMem} {P : mPost} : mG (d) 182 15 [a0, a1, a2] [.int s0, .ref s1, .int s2] lay M P = mG d 182 16 [a0, a1, a2] [.int (Int32.ofInt 3), .int s0, .ref s1, .int s2] lay M P := e_iconst rfl
set_option maxRecDepth 20000 in
theorem g182_16 {d : Nat} {a0 a1 a2 : Option Value} {s0 : Int32} {s1 : Int32} {s2 : Nat} {s3 : Int32} {lay : List mShp} {M : mMem} {P : mPost} (hs : mSh lay s2 = some (13, 44)) : mG (d + 1) 182 16 [a0, a1, a2] [.int s0, .int s1, .ref s2, .int s3] lay M P = mF d 152 [.ref s2, .int s1, .int s0] lay M (fun v lay1 M1 => mG (d + 1) 182 19 [a0, a1, a2] (v.toList ++ [.int s3]) lay1 M1 P) := e_virtP2 (j := 152) (c := 10) rfl rfl rfl rfl rfl rfl hs (Nat.le_of_ble_eq_true rfl)
set_option maxRecDepth 20000 in
theorem g182_19 {d : Nat} {a0 a1 a2 : Option Value} {s0 : Int32} {s1 : Int32} {lay : List mShp} {M : mMem} {P : mPost} : mG (d) 182 19 [a0, a1, a2] [.int s0, .int s1] lay M P = mG d 182 20 [a0, a1, a2] [.int (s1 + s0)] lay M P := e_iadd rfl
set_option maxRecDepth 20000 in
theorem g182_20 {d : Nat} {a0 a1 a2 : Option Value} {s0 : Int32} {lay : List mShp} {M : mMem} {P : mPost} (h0 : mNoL a0 = true) : mG (d) 182 20 [a0, a1, a2] [.int s0] lay M P = mG d 182 21 [a0, some (.int s0), a2] [] lay M P := e_istore_n (i := 1) rfl rfl (by simp) (mS1_1 h0)
set_option maxRecDepth 20000 in
theorem g182_21 {d : Nat} {a0 a1 : Option Value} {x : Int32} {lay : List mShp} {M : mMem} {P : mPost} (h0 : mNoL a1 = true) : mG (d) 182 21 [a0, a1, some (.int x)] [] lay M P = mG d 182 24 [a0, a1, some (.int (x + Int32.ofInt 1))] [] lay M P := e_iinc (n := 2) rfl rfl (mS1_2 h0)
set_option maxRecDepth 20000 in
theorem g182_24 {d : Nat} {a0 a1 a2 : Option Value} {lay : List mShp} {M : mMem} {P : mPost} : mG (d) 182 24 [a0, a1, a2] [] lay M P = mG d 182 4 [a0, a1, a2] [] lay M P := e_goto rfl rfl
set_option maxRecDepth 20000 in
theorem g182_27 {d : Nat} {a0 a2 : Option Value} {x : Int32} {lay : List mShp} {M : mMem} {P : mPost} : mG (d) 182 27 [a0, some (.int x), a2] [] lay M P = mG d 182 28 [a0, some (.int x), a2] [.int x] lay M P := e_iload_n (i := 1) rfl rfl rfl
set_option maxRecDepth 20000 in
theorem g182_28 {d : Nat} {a0 a1 a2 : Option Value} {s0 : Int32} {lay : List mShp} {M : mMem} {P : mPost} : mG (d) 182 28 [a0, a1, a2] [.int s0] lay M P = P (some (.int s0)) lay M := e_ireturnI rfl rfl
-- 183 X10_later
theorem g183_in {d : Nat} {x0 : Nat} {x1 : Int32} {x2 : Int32} {lay : List mShp} {M : mMem} {P : mPost} : mF d 183 [.ref x0, .int x1, .int x2] lay M P = mG d 183 0 [some (.ref x0), some (.int x1), some (.int x2), none] [] lay M P := mF_in rfl rfl
set_option maxRecDepth 20000 in
theorem g183_0 {d : Nat} {a0 a2 a3 : Option Value} {x : Int32} {lay : List mShp} {M : mMem} {P : mPost} : mG (d) 183 0 [a0, some (.int x), a2, a3] [] lay M P = mG d 183 1 [a0, some (.int x), a2, a3] [.int x] lay M P := e_iload_n (i := 1) rfl rfl rfl
set_option maxRecDepth 20000 in
theorem g183_1 {d : Nat} {a0 a1 a2 a3 : Option Value} {s0 : Int32} {lay : List mShp} {M : mMem} {P : mPost} : mG (d) 183 1 [a0, a1, a2, a3] [.int s0] lay M P = mG d 183 2 [a0, a1, a2, a3] [.int (Int32.ofInt 0), .int s0] lay M P := e_iconst rfl
set_option maxRecDepth 20000 in
theorem g183_2 {d : Nat} {a0 a1 a2 a3 : Option Value} {s0 : Int32} {s1 : Int32} {lay : List mShp} {M : mMem} {P : mPost} : mG (d) 183 2 [a0, a1, a2, a3] [.int s0, .int s1] lay M P = mG d 183 4 [a0, a1, a2, a3] [.int (Int32.ofInt 40), .int s0, .int s1] lay M P := e_bipush rfl
set_option maxRecDepth 20000 in
theorem g183_4 {d : Nat} {a0 a1 a2 a3 : Option Value} {s0 : Int32} {s1 : Int32} {s2 : Int32} {lay : List mShp} {M : mMem} {P : mPost} : mG (d + 1) 183 4 [a0, a1, a2, a3] [.int s0, .int s1, .int s2] lay M P = mF d 146 [.int s2, .int s1, .int s0] lay M (fun v lay1 M1 => mG (d + 1) 183 7 [a0, a1, a2, a3] (v.toList ++ []) lay1 M1 P) := e_static3 (j := 146) rfl rfl rfl rfl rfl (Nat.le_of_ble_eq_true rfl)
set_option maxRecDepth 20000 in
theorem g183_7 {d : Nat} {a0 a1 a2 a3 : Option Value} {s0 : Int32} {lay : List mShp} {M : mMem} {P : mPost} : mG (d) 183 7 [a0, a1, a2, a3] [.int s0] lay M P = if s0 = 0 then mG d 183 23 [a0, a1, a2, a3] [] lay M P else mG d 183 10 [a0, a1, a2, a3] [] lay M P := e_if_eq rfl rfl
set_option maxRecDepth 20000 in
theorem g183_10 {d : Nat} {a0 a1 a3 : Option Value} {x : Int32} {lay : List mShp} {M : mMem} {P : mPost} : mG (d) 183 10 [a0, a1, some (.int x), a3] [] lay M P = mG d 183 11 [a0, a1, some (.int x), a3] [.int x] lay M P := e_iload_n (i := 2) rfl rfl rfl
set_option maxRecDepth 20000 in
theorem g183_11 {d : Nat} {a0 a1 a2 a3 : Option Value} {s0 : Int32} {lay : List mShp} {M : mMem} {P : mPost} : mG (d) 183 11 [a0, a1, a2, a3] [.int s0] lay M P = mG d 183 12 [a0, a1, a2, a3] [.int (Int32.ofInt (-1)), .int s0] lay M P := e_iconst rfl
set_option maxRecDepth 20000 in
theorem g183_12 {d : Nat} {a0 a1 a2 a3 : Option Value} {s0 : Int32} {s1 : Int32} {lay : List mShp} {M : mMem} {P : mPost} : mG (d) 183 12 [a0, a1, a2, a3] [.int s0, .int s1] lay M P = if s1 = s0 then mG d 183 25 [a0, a1, a2, a3] [] lay M P else mG d 183 15 [a0, a1, a2, a3] [] lay M P := e_icmp_eq rfl rfl
set_option maxRecDepth 20000 in
theorem g183_15 {d : Nat} {a1 a2 a3 : Option Value} {x : Nat} {lay : List mShp} {M : mMem} {P : mPost} (hx : ¬ x = 0) : mG (d) 183 15 [some (.ref x), a1, a2, a3] [] lay M P = mG d 183 16 [some (.ref x), a1, a2, a3] [.ref x] lay M P := e_aload_nP hx (i := 0) rfl rfl rfl
set_option maxRecDepth 20000 in
theorem g183_16 {d : Nat} {a0 a1 a3 : Option Value} {s0 : Nat} {x : Int32} {lay : List mShp} {M : mMem} {P : mPost} : mG (d) 183 16 [a0, a1, some (.int x), a3] [.ref s0] lay M P = mG d 183 17 [a0, a1, some (.int x), a3] [.int x, .ref s0] lay M P := e_iload_n (i := 2) rfl rfl rfl
set_option maxRecDepth 20000 in
theorem g183_17 {d : Nat} {a0 a1 a2 a3 : Option Value} {s0 : Int32} {s1 : Nat} {lay : List mShp} {M : mMem} {P : mPost} (hs : mSh lay s1 = some (13, 44)) : mG (d + 1) 183 17 [a0, a1, a2, a3] [.int s0, .ref s1] lay M P = mF d 151 [.ref s1, .int s0] lay M (fun v lay1 M1 => mG (d + 1) 183 20 [a0, a1, a2, a3] (v.toList ++ []) lay1 M1 P) := e_virtP1 (j := 151) (c := 10) rfl rfl rfl rfl rfl rfl hs (Nat.le_of_ble_eq_true rfl)
set_option maxRecDepth 20000 in
theorem g183_20 {d : Nat} {a0 a1 a2 a3 : Option Value} {s0 : Int32} {lay : List mShp} {M : mMem} {P : mPost} : mG (d) 183 20 [a0, a1, a2, a3] [.int s0] lay M P = if s0 = 0 then mG d 183 23 [a0, a1, a2, a3] [] lay M P else mG d 183 25 [a0, a1, a2, a3] [] lay M P := e_if_ne rfl rfl
set_option maxRecDepth 20000 in
theorem g183_23 {d : Nat} {a0 a1 a2 a3 : Option Value} {lay : List mShp} {M : mMem} {P : mPost} : mG (d) 183 23 [a0, a1, a2, a3] [] lay M P = mG d 183 24 [a0, a1, a2, a3] [.int (Int32.ofInt (-1))] lay M P := e_iconst rfl
set_option maxRecDepth 20000 in
theorem g183_24 {d : Nat} {a0 a1 a2 a3 : Option Value} {s0 : Int32} {lay : List mShp} {M : mMem} {P : mPost} : mG (d) 183 24 [a0, a1, a2, a3] [.int s0] lay M P = P (some (.int s0)) lay M := e_ireturnI rfl rfl
set_option maxRecDepth 20000 in
theorem g183_25 {d : Nat} {a1 a2 a3 : Option Value} {x : Nat} {lay : List mShp} {M : mMem} {P : mPost} (hx : ¬ x = 0) : mG (d) 183 25 [some (.ref x), a1, a2, a3] [] lay M P = mG d 183 26 [some (.ref x), a1, a2, a3] [.ref x] lay M P := e_aload_nP hx (i := 0) rfl rfl rfl
set_option maxRecDepth 20000 in
theorem g183_26 {d : Nat} {a0 a1 a2 a3 : Option Value} {s0 : Nat} {lay : List mShp} {M : mMem} {P : mPost} : mG (d) 183 26 [a0, a1, a2, a3] [.ref s0] lay M P = mG d 183 27 [a0, a1, a2, a3] [.int (Int32.ofInt 0), .ref s0] lay M P := e_iconst rfl
set_option maxRecDepth 20000 in
theorem g183_27 {d : Nat} {a0 a1 a2 a3 : Option Value} {s0 : Int32} {s1 : Nat} {lay : List mShp} {M : mMem} {P : mPost} (hs : mSh lay s1 = some (13, 44)) : mG (d + 1) 183 27 [a0, a1, a2, a3] [.int s0, .ref s1] lay M P = mF d 149 [.ref s1, .int s0] lay M (fun v lay1 M1 => mG (d + 1) 183 30 [a0, a1, a2, a3] (v.toList ++ []) lay1 M1 P) := e_virtP1 (j := 149) (c := 10) rfl rfl rfl rfl rfl rfl hs (Nat.le_of_ble_eq_true rfl)
set_option maxRecDepth 20000 in
theorem g183_30 {d : Nat} {a1 a2 a3 : Option Value} {x : Nat} {lay : List mShp} {M : mMem} {P : mPost} (hx : ¬ x = 0) : mG (d) 183 30 [some (.ref x), a1, a2, a3] [] lay M P = mG d 183 31 [some (.ref x), a1, a2, a3] [.ref x] lay M P := e_aload_nP hx (i := 0) rfl rfl rfl
set_option maxRecDepth 20000 in
theorem g183_31 {d : Nat} {a0 a2 a3 : Option Value} {s0 : Nat} {x : Int32} {lay : List mShp} {M : mMem} {P : mPost} : mG (d) 183 31 [a0, some (.int x), a2, a3] [.ref s0] lay M P = mG d 183 32 [a0, some (.int x), a2, a3] [.int x, .ref s0] lay M P := e_iload_n (i := 1) rfl rfl rfl
set_option maxRecDepth 20000 in
theorem g183_32 {d : Nat} {a0 a1 a2 a3 : Option Value} {s0 : Int32} {s1 : Nat} {lay : List mShp} {M : mMem} {P : mPost} (hs : mSh lay s1 = some (13, 44)) : mG (d + 1) 183 32 [a0, a1, a2, a3] [.int s0, .ref s1] lay M P = mF d 180 [.ref s1, .int s0] lay M (fun v lay1 M1 => mG (d + 1) 183 35 [a0, a1, a2, a3] (v.toList ++ []) lay1 M1 P) := e_virtP1 (j := 180) (c := 10) rfl rfl rfl rfl rfl rfl hs (Nat.le_of_ble_eq_true rfl)
set_option maxRecDepth 20000 in
theorem g183_35 {d : Nat} {a0 a1 a3 : Option Value} {x : Int32} {lay : List mShp} {M : mMem} {P : mPost} : mG (d) 183 35 [a0, a1, some (.int x), a3] [] lay M P = mG d 183 36 [a0, a1, some (.int x), a3] [.int x] lay M P := e_iload_n (i := 2) rfl rfl rfl
set_option maxRecDepth 20000 in
theorem g183_36 {d : Nat} {a0 a1 a2 a3 : Option Value} {s0 : Int32} {lay : List mShp} {M : mMem} {P : mPost} : mG (d) 183 36 [a0, a1, a2, a3] [.int s0] lay M P = mG d 183 37 [a0, a1, a2, a3] [.int (Int32.ofInt (-1)), .int s0] lay M P := e_iconst rfl
set_option maxRecDepth 20000 in
theorem g183_37 {d : Nat} {a0 a1 a2 a3 : Option Value} {s0 : Int32} {s1 : Int32} {lay : List mShp} {M : mMem} {P : mPost} : mG (d) 183 37 [a0, a1, a2, a3] [.int s0, .int s1] lay M P = if s1 = s0 then mG d 183 40 [a0, a1, a2, a3] [] lay M P else mG d 183 47 [a0, a1, a2, a3] [] lay M P := e_icmp_ne rfl rfl
set_option maxRecDepth 20000 in
theorem g183_40 {d : Nat} {a1 a2 a3 : Option Value} {x : Nat} {lay : List mShp} {M : mMem} {P : mPost} (hx : ¬ x = 0) : mG (d) 183 40 [some (.ref x), a1, a2, a3] [] lay M P = mG d 183 41 [some (.ref x), a1, a2, a3] [.ref x] lay M P := e_aload_nP hx (i := 0) rfl rfl rfl
set_option maxRecDepth 20000 in
theorem g183_41 {d : Nat} {a0 a1 a2 a3 : Option Value} {s0 : Nat} {lay : List mShp} {M : mMem} {P : mPost} (hs : mSh lay s0 = some (13, 44)) : mG (d + 1) 183 41 [a0, a1, a2, a3] [.ref s0] lay M P = mF d 182 [.ref s0] lay M (fun v lay1 M1 => mG (d + 1) 183 44 [a0, a1, a2, a3] (v.toList ++ []) lay1 M1 P) := e_virtP0 (j := 182) (c := 10) rfl rfl rfl rfl rfl rfl hs (Nat.le_of_ble_eq_true rfl)
set_option maxRecDepth 20000 in
theorem g183_44 {d : Nat} {a0 a1 a2 a3 : Option Value} {s0 : Int32} {lay : List mShp} {M : mMem} {P : mPost} : mG (d) 183 44 [a0, a1, a2, a3] [.int s0] lay M P = mG d 183 53 [a0, a1, a2, a3] [.int s0] lay M P := e_goto rfl rfl
set_option maxRecDepth 20000 in
theorem g183_47 {d : Nat} {a1 a2 a3 : Option Value} {x : Nat} {lay : List mShp} {M : mMem} {P : mPost} (hx : ¬ x = 0) : mG (d) 183 47 [some (.ref x), a1, a2, a3] [] lay M P = mG d 183 48 [some (.ref x), a1, a2, a3] [.ref x] lay M P := e_aload_nP hx (i := 0) rfl rfl rfl
set_option maxRecDepth 20000 in
theorem g183_48 {d : Nat} {a0 a1 a3 : Option Value} {s0 : Nat} {x : Int32} {lay : List mShp} {M : mMem} {P : mPost} : mG (d) 183 48 [a0, a1, some (.int x), a3] [.ref s0] lay M P = mG d 183 49 [a0, a1, some (.int x), a3] [.int x, .ref s0] lay M P := e_iload_n (i := 2) rfl rfl rfl
set_option maxRecDepth 20000 in
theorem g183_49 {d : Nat} {a0 a1 a2 a3 : Option Value} {s0 : Int32} {s1 : Nat} {lay : List mShp} {M : mMem} {P : mPost} : mG (d) 183 49 [a0, a1, a2, a3] [.int s0, .ref s1] lay M P = mG d 183 50 [a0, a1, a2, a3] [.int (Int32.ofInt 3), .int s0, .ref s1] lay M P := e_iconst rfl
set_option maxRecDepth 20000 in
theorem g183_50 {d : Nat} {a0 a1 a2 a3 : Option Value} {s0 : Int32} {s1 : Int32} {s2 : Nat} {lay : List mShp} {M : mMem} {P : mPost} (hs : mSh lay s2 = some (13, 44)) : mG (d + 1) 183 50 [a0, a1, a2, a3] [.int s0, .int s1, .ref s2] lay M P = mF d 152 [.ref s2, .int s1, .int s0] lay M (fun v lay1 M1 => mG (d + 1) 183 53 [a0, a1, a2, a3] (v.toList ++ []) lay1 M1 P) := e_virtP2 (j := 152) (c := 10) rfl rfl rfl rfl rfl rfl hs (Nat.le_of_ble_eq_true rfl)
set_option maxRecDepth 20000 in
theorem g183_53 {d : Nat} {a0 a1 a2 a3 : Option Value} {s0 : Int32} {lay : List mShp} {M : mMem} {P : mPost} (h0 : mNoL a2 = true) : mG (d) 183 53 [a0, a1, a2, a3] [.int s0] lay M P = mG d 183 54 [a0, a1, a2, some (.int s0)] [] lay M P := e_istore_n (i := 3) rfl rfl (by simp) (mS1_3 h0)
set_option maxRecDepth 20000 in
theorem g183_54 {d : Nat} {a1 a2 a3 : Option Value} {x : Nat} {lay : List mShp} {M : mMem} {P : mPost} (hx : ¬ x = 0) : mG (d) 183 54 [some (.ref x), a1, a2, a3] [] lay M P = mG d 183 55 [some (.ref x), a1, a2, a3] [.ref x] lay M P := e_aload_nP hx (i := 0) rfl rfl rfl
set_option maxRecDepth 20000 in
theorem g183_55 {d : Nat} {a0 a1 a2 a3 : Option Value} {s0 : Nat} {lay : List mShp} {M : mMem} {P : mPost} : mG (d) 183 55 [a0, a1, a2, a3] [.ref s0] lay M P = mG d 183 56 [a0, a1, a2, a3] [.int (Int32.ofInt 0), .ref s0] lay M P := e_iconst rfl
set_option maxRecDepth 20000 in
theorem g183_56 {d : Nat} {a0 a1 a2 a3 : Option Value} {s0 : Int32} {s1 : Nat} {lay : List mShp} {M : mMem} {P : mPost} (hs : mSh lay s1 = some (13, 44)) : mG (d + 1) 183 56 [a0, a1, a2, a3] [.int s0, .ref s1] lay M P = mF d 150 [.ref s1, .int s0] lay M (fun v lay1 M1 => mG (d + 1) 183 59 [a0, a1, a2, a3] (v.toList ++ []) lay1 M1 P) := e_virtP1 (j := 150) (c := 10) rfl rfl rfl rfl rfl rfl hs (Nat.le_of_ble_eq_true rfl)
set_option maxRecDepth 20000 in
theorem g183_59 {d : Nat} {a0 a1 a2 : Option Value} {x : Int32} {lay : List mShp} {M : mMem} {P : mPost} : mG (d) 183 59 [a0, a1, a2, some (.int x)] [] lay M P = mG d 183 60 [a0, a1, a2, some (.int x)] [.int x] lay M P := e_iload_n (i := 3) rfl rfl rfl
set_option maxRecDepth 20000 in
theorem g183_60 {d : Nat} {a0 a1 a2 a3 : Option Value} {s0 : Int32} {lay : List mShp} {M : mMem} {P : mPost} : mG (d) 183 60 [a0, a1, a2, a3] [.int s0] lay M P = P (some (.int s0)) lay M := e_ireturnI rfl rfl
-- 184 X10_lacking
theorem g184_in {d : Nat} {x0 : Nat} {x1 : Int32} {lay : List mShp} {M : mMem} {P : mPost} : mF d 184 [.ref x0, .int x1] lay M P = mG d 184 0 [some (.ref x0), some (.int x1), none] [] lay M P := mF_in rfl rfl
set_option maxRecDepth 20000 in
theorem g184_0 {d : Nat} {a0 a2 : Option Value} {x : Int32} {lay : List mShp} {M : mMem} {P : mPost} : mG (d) 184 0 [a0, some (.int x), a2] [] lay M P = mG d 184 1 [a0, some (.int x), a2] [.int x] lay M P := e_iload_n (i := 1) rfl rfl rfl
set_option maxRecDepth 20000 in
theorem g184_1 {d : Nat} {a0 a1 a2 : Option Value} {s0 : Int32} {lay : List mShp} {M : mMem} {P : mPost} : mG (d) 184 1 [a0, a1, a2] [.int s0] lay M P = mG d 184 2 [a0, a1, a2] [.int (Int32.ofInt 0), .int s0] lay M P := e_iconst rfl
set_option maxRecDepth 20000 in
theorem g184_2 {d : Nat} {a0 a1 a2 : Option Value} {s0 : Int32} {s1 : Int32} {lay : List mShp} {M : mMem} {P : mPost} : mG (d) 184 2 [a0, a1, a2] [.int s0, .int s1] lay M P = mG d 184 4 [a0, a1, a2] [.int (Int32.ofInt 40), .int s0, .int s1] lay M P := e_bipush rfl
set_option maxRecDepth 20000 in
theorem g184_4 {d : Nat} {a0 a1 a2 : Option Value} {s0 : Int32} {s1 : Int32} {s2 : Int32} {lay : List mShp} {M : mMem} {P : mPost} : mG (d + 1) 184 4 [a0, a1, a2] [.int s0, .int s1, .int s2] lay M P = mF d 146 [.int s2, .int s1, .int s0] lay M (fun v lay1 M1 => mG (d + 1) 184 7 [a0, a1, a2] (v.toList ++ []) lay1 M1 P) := e_static3 (j := 146) rfl rfl rfl rfl rfl (Nat.le_of_ble_eq_true rfl)
set_option maxRecDepth 20000 in
theorem g184_7 {d : Nat} {a0 a1 a2 : Option Value} {s0 : Int32} {lay : List mShp} {M : mMem} {P : mPost} : mG (d) 184 7 [a0, a1, a2] [.int s0] lay M P = if s0 = 0 then mG d 184 10 [a0, a1, a2] [] lay M P else mG d 184 12 [a0, a1, a2] [] lay M P := e_if_ne rfl rfl
set_option maxRecDepth 20000 in
theorem g184_10 {d : Nat} {a0 a1 a2 : Option Value} {lay : List mShp} {M : mMem} {P : mPost} : mG (d) 184 10 [a0, a1, a2] [] lay M P = mG d 184 11 [a0, a1, a2] [.int (Int32.ofInt (-1))] lay M P := e_iconst rfl
set_option maxRecDepth 20000 in
theorem g184_11 {d : Nat} {a0 a1 a2 : Option Value} {s0 : Int32} {lay : List mShp} {M : mMem} {P : mPost} : mG (d) 184 11 [a0, a1, a2] [.int s0] lay M P = P (some (.int s0)) lay M := e_ireturnI rfl rfl
set_option maxRecDepth 20000 in
theorem g184_12 {d : Nat} {a1 a2 : Option Value} {x : Nat} {lay : List mShp} {M : mMem} {P : mPost} (hx : ¬ x = 0) : mG (d) 184 12 [some (.ref x), a1, a2] [] lay M P = mG d 184 13 [some (.ref x), a1, a2] [.ref x] lay M P := e_aload_nP hx (i := 0) rfl rfl rfl
set_option maxRecDepth 20000 in
theorem g184_13 {d : Nat} {a0 a1 a2 : Option Value} {s0 : Nat} {lay : List mShp} {M : mMem} {P : mPost} : mG (d) 184 13 [a0, a1, a2] [.ref s0] lay M P = mG d 184 14 [a0, a1, a2] [.int (Int32.ofInt 0), .ref s0] lay M P := e_iconst rfl
set_option maxRecDepth 20000 in
theorem g184_14 {d : Nat} {a0 a1 a2 : Option Value} {s0 : Int32} {s1 : Nat} {lay : List mShp} {M : mMem} {P : mPost} (hs : mSh lay s1 = some (13, 44)) : mG (d + 1) 184 14 [a0, a1, a2] [.int s0, .ref s1] lay M P = mF d 149 [.ref s1, .int s0] lay M (fun v lay1 M1 => mG (d + 1) 184 17 [a0, a1, a2] (v.toList ++ []) lay1 M1 P) := e_virtP1 (j := 149) (c := 10) rfl rfl rfl rfl rfl rfl hs (Nat.le_of_ble_eq_true rfl)
set_option maxRecDepth 20000 in
theorem g184_17 {d : Nat} {a1 a2 : Option Value} {x : Nat} {lay : List mShp} {M : mMem} {P : mPost} (hx : ¬ x = 0) : mG (d) 184 17 [some (.ref x), a1, a2] [] lay M P = mG d 184 18 [some (.ref x), a1, a2] [.ref x] lay M P := e_aload_nP hx (i := 0) rfl rfl rfl
set_option maxRecDepth 20000 in
theorem g184_18 {d : Nat} {a0 a2 : Option Value} {s0 : Nat} {x : Int32} {lay : List mShp} {M : mMem} {P : mPost} : mG (d) 184 18 [a0, some (.int x), a2] [.ref s0] lay M P = mG d 184 19 [a0, some (.int x), a2] [.int x, .ref s0] lay M P := e_iload_n (i := 1) rfl rfl rfl
set_option maxRecDepth 20000 in
theorem g184_19 {d : Nat} {a0 a1 a2 : Option Value} {s0 : Int32} {s1 : Nat} {lay : List mShp} {M : mMem} {P : mPost} (hs : mSh lay s1 = some (13, 44)) : mG (d + 1) 184 19 [a0, a1, a2] [.int s0, .ref s1] lay M P = mF d 180 [.ref s1, .int s0] lay M (fun v lay1 M1 => mG (d + 1) 184 22 [a0, a1, a2] (v.toList ++ []) lay1 M1 P) := e_virtP1 (j := 180) (c := 10) rfl rfl rfl rfl rfl rfl hs (Nat.le_of_ble_eq_true rfl)
set_option maxRecDepth 20000 in
theorem g184_22 {d : Nat} {a1 a2 : Option Value} {x : Nat} {lay : List mShp} {M : mMem} {P : mPost} (hx : ¬ x = 0) : mG (d) 184 22 [some (.ref x), a1, a2] [] lay M P = mG d 184 23 [some (.ref x), a1, a2] [.ref x] lay M P := e_aload_nP hx (i := 0) rfl rfl rfl
set_option maxRecDepth 20000 in
theorem g184_23 {d : Nat} {a0 a1 a2 : Option Value} {s0 : Nat} {lay : List mShp} {M : mMem} {P : mPost} (hs : mSh lay s0 = some (13, 44)) : mG (d + 1) 184 23 [a0, a1, a2] [.ref s0] lay M P = mF d 181 [.ref s0] lay M (fun v lay1 M1 => mG (d + 1) 184 26 [a0, a1, a2] (v.toList ++ []) lay1 M1 P) := e_virtP0 (j := 181) (c := 10) rfl rfl rfl rfl rfl rfl hs (Nat.le_of_ble_eq_true rfl)
set_option maxRecDepth 20000 in
theorem g184_26 {d : Nat} {a0 a1 a2 : Option Value} {s0 : Int32} {lay : List mShp} {M : mMem} {P : mPost} (h0 : mNoL a1 = true) : mG (d) 184 26 [a0, a1, a2] [.int s0] lay M P = mG d 184 27 [a0, a1, some (.int s0)] [] lay M P := e_istore_n (i := 2) rfl rfl (by simp) (mS1_2 h0)
set_option maxRecDepth 20000 in
theorem g184_27 {d : Nat} {a1 a2 : Option Value} {x : Nat} {lay : List mShp} {M : mMem} {P : mPost} (hx : ¬ x = 0) : mG (d) 184 27 [some (.ref x), a1, a2] [] lay M P = mG d 184 28 [some (.ref x), a1, a2] [.ref x] lay M P := e_aload_nP hx (i := 0) rfl rfl rfl
set_option maxRecDepth 20000 in
theorem g184_28 {d : Nat} {a0 a1 a2 : Option Value} {s0 : Nat} {lay : List mShp} {M : mMem} {P : mPost} : mG (d) 184 28 [a0, a1, a2] [.ref s0] lay M P = mG d 184 29 [a0, a1, a2] [.int (Int32.ofInt 0), .ref s0] lay M P := e_iconst rfl
set_option maxRecDepth 20000 in
theorem g184_29 {d : Nat} {a0 a1 a2 : Option Value} {s0 : Int32} {s1 : Nat} {lay : List mShp} {M : mMem} {P : mPost} (hs : mSh lay s1 = some (13, 44)) : mG (d + 1) 184 29 [a0, a1, a2] [.int s0, .ref s1] lay M P = mF d 150 [.ref s1, .int s0] lay M (fun v lay1 M1 => mG (d + 1) 184 32 [a0, a1, a2] (v.toList ++ []) lay1 M1 P) := e_virtP1 (j := 150) (c := 10) rfl rfl rfl rfl rfl rfl hs (Nat.le_of_ble_eq_true rfl)
set_option maxRecDepth 20000 in
theorem g184_32 {d : Nat} {a0 a1 : Option Value} {x : Int32} {lay : List mShp} {M : mMem} {P : mPost} : mG (d) 184 32 [a0, a1, some (.int x)] [] lay M P = mG d 184 33 [a0, a1, some (.int x)] [.int x] lay M P := e_iload_n (i := 2) rfl rfl rfl
set_option maxRecDepth 20000 in
theorem g184_33 {d : Nat} {a0 a1 a2 : Option Value} {s0 : Int32} {lay : List mShp} {M : mMem} {P : mPost} : mG (d) 184 33 [a0, a1, a2] [.int s0] lay M P = P (some (.int s0)) lay M := e_ireturnI rfl rfl
-- 185 X10_first
theorem g185_in {d : Nat} {x0 : Nat} {x1 : Int32} {lay : List mShp} {M : mMem} {P : mPost} : mF d 185 [.ref x0, .int x1] lay M P = mG d 185 0 [some (.ref x0), some (.int x1), none, none, none] [] lay M P := mF_in rfl rfl
set_option maxRecDepth 20000 in
theorem g185_0 {d : Nat} {a0 a2 a3 a4 : Option Value} {x : Int32} {lay : List mShp} {M : mMem} {P : mPost} : mG (d) 185 0 [a0, some (.int x), a2, a3, a4] [] lay M P = mG d 185 1 [a0, some (.int x), a2, a3, a4] [.int x] lay M P := e_iload_n (i := 1) rfl rfl rfl
set_option maxRecDepth 20000 in
theorem g185_1 {d : Nat} {a0 a1 a2 a3 a4 : Option Value} {s0 : Int32} {lay : List mShp} {M : mMem} {P : mPost} : mG (d) 185 1 [a0, a1, a2, a3, a4] [.int s0] lay M P = mG d 185 2 [a0, a1, a2, a3, a4] [.int (Int32.ofInt (-1)), .int s0] lay M P := e_iconst rfl
set_option maxRecDepth 20000 in
theorem g185_2 {d : Nat} {a0 a1 a2 a3 a4 : Option Value} {s0 : Int32} {s1 : Int32} {lay : List mShp} {M : mMem} {P : mPost} : mG (d) 185 2 [a0, a1, a2, a3, a4] [.int s0, .int s1] lay M P = if s1 = s0 then mG d 185 15 [a0, a1, a2, a3, a4] [] lay M P else mG d 185 5 [a0, a1, a2, a3, a4] [] lay M P := e_icmp_eq rfl rfl
set_option maxRecDepth 20000 in
theorem g185_5 {d : Nat} {a1 a2 a3 a4 : Option Value} {x : Nat} {lay : List mShp} {M : mMem} {P : mPost} (hx : ¬ x = 0) : mG (d) 185 5 [some (.ref x), a1, a2, a3, a4] [] lay M P = mG d 185 6 [some (.ref x), a1, a2, a3, a4] [.ref x] lay M P := e_aload_nP hx (i := 0) rfl rfl rfl
set_option maxRecDepth 20000 in
theorem g185_6 {d : Nat} {a0 a2 a3 a4 : Option Value} {s0 : Nat} {x : Int32} {lay : List mShp} {M : mMem} {P : mPost} : mG (d) 185 6 [a0, some (.int x), a2, a3, a4] [.ref s0] lay M P = mG d 185 7 [a0, some (.int x), a2, a3, a4] [.int x, .ref s0] lay M P := e_iload_n (i := 1) rfl rfl rfl
set_option maxRecDepth 20000 in
theorem g185_7 {d : Nat} {a0 a1 a2 a3 a4 : Option Value} {s0 : Int32} {s1 : Nat} {lay : List mShp} {M : mMem} {P : mPost} (hs : mSh lay s1 = some (13, 44)) : mG (d + 1) 185 7 [a0, a1, a2, a3, a4] [.int s0, .ref s1] lay M P = mF d 151 [.ref s1, .int s0] lay M (fun v lay1 M1 => mG (d + 1) 185 10 [a0, a1, a2, a3, a4] (v.toList ++ []) lay1 M1 P) := e_virtP1 (j := 151) (c := 10) rfl rfl rfl rfl rfl rfl hs (Nat.le_of_ble_eq_true rfl)
set_option maxRecDepth 20000 in
theorem g185_10 {d : Nat} {a0 a1 a2 a3 a4 : Option Value} {s0 : Int32} {lay : List mShp} {M : mMem} {P : mPost} : mG (d) 185 10 [a0, a1, a2, a3, a4] [.int s0] lay M P = if s0 = 0 then mG d 185 13 [a0, a1, a2, a3, a4] [] lay M P else mG d 185 15 [a0, a1, a2, a3, a4] [] lay M P := e_if_ne rfl rfl
set_option maxRecDepth 20000 in
theorem g185_13 {d : Nat} {a0 a1 a2 a3 a4 : Option Value} {lay : List mShp} {M : mMem} {P : mPost} : mG (d) 185 13 [a0, a1, a2, a3, a4] [] lay M P = mG d 185 14 [a0, a1, a2, a3, a4] [.int (Int32.ofInt (-1))] lay M P := e_iconst rfl
set_option maxRecDepth 20000 in
theorem g185_14 {d : Nat} {a0 a1 a2 a3 a4 : Option Value} {s0 : Int32} {lay : List mShp} {M : mMem} {P : mPost} : mG (d) 185 14 [a0, a1, a2, a3, a4] [.int s0] lay M P = P (some (.int s0)) lay M := e_ireturnI rfl rfl
set_option maxRecDepth 20000 in
theorem g185_15 {d : Nat} {a1 a2 a3 a4 : Option Value} {x : Nat} {lay : List mShp} {M : mMem} {P : mPost} (hx : ¬ x = 0) : mG (d) 185 15 [some (.ref x), a1, a2, a3, a4] [] lay M P = mG d 185 16 [some (.ref x), a1, a2, a3, a4] [.ref x] lay M P := e_aload_nP hx (i := 0) rfl rfl rfl
set_option maxRecDepth 20000 in
theorem g185_16 {d : Nat} {a0 a1 a2 a3 a4 : Option Value} {s0 : Nat} {lay : List mShp} {M : mMem} {P : mPost} : mG (d) 185 16 [a0, a1, a2, a3, a4] [.ref s0] lay M P = mG d 185 17 [a0, a1, a2, a3, a4] [.int (Int32.ofInt 0), .ref s0] lay M P := e_iconst rfl
set_option maxRecDepth 20000 in
theorem g185_17 {d : Nat} {a0 a1 a2 a3 a4 : Option Value} {s0 : Int32} {s1 : Nat} {lay : List mShp} {M : mMem} {P : mPost} (hs : mSh lay s1 = some (13, 44)) : mG (d + 1) 185 17 [a0, a1, a2, a3, a4] [.int s0, .ref s1] lay M P = mF d 149 [.ref s1, .int s0] lay M (fun v lay1 M1 => mG (d + 1) 185 20 [a0, a1, a2, a3, a4] (v.toList ++ []) lay1 M1 P) := e_virtP1 (j := 149) (c := 10) rfl rfl rfl rfl rfl rfl hs (Nat.le_of_ble_eq_true rfl)
set_option maxRecDepth 20000 in
theorem g185_20 {d : Nat} {a0 a1 a2 a3 a4 : Option Value} {lay : List mShp} {M : mMem} {P : mPost} : mG (d) 185 20 [a0, a1, a2, a3, a4] [] lay M P = mG d 185 22 [a0, a1, a2, a3, a4] [.int (Int32.ofInt (-2))] lay M P := e_bipush rfl
set_option maxRecDepth 20000 in
theorem g185_22 {d : Nat} {a0 a1 a2 a3 a4 : Option Value} {s0 : Int32} {lay : List mShp} {M : mMem} {P : mPost} (h0 : mNoL a1 = true) : mG (d) 185 22 [a0, a1, a2, a3, a4] [.int s0] lay M P = mG d 185 23 [a0, a1, some (.int s0), a3, a4] [] lay M P := e_istore_n (i := 2) rfl rfl (by simp) (mS1_2 h0)
set_option maxRecDepth 20000 in
theorem g185_23 {d : Nat} {a0 a1 a2 a3 a4 : Option Value} {lay : List mShp} {M : mMem} {P : mPost} : mG (d) 185 23 [a0, a1, a2, a3, a4] [] lay M P = mG d 185 24 [a0, a1, a2, a3, a4] [.int (Int32.ofInt 0)] lay M P := e_iconst rfl
set_option maxRecDepth 20000 in
theorem g185_24 {d : Nat} {a0 a1 a2 a3 a4 : Option Value} {s0 : Int32} {lay : List mShp} {M : mMem} {P : mPost} (h0 : mNoL a2 = true) : mG (d) 185 24 [a0, a1, a2, a3, a4] [.int s0] lay M P = mG d 185 25 [a0, a1, a2, some (.int s0), a4] [] lay M P := e_istore_n (i := 3) rfl rfl (by simp) (mS1_3 h0)
set_option maxRecDepth 20000 in
theorem g185_25 {d : Nat} {a0 a1 a2 a4 : Option Value} {x : Int32} {lay : List mShp} {M : mMem} {P : mPost} : mG (d) 185 25 [a0, a1, a2, some (.int x), a4] [] lay M P = mG d 185 26 [a0, a1, a2, some (.int x), a4] [.int x] lay M P := e_iload_n (i := 3) rfl rfl rfl
set_option maxRecDepth 20000 in
theorem g185_26 {d : Nat} {a0 a1 a2 a3 a4 : Option Value} {s0 : Int32} {lay : List mShp} {M : mMem} {P : mPost} : mG (d) 185 26 [a0, a1, a2, a3, a4] [.int s0] lay M P = mG d 185 28 [a0, a1, a2, a3, a4] [.int (Int32.ofInt 40), .int s0] lay M P := e_bipush rfl
set_option maxRecDepth 20000 in
theorem g185_28 {d : Nat} {a0 a1 a2 a3 a4 : Option Value} {s0 : Int32} {s1 : Int32} {lay : List mShp} {M : mMem} {P : mPost} : mG (d) 185 28 [a0, a1, a2, a3, a4] [.int s0, .int s1] lay M P = if s0 < s1 then mG d 185 93 [a0, a1, a2, a3, a4] [] lay M P else mG d 185 31 [a0, a1, a2, a3, a4] [] lay M P := e_icmp_gt rfl rfl
set_option maxRecDepth 20000 in
theorem g185_31 {d : Nat} {a0 a1 a3 a4 : Option Value} {x : Int32} {lay : List mShp} {M : mMem} {P : mPost} : mG (d) 185 31 [a0, a1, some (.int x), a3, a4] [] lay M P = mG d 185 32 [a0, a1, some (.int x), a3, a4] [.int x] lay M P := e_iload_n (i := 2) rfl rfl rfl
set_option maxRecDepth 20000 in
theorem g185_32 {d : Nat} {a0 a1 a2 a3 a4 : Option Value} {s0 : Int32} {lay : List mShp} {M : mMem} {P : mPost} : mG (d) 185 32 [a0, a1, a2, a3, a4] [.int s0] lay M P = mG d 185 34 [a0, a1, a2, a3, a4] [.int (Int32.ofInt (-2)), .int s0] lay M P := e_bipush rfl
set_option maxRecDepth 20000 in
theorem g185_34 {d : Nat} {a0 a1 a2 a3 a4 : Option Value} {s0 : Int32} {s1 : Int32} {lay : List mShp} {M : mMem} {P : mPost} : mG (d) 185 34 [a0, a1, a2, a3, a4] [.int s0, .int s1] lay M P = if s1 = s0 then mG d 185 37 [a0, a1, a2, a3, a4] [] lay M P else mG d 185 93 [a0, a1, a2, a3, a4] [] lay M P := e_icmp_ne rfl rfl
set_option maxRecDepth 20000 in
theorem g185_37 {d : Nat} {a1 a2 a3 a4 : Option Value} {x : Nat} {lay : List mShp} {M : mMem} {P : mPost} (hx : ¬ x = 0) : mG (d) 185 37 [some (.ref x), a1, a2, a3, a4] [] lay M P = mG d 185 38 [some (.ref x), a1, a2, a3, a4] [.ref x] lay M P := e_aload_nP hx (i := 0) rfl rfl rfl
set_option maxRecDepth 20000 in
theorem g185_38 {d : Nat} {a0 a1 a2 a3 a4 : Option Value} {s0 : Nat} {lay : List mShp} {M : mMem} {P : mPost} (hs : mSh lay s0 = some (13, 44)) : mG (d + 1) 185 38 [a0, a1, a2, a3, a4] [.ref s0] lay M P = mF d 181 [.ref s0] lay M (fun v lay1 M1 => mG (d + 1) 185 41 [a0, a1, a2, a3, a4] (v.toList ++ []) lay1 M1 P) := e_virtP0 (j := 181) (c := 10) rfl rfl rfl rfl rfl rfl hs (Nat.le_of_ble_eq_true rfl)
set_option maxRecDepth 20000 in
theorem g185_41 {d : Nat} {a0 a1 a2 a3 a4 : Option Value} {s0 : Int32} {lay : List mShp} {M : mMem} {P : mPost} (h0 : mNoL a3 = true) : mG (d) 185 41 [a0, a1, a2, a3, a4] [.int s0] lay M P = mG d 185 43 [a0, a1, a2, a3, some (.int s0)] [] lay M P := e_istore (i := 4) rfl (by simp) (mS1_4 h0)
set_option maxRecDepth 20000 in
theorem g185_43 {d : Nat} {a0 a2 a3 a4 : Option Value} {x : Int32} {lay : List mShp} {M : mMem} {P : mPost} : mG (d) 185 43 [a0, some (.int x), a2, a3, a4] [] lay M P = mG d 185 44 [a0, some (.int x), a2, a3, a4] [.int x] lay M P := e_iload_n (i := 1) rfl rfl rfl
set_option maxRecDepth 20000 in
theorem g185_44 {d : Nat} {a0 a1 a2 a3 a4 : Option Value} {s0 : Int32} {lay : List mShp} {M : mMem} {P : mPost} : mG (d) 185 44 [a0, a1, a2, a3, a4] [.int s0] lay M P = mG d 185 45 [a0, a1, a2, a3, a4] [.int (Int32.ofInt (-1)), .int s0] lay M P := e_iconst rfl
set_option maxRecDepth 20000 in
theorem g185_45 {d : Nat} {a0 a1 a2 a3 a4 : Option Value} {s0 : Int32} {s1 : Int32} {lay : List mShp} {M : mMem} {P : mPost} : mG (d) 185 45 [a0, a1, a2, a3, a4] [.int s0, .int s1] lay M P = if s1 = s0 then mG d 185 48 [a0, a1, a2, a3, a4] [] lay M P else mG d 185 66 [a0, a1, a2, a3, a4] [] lay M P := e_icmp_ne rfl rfl
set_option maxRecDepth 20000 in
theorem g185_48 {d : Nat} {a0 a1 a2 a3 : Option Value} {x : Int32} {lay : List mShp} {M : mMem} {P : mPost} : mG (d) 185 48 [a0, a1, a2, a3, some (.int x)] [] lay M P = mG d 185 50 [a0, a1, a2, a3, some (.int x)] [.int x] lay M P := e_iload (i := 4) rfl rfl
set_option maxRecDepth 20000 in
theorem g185_50 {d : Nat} {a0 a1 a2 a3 a4 : Option Value} {s0 : Int32} {lay : List mShp} {M : mMem} {P : mPost} : mG (d) 185 50 [a0, a1, a2, a3, a4] [.int s0] lay M P = if s0 = 0 then mG d 185 53 [a0, a1, a2, a3, a4] [] lay M P else mG d 185 58 [a0, a1, a2, a3, a4] [] lay M P := e_if_ne rfl rfl
set_option maxRecDepth 20000 in
theorem g185_53 {d : Nat} {a0 a1 a2 a3 a4 : Option Value} {lay : List mShp} {M : mMem} {P : mPost} : mG (d) 185 53 [a0, a1, a2, a3, a4] [] lay M P = mG d 185 55 [a0, a1, a2, a3, a4] [.int (Int32.ofInt (-2))] lay M P := e_bipush rfl
set_option maxRecDepth 20000 in
theorem g185_55 {d : Nat} {a0 a1 a2 a3 a4 : Option Value} {s0 : Int32} {lay : List mShp} {M : mMem} {P : mPost} : mG (d) 185 55 [a0, a1, a2, a3, a4] [.int s0] lay M P = mG d 185 82 [a0, a1, a2, a3, a4] [.int s0] lay M P := e_goto rfl rfl
set_option maxRecDepth 20000 in
theorem g185_58 {d : Nat} {a0 a1 a2 a3 : Option Value} {x : Int32} {lay : List mShp} {M : mMem} {P : mPost} : mG (d) 185 58 [a0, a1, a2, a3, some (.int x)] [] lay M P = mG d 185 60 [a0, a1, a2, a3, some (.int x)] [.int x] lay M P := e_iload (i := 4) rfl rfl
set_option maxRecDepth 20000 in
theorem g185_60 {d : Nat} {a0 a1 a2 a3 a4 : Option Value} {s0 : Int32} {lay : List mShp} {M : mMem} {P : mPost} : mG (d + 1) 185 60 [a0, a1, a2, a3, a4] [.int s0] lay M P = mF d 229 [.int s0] lay M (fun v lay1 M1 => mG (d + 1) 185 63 [a0, a1, a2, a3, a4] (v.toList ++ []) lay1 M1 P) := e_static1 (j := 229) rfl rfl rfl rfl rfl (Nat.le_of_ble_eq_true rfl)
set_option maxRecDepth 20000 in
theorem g185_63 {d : Nat} {a0 a1 a2 a3 a4 : Option Value} {s0 : Int32} {lay : List mShp} {M : mMem} {P : mPost} : mG (d) 185 63 [a0, a1, a2, a3, a4] [.int s0] lay M P = mG d 185 82 [a0, a1, a2, a3, a4] [.int s0] lay M P := e_goto rfl rfl
set_option maxRecDepth 20000 in
theorem g185_66 {d : Nat} {a0 a1 a2 a3 : Option Value} {x : Int32} {lay : List mShp} {M : mMem} {P : mPost} : mG (d) 185 66 [a0, a1, a2, a3, some (.int x)] [] lay M P = mG d 185 68 [a0, a1, a2, a3, some (.int x)] [.int x] lay M P := e_iload (i := 4) rfl rfl
set_option maxRecDepth 20000 in
theorem g185_68 {d : Nat} {a0 a2 a3 a4 : Option Value} {s0 : Int32} {x : Int32} {lay : List mShp} {M : mMem} {P : mPost} : mG (d) 185 68 [a0, some (.int x), a2, a3, a4] [.int s0] lay M P = mG d 185 69 [a0, some (.int x), a2, a3, a4] [.int x, .int s0] lay M P := e_iload_n (i := 1) rfl rfl rfl
set_option maxRecDepth 20000 in
theorem g185_69 {d : Nat} {a0 a1 a2 a3 a4 : Option Value} {s0 : Int32} {s1 : Int32} {lay : List mShp} {M : mMem} {P : mPost} : mG (d) 185 69 [a0, a1, a2, a3, a4] [.int s0, .int s1] lay M P = mG d 185 70 [a0, a1, a2, a3, a4] [.int (s1 >>> (s0 &&& 31))] lay M P := e_ishr rfl
set_option maxRecDepth 20000 in
theorem g185_70 {d : Nat} {a0 a1 a2 a3 a4 : Option Value} {s0 : Int32} {lay : List mShp} {M : mMem} {P : mPost} : mG (d) 185 70 [a0, a1, a2, a3, a4] [.int s0] lay M P = mG d 185 71 [a0, a1, a2, a3, a4] [.int (Int32.ofInt 1), .int s0] lay M P := e_iconst rfl
