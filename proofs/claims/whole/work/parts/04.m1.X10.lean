-- 145 X10_init
theorem g145_in {d : Nat} {x0 : Nat} {lay : List mShp} {M : mMem} {P : mPost} : mF d 145 [.ref x0] lay M P = mG d 145 0 [some (.ref x0)] [] lay M P := mF_in rfl rfl
set_option maxRecDepth 20000 in
theorem g145_0 {d : Nat}  {x : Nat} {lay : List mShp} {M : mMem} {P : mPost} (hx : ¬ x = 0) : mG (d) 145 0 [some (.ref x)] [] lay M P = mG d 145 1 [some (.ref x)] [.ref x] lay M P := e_aload_nP hx (i := 0) rfl rfl rfl
set_option maxRecDepth 20000 in
theorem g145_1 {d : Nat} {a0 : Option Value} {s0 : Nat} {lay : List mShp} {M : mMem} {P : mPost} (hx : ¬ s0 = 0) : mG (d) 145 1 [a0] [.ref s0] lay M P = mG d 145 4 [a0] [] lay M P := e_objInitP hx rfl rfl (Nat.le_of_ble_eq_true rfl)
set_option maxRecDepth 20000 in
theorem g145_4 {d : Nat}  {x : Nat} {lay : List mShp} {M : mMem} {P : mPost} (hx : ¬ x = 0) : mG (d) 145 4 [some (.ref x)] [] lay M P = mG d 145 5 [some (.ref x)] [.ref x] lay M P := e_aload_nP hx (i := 0) rfl rfl rfl
set_option maxRecDepth 20000 in
theorem g145_5 {d : Nat} {a0 : Option Value} {s0 : Nat} {lay : List mShp} {M : mMem} {P : mPost} : mG (d + 1) 145 5 [a0] [.ref s0] lay M P = mF d 148 [] lay M (fun v lay1 M1 => mG (d + 1) 145 8 [a0] (v.toList ++ [.ref s0]) lay1 M1 P) := e_static0 (j := 148) rfl rfl rfl rfl rfl (Nat.le_of_ble_eq_true rfl)
set_option maxRecDepth 20000 in
theorem g145_8 {d : Nat} {a0 : Option Value} {s0 : Nat} {s1 : Nat} {lay : List mShp} {M : mMem} {P : mPost} (hs : mSh lay s1 = some (13, 44)) : mG (d) 145 8 [a0] [.ref s0, .ref s1] lay M P = mG d 145 11 [a0] [] lay (mSetR M s1 0 s0) P := mG_of_and (mIsO_of hs (by decide)) (e_putA (ci := 10) (j := 0) rfl rfl (Or.inr ⟨rfl, rfl, rfl⟩) rfl)
set_option maxRecDepth 20000 in
theorem g145_11 {d : Nat}  {x : Nat} {lay : List mShp} {M : mMem} {P : mPost} (hx : ¬ x = 0) : mG (d) 145 11 [some (.ref x)] [] lay M P = mG d 145 12 [some (.ref x)] [.ref x] lay M P := e_aload_nP hx (i := 0) rfl rfl rfl
set_option maxRecDepth 20000 in
theorem g145_12 {d : Nat} {a0 : Option Value} {s0 : Nat} {lay : List mShp} {M : mMem} {P : mPost} : mG (d) 145 12 [a0] [.ref s0] lay M P = mG d 145 15 [a0] [.int (Int32.ofInt 294), .ref s0] lay M P := e_sipush rfl
set_option maxRecDepth 20000 in
theorem g145_15 {d : Nat} {a0 : Option Value} {s0 : Int32} {s1 : Nat} {lay : List mShp} {M : mMem} {P : mPost} : mG (d) 145 15 [a0] [.int s0, .ref s1] lay M P = ((0 ≤ s0.toInt ∧ s0.toInt ≤ 100000) ∧ mG d 145 17 [a0] [.ref (lay.length + 3), .ref s1] (lay ++ [(0, s0.toNatClampNeg)]) (mNew M (lay.length + 3)) P) := e_newa_intP rfl
set_option maxRecDepth 20000 in
theorem g145_17 {d : Nat} {a0 : Option Value} {s0 : Nat} {s1 : Nat} {lay : List mShp} {M : mMem} {P : mPost} (hs : mSh lay s1 = some (13, 44)) : mG (d) 145 17 [a0] [.ref s0, .ref s1] lay M P = mG d 145 20 [a0] [] lay (mSetR M s1 1 s0) P := mG_of_and (mIsO_of hs (by decide)) (e_putA (ci := 10) (j := 1) rfl rfl (Or.inr ⟨rfl, rfl, rfl⟩) rfl)
set_option maxRecDepth 20000 in
theorem g145_20 {d : Nat}  {x : Nat} {lay : List mShp} {M : mMem} {P : mPost} (hx : ¬ x = 0) : mG (d) 145 20 [some (.ref x)] [] lay M P = mG d 145 21 [some (.ref x)] [.ref x] lay M P := e_aload_nP hx (i := 0) rfl rfl rfl
set_option maxRecDepth 20000 in
theorem g145_21 {d : Nat} {a0 : Option Value} {s0 : Nat} {lay : List mShp} {M : mMem} {P : mPost} : mG (d) 145 21 [a0] [.ref s0] lay M P = mG d 145 23 [a0] [.int (Int32.ofInt 40), .ref s0] lay M P := e_bipush rfl
set_option maxRecDepth 20000 in
theorem g145_23 {d : Nat} {a0 : Option Value} {s0 : Int32} {s1 : Nat} {lay : List mShp} {M : mMem} {P : mPost} : mG (d) 145 23 [a0] [.int s0, .ref s1] lay M P = ((0 ≤ s0.toInt ∧ s0.toInt ≤ 100000) ∧ mG d 145 25 [a0] [.ref (lay.length + 3), .ref s1] (lay ++ [(0, s0.toNatClampNeg)]) (mNew M (lay.length + 3)) P) := e_newa_intP rfl
set_option maxRecDepth 20000 in
theorem g145_25 {d : Nat} {a0 : Option Value} {s0 : Nat} {s1 : Nat} {lay : List mShp} {M : mMem} {P : mPost} (hs : mSh lay s1 = some (13, 44)) : mG (d) 145 25 [a0] [.ref s0, .ref s1] lay M P = mG d 145 28 [a0] [] lay (mSetR M s1 3 s0) P := mG_of_and (mIsO_of hs (by decide)) (e_putA (ci := 10) (j := 3) rfl rfl (Or.inr ⟨rfl, rfl, rfl⟩) rfl)
set_option maxRecDepth 20000 in
theorem g145_28 {d : Nat}  {x : Nat} {lay : List mShp} {M : mMem} {P : mPost} (hx : ¬ x = 0) : mG (d) 145 28 [some (.ref x)] [] lay M P = mG d 145 29 [some (.ref x)] [.ref x] lay M P := e_aload_nP hx (i := 0) rfl rfl rfl
set_option maxRecDepth 20000 in
theorem g145_29 {d : Nat} {a0 : Option Value} {s0 : Nat} {lay : List mShp} {M : mMem} {P : mPost} : mG (d) 145 29 [a0] [.ref s0] lay M P = mG d 145 31 [a0] [.int (Int32.ofInt 40), .ref s0] lay M P := e_bipush rfl
set_option maxRecDepth 20000 in
theorem g145_31 {d : Nat} {a0 : Option Value} {s0 : Int32} {s1 : Nat} {lay : List mShp} {M : mMem} {P : mPost} : mG (d) 145 31 [a0] [.int s0, .ref s1] lay M P = ((0 ≤ s0.toInt ∧ s0.toInt ≤ 100000) ∧ mG d 145 33 [a0] [.ref (lay.length + 3), .ref s1] (lay ++ [(0, s0.toNatClampNeg)]) (mNew M (lay.length + 3)) P) := e_newa_intP rfl
set_option maxRecDepth 20000 in
theorem g145_33 {d : Nat} {a0 : Option Value} {s0 : Nat} {s1 : Nat} {lay : List mShp} {M : mMem} {P : mPost} (hs : mSh lay s1 = some (13, 44)) : mG (d) 145 33 [a0] [.ref s0, .ref s1] lay M P = mG d 145 36 [a0] [] lay (mSetR M s1 4 s0) P := mG_of_and (mIsO_of hs (by decide)) (e_putA (ci := 10) (j := 4) rfl rfl (Or.inr ⟨rfl, rfl, rfl⟩) rfl)
set_option maxRecDepth 20000 in
theorem g145_36 {d : Nat}  {x : Nat} {lay : List mShp} {M : mMem} {P : mPost} (hx : ¬ x = 0) : mG (d) 145 36 [some (.ref x)] [] lay M P = mG d 145 37 [some (.ref x)] [.ref x] lay M P := e_aload_nP hx (i := 0) rfl rfl rfl
set_option maxRecDepth 20000 in
theorem g145_37 {d : Nat} {a0 : Option Value} {s0 : Nat} {lay : List mShp} {M : mMem} {P : mPost} : mG (d) 145 37 [a0] [.ref s0] lay M P = mG d 145 39 [a0] [.int (Int32.ofInt 40), .ref s0] lay M P := e_bipush rfl
set_option maxRecDepth 20000 in
theorem g145_39 {d : Nat} {a0 : Option Value} {s0 : Int32} {s1 : Nat} {lay : List mShp} {M : mMem} {P : mPost} : mG (d) 145 39 [a0] [.int s0, .ref s1] lay M P = ((0 ≤ s0.toInt ∧ s0.toInt ≤ 100000) ∧ mG d 145 41 [a0] [.ref (lay.length + 3), .ref s1] (lay ++ [(0, s0.toNatClampNeg)]) (mNew M (lay.length + 3)) P) := e_newa_intP rfl
set_option maxRecDepth 20000 in
theorem g145_41 {d : Nat} {a0 : Option Value} {s0 : Nat} {s1 : Nat} {lay : List mShp} {M : mMem} {P : mPost} (hs : mSh lay s1 = some (13, 44)) : mG (d) 145 41 [a0] [.ref s0, .ref s1] lay M P = mG d 145 44 [a0] [] lay (mSetR M s1 5 s0) P := mG_of_and (mIsO_of hs (by decide)) (e_putA (ci := 10) (j := 5) rfl rfl (Or.inr ⟨rfl, rfl, rfl⟩) rfl)
set_option maxRecDepth 20000 in
theorem g145_44 {d : Nat}  {x : Nat} {lay : List mShp} {M : mMem} {P : mPost} (hx : ¬ x = 0) : mG (d) 145 44 [some (.ref x)] [] lay M P = mG d 145 45 [some (.ref x)] [.ref x] lay M P := e_aload_nP hx (i := 0) rfl rfl rfl
set_option maxRecDepth 20000 in
theorem g145_45 {d : Nat} {a0 : Option Value} {s0 : Nat} {lay : List mShp} {M : mMem} {P : mPost} : mG (d) 145 45 [a0] [.ref s0] lay M P = mG d 145 47 [a0] [.int (Int32.ofInt 120), .ref s0] lay M P := e_bipush rfl
set_option maxRecDepth 20000 in
theorem g145_47 {d : Nat} {a0 : Option Value} {s0 : Int32} {s1 : Nat} {lay : List mShp} {M : mMem} {P : mPost} : mG (d) 145 47 [a0] [.int s0, .ref s1] lay M P = ((0 ≤ s0.toInt ∧ s0.toInt ≤ 100000) ∧ mG d 145 49 [a0] [.ref (lay.length + 3), .ref s1] (lay ++ [(0, s0.toNatClampNeg)]) (mNew M (lay.length + 3)) P) := e_newa_intP rfl
set_option maxRecDepth 20000 in
theorem g145_49 {d : Nat} {a0 : Option Value} {s0 : Nat} {s1 : Nat} {lay : List mShp} {M : mMem} {P : mPost} (hs : mSh lay s1 = some (13, 44)) : mG (d) 145 49 [a0] [.ref s0, .ref s1] lay M P = mG d 145 52 [a0] [] lay (mSetR M s1 8 s0) P := mG_of_and (mIsO_of hs (by decide)) (e_putA (ci := 10) (j := 8) rfl rfl (Or.inr ⟨rfl, rfl, rfl⟩) rfl)
set_option maxRecDepth 20000 in
theorem g145_52 {d : Nat}  {x : Nat} {lay : List mShp} {M : mMem} {P : mPost} (hx : ¬ x = 0) : mG (d) 145 52 [some (.ref x)] [] lay M P = mG d 145 53 [some (.ref x)] [.ref x] lay M P := e_aload_nP hx (i := 0) rfl rfl rfl
set_option maxRecDepth 20000 in
theorem g145_53 {d : Nat} {a0 : Option Value} {s0 : Nat} {lay : List mShp} {M : mMem} {P : mPost} : mG (d) 145 53 [a0] [.ref s0] lay M P = mG d 145 55 [a0] [.int (Int32.ofInt 120), .ref s0] lay M P := e_bipush rfl
set_option maxRecDepth 20000 in
theorem g145_55 {d : Nat} {a0 : Option Value} {s0 : Int32} {s1 : Nat} {lay : List mShp} {M : mMem} {P : mPost} : mG (d) 145 55 [a0] [.int s0, .ref s1] lay M P = ((0 ≤ s0.toInt ∧ s0.toInt ≤ 100000) ∧ mG d 145 57 [a0] [.ref (lay.length + 3), .ref s1] (lay ++ [(0, s0.toNatClampNeg)]) (mNew M (lay.length + 3)) P) := e_newa_intP rfl
set_option maxRecDepth 20000 in
theorem g145_57 {d : Nat} {a0 : Option Value} {s0 : Nat} {s1 : Nat} {lay : List mShp} {M : mMem} {P : mPost} (hs : mSh lay s1 = some (13, 44)) : mG (d) 145 57 [a0] [.ref s0, .ref s1] lay M P = mG d 145 60 [a0] [] lay (mSetR M s1 10 s0) P := mG_of_and (mIsO_of hs (by decide)) (e_putA (ci := 10) (j := 10) rfl rfl (Or.inr ⟨rfl, rfl, rfl⟩) rfl)
set_option maxRecDepth 20000 in
theorem g145_60 {d : Nat}  {x : Nat} {lay : List mShp} {M : mMem} {P : mPost} (hx : ¬ x = 0) : mG (d) 145 60 [some (.ref x)] [] lay M P = mG d 145 61 [some (.ref x)] [.ref x] lay M P := e_aload_nP hx (i := 0) rfl rfl rfl
set_option maxRecDepth 20000 in
theorem g145_61 {d : Nat} {a0 : Option Value} {s0 : Nat} {lay : List mShp} {M : mMem} {P : mPost} : mG (d) 145 61 [a0] [.ref s0] lay M P = mG d 145 63 [a0] [.int (Int32.ofInt 120), .ref s0] lay M P := e_bipush rfl
set_option maxRecDepth 20000 in
theorem g145_63 {d : Nat} {a0 : Option Value} {s0 : Int32} {s1 : Nat} {lay : List mShp} {M : mMem} {P : mPost} : mG (d) 145 63 [a0] [.int s0, .ref s1] lay M P = ((0 ≤ s0.toInt ∧ s0.toInt ≤ 100000) ∧ mG d 145 65 [a0] [.ref (lay.length + 3), .ref s1] (lay ++ [(0, s0.toNatClampNeg)]) (mNew M (lay.length + 3)) P) := e_newa_intP rfl
set_option maxRecDepth 20000 in
theorem g145_65 {d : Nat} {a0 : Option Value} {s0 : Nat} {s1 : Nat} {lay : List mShp} {M : mMem} {P : mPost} (hs : mSh lay s1 = some (13, 44)) : mG (d) 145 65 [a0] [.ref s0, .ref s1] lay M P = mG d 145 68 [a0] [] lay (mSetR M s1 13 s0) P := mG_of_and (mIsO_of hs (by decide)) (e_putA (ci := 10) (j := 13) rfl rfl (Or.inr ⟨rfl, rfl, rfl⟩) rfl)
set_option maxRecDepth 20000 in
theorem g145_68 {d : Nat}  {x : Nat} {lay : List mShp} {M : mMem} {P : mPost} (hx : ¬ x = 0) : mG (d) 145 68 [some (.ref x)] [] lay M P = mG d 145 69 [some (.ref x)] [.ref x] lay M P := e_aload_nP hx (i := 0) rfl rfl rfl
set_option maxRecDepth 20000 in
theorem g145_69 {d : Nat} {a0 : Option Value} {s0 : Nat} {lay : List mShp} {M : mMem} {P : mPost} : mG (d) 145 69 [a0] [.ref s0] lay M P = mG d 145 71 [a0] [.int (Int32.ofInt 6), .ref s0] lay M P := e_bipush rfl
set_option maxRecDepth 20000 in
theorem g145_71 {d : Nat} {a0 : Option Value} {s0 : Int32} {s1 : Nat} {lay : List mShp} {M : mMem} {P : mPost} : mG (d) 145 71 [a0] [.int s0, .ref s1] lay M P = ((0 ≤ s0.toInt ∧ s0.toInt ≤ 100000) ∧ mG d 145 73 [a0] [.ref (lay.length + 3), .ref s1] (lay ++ [(0, s0.toNatClampNeg)]) (mNew M (lay.length + 3)) P) := e_newa_intP rfl
set_option maxRecDepth 20000 in
theorem g145_73 {d : Nat} {a0 : Option Value} {s0 : Nat} {s1 : Nat} {lay : List mShp} {M : mMem} {P : mPost} (hs : mSh lay s1 = some (13, 44)) : mG (d) 145 73 [a0] [.ref s0, .ref s1] lay M P = mG d 145 76 [a0] [] lay (mSetR M s1 18 s0) P := mG_of_and (mIsO_of hs (by decide)) (e_putA (ci := 10) (j := 18) rfl rfl (Or.inr ⟨rfl, rfl, rfl⟩) rfl)
set_option maxRecDepth 20000 in
theorem g145_76 {d : Nat}  {x : Nat} {lay : List mShp} {M : mMem} {P : mPost} (hx : ¬ x = 0) : mG (d) 145 76 [some (.ref x)] [] lay M P = mG d 145 77 [some (.ref x)] [.ref x] lay M P := e_aload_nP hx (i := 0) rfl rfl rfl
set_option maxRecDepth 20000 in
theorem g145_77 {d : Nat} {a0 : Option Value} {s0 : Nat} {lay : List mShp} {M : mMem} {P : mPost} : mG (d) 145 77 [a0] [.ref s0] lay M P = mG d 145 79 [a0] [.int (Int32.ofInt 6), .ref s0] lay M P := e_bipush rfl
set_option maxRecDepth 20000 in
theorem g145_79 {d : Nat} {a0 : Option Value} {s0 : Int32} {s1 : Nat} {lay : List mShp} {M : mMem} {P : mPost} : mG (d) 145 79 [a0] [.int s0, .ref s1] lay M P = ((0 ≤ s0.toInt ∧ s0.toInt ≤ 100000) ∧ mG d 145 81 [a0] [.ref (lay.length + 3), .ref s1] (lay ++ [(2, s0.toNatClampNeg)]) (mNew M (lay.length + 3)) P) := e_newa_charP rfl
set_option maxRecDepth 20000 in
theorem g145_81 {d : Nat} {a0 : Option Value} {s0 : Nat} {s1 : Nat} {lay : List mShp} {M : mMem} {P : mPost} : mG (d) 145 81 [a0] [.ref s0, .ref s1] lay M P = mG d 145 82 [a0] [.ref s0, .ref s0, .ref s1] lay M P := e_dupr rfl
set_option maxRecDepth 20000 in
theorem g145_82 {d : Nat} {a0 : Option Value} {s0 : Nat} {s1 : Nat} {s2 : Nat} {lay : List mShp} {M : mMem} {P : mPost} : mG (d) 145 82 [a0] [.ref s0, .ref s1, .ref s2] lay M P = mG d 145 83 [a0] [.int (Int32.ofInt 0), .ref s0, .ref s1, .ref s2] lay M P := e_iconst rfl
set_option maxRecDepth 20000 in
theorem g145_83 {d : Nat} {a0 : Option Value} {s0 : Int32} {s1 : Nat} {s2 : Nat} {s3 : Nat} {lay : List mShp} {M : mMem} {P : mPost} : mG (d) 145 83 [a0] [.int s0, .ref s1, .ref s2, .ref s3] lay M P = mG d 145 85 [a0] [.int (Int32.ofInt 103), .int s0, .ref s1, .ref s2, .ref s3] lay M P := e_bipush rfl
set_option maxRecDepth 20000 in
theorem g145_85 {d : Nat} {a0 : Option Value} {s0 : Int32} {s1 : Int32} {s2 : Nat} {s3 : Nat} {s4 : Nat} {n : Nat} {lay : List mShp} {M : mMem} {P : mPost} (hs : mSh lay s2 = some (2, n)) : mG (d) 145 85 [a0] [.int s0, .int s1, .ref s2, .ref s3, .ref s4] lay M P = (mIdx s1 n = true ∧ mG d 145 86 [a0] [.ref s3, .ref s4] lay (mSetI M s2 s1.toNatClampNeg (vp_nar .char s0)) P) := e_castore rfl hs
set_option maxRecDepth 20000 in
theorem g145_86 {d : Nat} {a0 : Option Value} {s0 : Nat} {s1 : Nat} {lay : List mShp} {M : mMem} {P : mPost} : mG (d) 145 86 [a0] [.ref s0, .ref s1] lay M P = mG d 145 87 [a0] [.ref s0, .ref s0, .ref s1] lay M P := e_dupr rfl
set_option maxRecDepth 20000 in
theorem g145_87 {d : Nat} {a0 : Option Value} {s0 : Nat} {s1 : Nat} {s2 : Nat} {lay : List mShp} {M : mMem} {P : mPost} : mG (d) 145 87 [a0] [.ref s0, .ref s1, .ref s2] lay M P = mG d 145 88 [a0] [.int (Int32.ofInt 1), .ref s0, .ref s1, .ref s2] lay M P := e_iconst rfl
set_option maxRecDepth 20000 in
theorem g145_88 {d : Nat} {a0 : Option Value} {s0 : Int32} {s1 : Nat} {s2 : Nat} {s3 : Nat} {lay : List mShp} {M : mMem} {P : mPost} : mG (d) 145 88 [a0] [.int s0, .ref s1, .ref s2, .ref s3] lay M P = mG d 145 90 [a0] [.int (Int32.ofInt 100), .int s0, .ref s1, .ref s2, .ref s3] lay M P := e_bipush rfl
set_option maxRecDepth 20000 in
theorem g145_90 {d : Nat} {a0 : Option Value} {s0 : Int32} {s1 : Int32} {s2 : Nat} {s3 : Nat} {s4 : Nat} {n : Nat} {lay : List mShp} {M : mMem} {P : mPost} (hs : mSh lay s2 = some (2, n)) : mG (d) 145 90 [a0] [.int s0, .int s1, .ref s2, .ref s3, .ref s4] lay M P = (mIdx s1 n = true ∧ mG d 145 91 [a0] [.ref s3, .ref s4] lay (mSetI M s2 s1.toNatClampNeg (vp_nar .char s0)) P) := e_castore rfl hs
set_option maxRecDepth 20000 in
theorem g145_91 {d : Nat} {a0 : Option Value} {s0 : Nat} {s1 : Nat} {lay : List mShp} {M : mMem} {P : mPost} : mG (d) 145 91 [a0] [.ref s0, .ref s1] lay M P = mG d 145 92 [a0] [.ref s0, .ref s0, .ref s1] lay M P := e_dupr rfl
set_option maxRecDepth 20000 in
theorem g145_92 {d : Nat} {a0 : Option Value} {s0 : Nat} {s1 : Nat} {s2 : Nat} {lay : List mShp} {M : mMem} {P : mPost} : mG (d) 145 92 [a0] [.ref s0, .ref s1, .ref s2] lay M P = mG d 145 93 [a0] [.int (Int32.ofInt 2), .ref s0, .ref s1, .ref s2] lay M P := e_iconst rfl
set_option maxRecDepth 20000 in
theorem g145_93 {d : Nat} {a0 : Option Value} {s0 : Int32} {s1 : Nat} {s2 : Nat} {s3 : Nat} {lay : List mShp} {M : mMem} {P : mPost} : mG (d) 145 93 [a0] [.int s0, .ref s1, .ref s2, .ref s3] lay M P = mG d 145 95 [a0] [.int (Int32.ofInt 110), .int s0, .ref s1, .ref s2, .ref s3] lay M P := e_bipush rfl
set_option maxRecDepth 20000 in
theorem g145_95 {d : Nat} {a0 : Option Value} {s0 : Int32} {s1 : Int32} {s2 : Nat} {s3 : Nat} {s4 : Nat} {n : Nat} {lay : List mShp} {M : mMem} {P : mPost} (hs : mSh lay s2 = some (2, n)) : mG (d) 145 95 [a0] [.int s0, .int s1, .ref s2, .ref s3, .ref s4] lay M P = (mIdx s1 n = true ∧ mG d 145 96 [a0] [.ref s3, .ref s4] lay (mSetI M s2 s1.toNatClampNeg (vp_nar .char s0)) P) := e_castore rfl hs
set_option maxRecDepth 20000 in
theorem g145_96 {d : Nat} {a0 : Option Value} {s0 : Nat} {s1 : Nat} {lay : List mShp} {M : mMem} {P : mPost} : mG (d) 145 96 [a0] [.ref s0, .ref s1] lay M P = mG d 145 97 [a0] [.ref s0, .ref s0, .ref s1] lay M P := e_dupr rfl
set_option maxRecDepth 20000 in
theorem g145_97 {d : Nat} {a0 : Option Value} {s0 : Nat} {s1 : Nat} {s2 : Nat} {lay : List mShp} {M : mMem} {P : mPost} : mG (d) 145 97 [a0] [.ref s0, .ref s1, .ref s2] lay M P = mG d 145 98 [a0] [.int (Int32.ofInt 3), .ref s0, .ref s1, .ref s2] lay M P := e_iconst rfl
set_option maxRecDepth 20000 in
theorem g145_98 {d : Nat} {a0 : Option Value} {s0 : Int32} {s1 : Nat} {s2 : Nat} {s3 : Nat} {lay : List mShp} {M : mMem} {P : mPost} : mG (d) 145 98 [a0] [.int s0, .ref s1, .ref s2, .ref s3] lay M P = mG d 145 100 [a0] [.int (Int32.ofInt 107), .int s0, .ref s1, .ref s2, .ref s3] lay M P := e_bipush rfl
set_option maxRecDepth 20000 in
theorem g145_100 {d : Nat} {a0 : Option Value} {s0 : Int32} {s1 : Int32} {s2 : Nat} {s3 : Nat} {s4 : Nat} {n : Nat} {lay : List mShp} {M : mMem} {P : mPost} (hs : mSh lay s2 = some (2, n)) : mG (d) 145 100 [a0] [.int s0, .int s1, .ref s2, .ref s3, .ref s4] lay M P = (mIdx s1 n = true ∧ mG d 145 101 [a0] [.ref s3, .ref s4] lay (mSetI M s2 s1.toNatClampNeg (vp_nar .char s0)) P) := e_castore rfl hs
set_option maxRecDepth 20000 in
theorem g145_101 {d : Nat} {a0 : Option Value} {s0 : Nat} {s1 : Nat} {lay : List mShp} {M : mMem} {P : mPost} : mG (d) 145 101 [a0] [.ref s0, .ref s1] lay M P = mG d 145 102 [a0] [.ref s0, .ref s0, .ref s1] lay M P := e_dupr rfl
set_option maxRecDepth 20000 in
theorem g145_102 {d : Nat} {a0 : Option Value} {s0 : Nat} {s1 : Nat} {s2 : Nat} {lay : List mShp} {M : mMem} {P : mPost} : mG (d) 145 102 [a0] [.ref s0, .ref s1, .ref s2] lay M P = mG d 145 103 [a0] [.int (Int32.ofInt 4), .ref s0, .ref s1, .ref s2] lay M P := e_iconst rfl
set_option maxRecDepth 20000 in
theorem g145_103 {d : Nat} {a0 : Option Value} {s0 : Int32} {s1 : Nat} {s2 : Nat} {s3 : Nat} {lay : List mShp} {M : mMem} {P : mPost} : mG (d) 145 103 [a0] [.int s0, .ref s1, .ref s2, .ref s3] lay M P = mG d 145 105 [a0] [.int (Int32.ofInt 115), .int s0, .ref s1, .ref s2, .ref s3] lay M P := e_bipush rfl
set_option maxRecDepth 20000 in
theorem g145_105 {d : Nat} {a0 : Option Value} {s0 : Int32} {s1 : Int32} {s2 : Nat} {s3 : Nat} {s4 : Nat} {n : Nat} {lay : List mShp} {M : mMem} {P : mPost} (hs : mSh lay s2 = some (2, n)) : mG (d) 145 105 [a0] [.int s0, .int s1, .ref s2, .ref s3, .ref s4] lay M P = (mIdx s1 n = true ∧ mG d 145 106 [a0] [.ref s3, .ref s4] lay (mSetI M s2 s1.toNatClampNeg (vp_nar .char s0)) P) := e_castore rfl hs
set_option maxRecDepth 20000 in
theorem g145_106 {d : Nat} {a0 : Option Value} {s0 : Nat} {s1 : Nat} {lay : List mShp} {M : mMem} {P : mPost} : mG (d) 145 106 [a0] [.ref s0, .ref s1] lay M P = mG d 145 107 [a0] [.ref s0, .ref s0, .ref s1] lay M P := e_dupr rfl
set_option maxRecDepth 20000 in
theorem g145_107 {d : Nat} {a0 : Option Value} {s0 : Nat} {s1 : Nat} {s2 : Nat} {lay : List mShp} {M : mMem} {P : mPost} : mG (d) 145 107 [a0] [.ref s0, .ref s1, .ref s2] lay M P = mG d 145 108 [a0] [.int (Int32.ofInt 5), .ref s0, .ref s1, .ref s2] lay M P := e_iconst rfl
set_option maxRecDepth 20000 in
theorem g145_108 {d : Nat} {a0 : Option Value} {s0 : Int32} {s1 : Nat} {s2 : Nat} {s3 : Nat} {lay : List mShp} {M : mMem} {P : mPost} : mG (d) 145 108 [a0] [.int s0, .ref s1, .ref s2, .ref s3] lay M P = mG d 145 110 [a0] [.int (Int32.ofInt 116), .int s0, .ref s1, .ref s2, .ref s3] lay M P := e_bipush rfl
set_option maxRecDepth 20000 in
theorem g145_110 {d : Nat} {a0 : Option Value} {s0 : Int32} {s1 : Int32} {s2 : Nat} {s3 : Nat} {s4 : Nat} {n : Nat} {lay : List mShp} {M : mMem} {P : mPost} (hs : mSh lay s2 = some (2, n)) : mG (d) 145 110 [a0] [.int s0, .int s1, .ref s2, .ref s3, .ref s4] lay M P = (mIdx s1 n = true ∧ mG d 145 111 [a0] [.ref s3, .ref s4] lay (mSetI M s2 s1.toNatClampNeg (vp_nar .char s0)) P) := e_castore rfl hs
set_option maxRecDepth 20000 in
theorem g145_111 {d : Nat} {a0 : Option Value} {s0 : Nat} {s1 : Nat} {lay : List mShp} {M : mMem} {P : mPost} (hs : mSh lay s1 = some (13, 44)) : mG (d) 145 111 [a0] [.ref s0, .ref s1] lay M P = mG d 145 114 [a0] [] lay (mSetR M s1 19 s0) P := mG_of_and (mIsO_of hs (by decide)) (e_putA (ci := 10) (j := 19) rfl rfl (Or.inr ⟨rfl, rfl, rfl⟩) rfl)
set_option maxRecDepth 20000 in
theorem g145_114 {d : Nat}  {x : Nat} {lay : List mShp} {M : mMem} {P : mPost} (hx : ¬ x = 0) : mG (d) 145 114 [some (.ref x)] [] lay M P = mG d 145 115 [some (.ref x)] [.ref x] lay M P := e_aload_nP hx (i := 0) rfl rfl rfl
set_option maxRecDepth 20000 in
theorem g145_115 {d : Nat} {a0 : Option Value} {s0 : Nat} {lay : List mShp} {M : mMem} {P : mPost} : mG (d) 145 115 [a0] [.ref s0] lay M P = mG d 145 116 [a0] [.int (Int32.ofInt (-1)), .ref s0] lay M P := e_iconst rfl
set_option maxRecDepth 20000 in
theorem g145_116 {d : Nat} {a0 : Option Value} {s0 : Int32} {s1 : Nat} {lay : List mShp} {M : mMem} {P : mPost} (hs : mSh lay s1 = some (13, 44)) : mG (d) 145 116 [a0] [.int s0, .ref s1] lay M P = mG d 145 119 [a0] [] lay (mSetI M s1 20 s0) P := mG_of_and (mIsO_of hs (by decide)) (e_putI (ci := 10) (j := 20) rfl rfl (Or.inl rfl) rfl)
set_option maxRecDepth 20000 in
theorem g145_119 {d : Nat}  {x : Nat} {lay : List mShp} {M : mMem} {P : mPost} (hx : ¬ x = 0) : mG (d) 145 119 [some (.ref x)] [] lay M P = mG d 145 120 [some (.ref x)] [.ref x] lay M P := e_aload_nP hx (i := 0) rfl rfl rfl
set_option maxRecDepth 20000 in
theorem g145_120 {d : Nat} {a0 : Option Value} {s0 : Nat} {lay : List mShp} {M : mMem} {P : mPost} : mG (d) 145 120 [a0] [.ref s0] lay M P = mG d 145 122 [a0] [.int (Int32.ofInt 8), .ref s0] lay M P := e_bipush rfl
set_option maxRecDepth 20000 in
theorem g145_122 {d : Nat} {a0 : Option Value} {s0 : Int32} {s1 : Nat} {lay : List mShp} {M : mMem} {P : mPost} : mG (d) 145 122 [a0] [.int s0, .ref s1] lay M P = ((0 ≤ s0.toInt ∧ s0.toInt ≤ 100000) ∧ mG d 145 124 [a0] [.ref (lay.length + 3), .ref s1] (lay ++ [(0, s0.toNatClampNeg)]) (mNew M (lay.length + 3)) P) := e_newa_intP rfl
set_option maxRecDepth 20000 in
theorem g145_124 {d : Nat} {a0 : Option Value} {s0 : Nat} {s1 : Nat} {lay : List mShp} {M : mMem} {P : mPost} (hs : mSh lay s1 = some (13, 44)) : mG (d) 145 124 [a0] [.ref s0, .ref s1] lay M P = mG d 145 127 [a0] [] lay (mSetR M s1 21 s0) P := mG_of_and (mIsO_of hs (by decide)) (e_putA (ci := 10) (j := 21) rfl rfl (Or.inr ⟨rfl, rfl, rfl⟩) rfl)
set_option maxRecDepth 20000 in
theorem g145_127 {d : Nat}  {x : Nat} {lay : List mShp} {M : mMem} {P : mPost} (hx : ¬ x = 0) : mG (d) 145 127 [some (.ref x)] [] lay M P = mG d 145 128 [some (.ref x)] [.ref x] lay M P := e_aload_nP hx (i := 0) rfl rfl rfl
set_option maxRecDepth 20000 in
theorem g145_128 {d : Nat} {a0 : Option Value} {s0 : Nat} {lay : List mShp} {M : mMem} {P : mPost} : mG (d) 145 128 [a0] [.ref s0] lay M P = mG d 145 130 [a0] [.int (Int32.ofInt 8), .ref s0] lay M P := e_bipush rfl
set_option maxRecDepth 20000 in
theorem g145_130 {d : Nat} {a0 : Option Value} {s0 : Int32} {s1 : Nat} {lay : List mShp} {M : mMem} {P : mPost} : mG (d) 145 130 [a0] [.int s0, .ref s1] lay M P = ((0 ≤ s0.toInt ∧ s0.toInt ≤ 100000) ∧ mG d 145 132 [a0] [.ref (lay.length + 3), .ref s1] (lay ++ [(0, s0.toNatClampNeg)]) (mNew M (lay.length + 3)) P) := e_newa_intP rfl
set_option maxRecDepth 20000 in
theorem g145_132 {d : Nat} {a0 : Option Value} {s0 : Nat} {s1 : Nat} {lay : List mShp} {M : mMem} {P : mPost} (hs : mSh lay s1 = some (13, 44)) : mG (d) 145 132 [a0] [.ref s0, .ref s1] lay M P = mG d 145 135 [a0] [] lay (mSetR M s1 23 s0) P := mG_of_and (mIsO_of hs (by decide)) (e_putA (ci := 10) (j := 23) rfl rfl (Or.inr ⟨rfl, rfl, rfl⟩) rfl)
set_option maxRecDepth 20000 in
theorem g145_135 {d : Nat}  {x : Nat} {lay : List mShp} {M : mMem} {P : mPost} (hx : ¬ x = 0) : mG (d) 145 135 [some (.ref x)] [] lay M P = mG d 145 136 [some (.ref x)] [.ref x] lay M P := e_aload_nP hx (i := 0) rfl rfl rfl
set_option maxRecDepth 20000 in
theorem g145_136 {d : Nat} {a0 : Option Value} {s0 : Nat} {lay : List mShp} {M : mMem} {P : mPost} : mG (d) 145 136 [a0] [.ref s0] lay M P = mG d 145 138 [a0] [.int (Int32.ofInt 8), .ref s0] lay M P := e_bipush rfl
set_option maxRecDepth 20000 in
theorem g145_138 {d : Nat} {a0 : Option Value} {s0 : Int32} {s1 : Nat} {lay : List mShp} {M : mMem} {P : mPost} : mG (d) 145 138 [a0] [.int s0, .ref s1] lay M P = ((0 ≤ s0.toInt ∧ s0.toInt ≤ 100000) ∧ mG d 145 140 [a0] [.ref (lay.length + 3), .ref s1] (lay ++ [(0, s0.toNatClampNeg)]) (mNew M (lay.length + 3)) P) := e_newa_intP rfl
set_option maxRecDepth 20000 in
theorem g145_140 {d : Nat} {a0 : Option Value} {s0 : Nat} {s1 : Nat} {lay : List mShp} {M : mMem} {P : mPost} (hs : mSh lay s1 = some (13, 44)) : mG (d) 145 140 [a0] [.ref s0, .ref s1] lay M P = mG d 145 143 [a0] [] lay (mSetR M s1 24 s0) P := mG_of_and (mIsO_of hs (by decide)) (e_putA (ci := 10) (j := 24) rfl rfl (Or.inr ⟨rfl, rfl, rfl⟩) rfl)
set_option maxRecDepth 20000 in
theorem g145_143 {d : Nat}  {x : Nat} {lay : List mShp} {M : mMem} {P : mPost} (hx : ¬ x = 0) : mG (d) 145 143 [some (.ref x)] [] lay M P = mG d 145 144 [some (.ref x)] [.ref x] lay M P := e_aload_nP hx (i := 0) rfl rfl rfl
set_option maxRecDepth 20000 in
theorem g145_144 {d : Nat} {a0 : Option Value} {s0 : Nat} {lay : List mShp} {M : mMem} {P : mPost} : mG (d) 145 144 [a0] [.ref s0] lay M P = mG d 145 146 [a0] [.int (Int32.ofInt 6), .ref s0] lay M P := e_bipush rfl
set_option maxRecDepth 20000 in
theorem g145_146 {d : Nat} {a0 : Option Value} {s0 : Int32} {s1 : Nat} {lay : List mShp} {M : mMem} {P : mPost} : mG (d) 145 146 [a0] [.int s0, .ref s1] lay M P = ((0 ≤ s0.toInt ∧ s0.toInt ≤ 100000) ∧ mG d 145 148 [a0] [.ref (lay.length + 3), .ref s1] (lay ++ [(0, s0.toNatClampNeg)]) (mNew M (lay.length + 3)) P) := e_newa_intP rfl
set_option maxRecDepth 20000 in
theorem g145_148 {d : Nat} {a0 : Option Value} {s0 : Nat} {s1 : Nat} {lay : List mShp} {M : mMem} {P : mPost} : mG (d) 145 148 [a0] [.ref s0, .ref s1] lay M P = mG d 145 149 [a0] [.ref s0, .ref s0, .ref s1] lay M P := e_dupr rfl
set_option maxRecDepth 20000 in
theorem g145_149 {d : Nat} {a0 : Option Value} {s0 : Nat} {s1 : Nat} {s2 : Nat} {lay : List mShp} {M : mMem} {P : mPost} : mG (d) 145 149 [a0] [.ref s0, .ref s1, .ref s2] lay M P = mG d 145 150 [a0] [.int (Int32.ofInt 0), .ref s0, .ref s1, .ref s2] lay M P := e_iconst rfl
set_option maxRecDepth 20000 in
theorem g145_150 {d : Nat} {a0 : Option Value} {s0 : Int32} {s1 : Nat} {s2 : Nat} {s3 : Nat} {lay : List mShp} {M : mMem} {P : mPost} : mG (d) 145 150 [a0] [.int s0, .ref s1, .ref s2, .ref s3] lay M P = mG d 145 151 [a0] [.int (Int32.ofInt (-1)), .int s0, .ref s1, .ref s2, .ref s3] lay M P := e_iconst rfl
set_option maxRecDepth 20000 in
theorem g145_151 {d : Nat} {a0 : Option Value} {s0 : Int32} {s1 : Int32} {s2 : Nat} {s3 : Nat} {s4 : Nat} {n : Nat} {lay : List mShp} {M : mMem} {P : mPost} (hs : mSh lay s2 = some (0, n)) : mG (d) 145 151 [a0] [.int s0, .int s1, .ref s2, .ref s3, .ref s4] lay M P = (mIdx s1 n = true ∧ mG d 145 152 [a0] [.ref s3, .ref s4] lay (mSetI M s2 s1.toNatClampNeg s0) P) := e_iastore rfl hs
set_option maxRecDepth 20000 in
theorem g145_152 {d : Nat} {a0 : Option Value} {s0 : Nat} {s1 : Nat} {lay : List mShp} {M : mMem} {P : mPost} : mG (d) 145 152 [a0] [.ref s0, .ref s1] lay M P = mG d 145 153 [a0] [.ref s0, .ref s0, .ref s1] lay M P := e_dupr rfl
set_option maxRecDepth 20000 in
theorem g145_153 {d : Nat} {a0 : Option Value} {s0 : Nat} {s1 : Nat} {s2 : Nat} {lay : List mShp} {M : mMem} {P : mPost} : mG (d) 145 153 [a0] [.ref s0, .ref s1, .ref s2] lay M P = mG d 145 154 [a0] [.int (Int32.ofInt 1), .ref s0, .ref s1, .ref s2] lay M P := e_iconst rfl
set_option maxRecDepth 20000 in
theorem g145_154 {d : Nat} {a0 : Option Value} {s0 : Int32} {s1 : Nat} {s2 : Nat} {s3 : Nat} {lay : List mShp} {M : mMem} {P : mPost} : mG (d) 145 154 [a0] [.int s0, .ref s1, .ref s2, .ref s3] lay M P = mG d 145 155 [a0] [.int (Int32.ofInt (-1)), .int s0, .ref s1, .ref s2, .ref s3] lay M P := e_iconst rfl
set_option maxRecDepth 20000 in
theorem g145_155 {d : Nat} {a0 : Option Value} {s0 : Int32} {s1 : Int32} {s2 : Nat} {s3 : Nat} {s4 : Nat} {n : Nat} {lay : List mShp} {M : mMem} {P : mPost} (hs : mSh lay s2 = some (0, n)) : mG (d) 145 155 [a0] [.int s0, .int s1, .ref s2, .ref s3, .ref s4] lay M P = (mIdx s1 n = true ∧ mG d 145 156 [a0] [.ref s3, .ref s4] lay (mSetI M s2 s1.toNatClampNeg s0) P) := e_iastore rfl hs
set_option maxRecDepth 20000 in
theorem g145_156 {d : Nat} {a0 : Option Value} {s0 : Nat} {s1 : Nat} {lay : List mShp} {M : mMem} {P : mPost} : mG (d) 145 156 [a0] [.ref s0, .ref s1] lay M P = mG d 145 157 [a0] [.ref s0, .ref s0, .ref s1] lay M P := e_dupr rfl
set_option maxRecDepth 20000 in
theorem g145_157 {d : Nat} {a0 : Option Value} {s0 : Nat} {s1 : Nat} {s2 : Nat} {lay : List mShp} {M : mMem} {P : mPost} : mG (d) 145 157 [a0] [.ref s0, .ref s1, .ref s2] lay M P = mG d 145 158 [a0] [.int (Int32.ofInt 2), .ref s0, .ref s1, .ref s2] lay M P := e_iconst rfl
set_option maxRecDepth 20000 in
theorem g145_158 {d : Nat} {a0 : Option Value} {s0 : Int32} {s1 : Nat} {s2 : Nat} {s3 : Nat} {lay : List mShp} {M : mMem} {P : mPost} : mG (d) 145 158 [a0] [.int s0, .ref s1, .ref s2, .ref s3] lay M P = mG d 145 159 [a0] [.int (Int32.ofInt (-1)), .int s0, .ref s1, .ref s2, .ref s3] lay M P := e_iconst rfl
set_option maxRecDepth 20000 in
theorem g145_159 {d : Nat} {a0 : Option Value} {s0 : Int32} {s1 : Int32} {s2 : Nat} {s3 : Nat} {s4 : Nat} {n : Nat} {lay : List mShp} {M : mMem} {P : mPost} (hs : mSh lay s2 = some (0, n)) : mG (d) 145 159 [a0] [.int s0, .int s1, .ref s2, .ref s3, .ref s4] lay M P = (mIdx s1 n = true ∧ mG d 145 160 [a0] [.ref s3, .ref s4] lay (mSetI M s2 s1.toNatClampNeg s0) P) := e_iastore rfl hs
set_option maxRecDepth 20000 in
theorem g145_160 {d : Nat} {a0 : Option Value} {s0 : Nat} {s1 : Nat} {lay : List mShp} {M : mMem} {P : mPost} : mG (d) 145 160 [a0] [.ref s0, .ref s1] lay M P = mG d 145 161 [a0] [.ref s0, .ref s0, .ref s1] lay M P := e_dupr rfl
set_option maxRecDepth 20000 in
theorem g145_161 {d : Nat} {a0 : Option Value} {s0 : Nat} {s1 : Nat} {s2 : Nat} {lay : List mShp} {M : mMem} {P : mPost} : mG (d) 145 161 [a0] [.ref s0, .ref s1, .ref s2] lay M P = mG d 145 162 [a0] [.int (Int32.ofInt 3), .ref s0, .ref s1, .ref s2] lay M P := e_iconst rfl
set_option maxRecDepth 20000 in
theorem g145_162 {d : Nat} {a0 : Option Value} {s0 : Int32} {s1 : Nat} {s2 : Nat} {s3 : Nat} {lay : List mShp} {M : mMem} {P : mPost} : mG (d) 145 162 [a0] [.int s0, .ref s1, .ref s2, .ref s3] lay M P = mG d 145 163 [a0] [.int (Int32.ofInt (-1)), .int s0, .ref s1, .ref s2, .ref s3] lay M P := e_iconst rfl
set_option maxRecDepth 20000 in
theorem g145_163 {d : Nat} {a0 : Option Value} {s0 : Int32} {s1 : Int32} {s2 : Nat} {s3 : Nat} {s4 : Nat} {n : Nat} {lay : List mShp} {M : mMem} {P : mPost} (hs : mSh lay s2 = some (0, n)) : mG (d) 145 163 [a0] [.int s0, .int s1, .ref s2, .ref s3, .ref s4] lay M P = (mIdx s1 n = true ∧ mG d 145 164 [a0] [.ref s3, .ref s4] lay (mSetI M s2 s1.toNatClampNeg s0) P) := e_iastore rfl hs
set_option maxRecDepth 20000 in
theorem g145_164 {d : Nat} {a0 : Option Value} {s0 : Nat} {s1 : Nat} {lay : List mShp} {M : mMem} {P : mPost} : mG (d) 145 164 [a0] [.ref s0, .ref s1] lay M P = mG d 145 165 [a0] [.ref s0, .ref s0, .ref s1] lay M P := e_dupr rfl
set_option maxRecDepth 20000 in
theorem g145_165 {d : Nat} {a0 : Option Value} {s0 : Nat} {s1 : Nat} {s2 : Nat} {lay : List mShp} {M : mMem} {P : mPost} : mG (d) 145 165 [a0] [.ref s0, .ref s1, .ref s2] lay M P = mG d 145 166 [a0] [.int (Int32.ofInt 4), .ref s0, .ref s1, .ref s2] lay M P := e_iconst rfl
set_option maxRecDepth 20000 in
theorem g145_166 {d : Nat} {a0 : Option Value} {s0 : Int32} {s1 : Nat} {s2 : Nat} {s3 : Nat} {lay : List mShp} {M : mMem} {P : mPost} : mG (d) 145 166 [a0] [.int s0, .ref s1, .ref s2, .ref s3] lay M P = mG d 145 167 [a0] [.int (Int32.ofInt (-1)), .int s0, .ref s1, .ref s2, .ref s3] lay M P := e_iconst rfl
set_option maxRecDepth 20000 in
theorem g145_167 {d : Nat} {a0 : Option Value} {s0 : Int32} {s1 : Int32} {s2 : Nat} {s3 : Nat} {s4 : Nat} {n : Nat} {lay : List mShp} {M : mMem} {P : mPost} (hs : mSh lay s2 = some (0, n)) : mG (d) 145 167 [a0] [.int s0, .int s1, .ref s2, .ref s3, .ref s4] lay M P = (mIdx s1 n = true ∧ mG d 145 168 [a0] [.ref s3, .ref s4] lay (mSetI M s2 s1.toNatClampNeg s0) P) := e_iastore rfl hs
set_option maxRecDepth 20000 in
theorem g145_168 {d : Nat} {a0 : Option Value} {s0 : Nat} {s1 : Nat} {lay : List mShp} {M : mMem} {P : mPost} : mG (d) 145 168 [a0] [.ref s0, .ref s1] lay M P = mG d 145 169 [a0] [.ref s0, .ref s0, .ref s1] lay M P := e_dupr rfl
set_option maxRecDepth 20000 in
theorem g145_169 {d : Nat} {a0 : Option Value} {s0 : Nat} {s1 : Nat} {s2 : Nat} {lay : List mShp} {M : mMem} {P : mPost} : mG (d) 145 169 [a0] [.ref s0, .ref s1, .ref s2] lay M P = mG d 145 170 [a0] [.int (Int32.ofInt 5), .ref s0, .ref s1, .ref s2] lay M P := e_iconst rfl
set_option maxRecDepth 20000 in
theorem g145_170 {d : Nat} {a0 : Option Value} {s0 : Int32} {s1 : Nat} {s2 : Nat} {s3 : Nat} {lay : List mShp} {M : mMem} {P : mPost} : mG (d) 145 170 [a0] [.int s0, .ref s1, .ref s2, .ref s3] lay M P = mG d 145 171 [a0] [.int (Int32.ofInt (-1)), .int s0, .ref s1, .ref s2, .ref s3] lay M P := e_iconst rfl
set_option maxRecDepth 20000 in
theorem g145_171 {d : Nat} {a0 : Option Value} {s0 : Int32} {s1 : Int32} {s2 : Nat} {s3 : Nat} {s4 : Nat} {n : Nat} {lay : List mShp} {M : mMem} {P : mPost} (hs : mSh lay s2 = some (0, n)) : mG (d) 145 171 [a0] [.int s0, .int s1, .ref s2, .ref s3, .ref s4] lay M P = (mIdx s1 n = true ∧ mG d 145 172 [a0] [.ref s3, .ref s4] lay (mSetI M s2 s1.toNatClampNeg s0) P) := e_iastore rfl hs
set_option maxRecDepth 20000 in
theorem g145_172 {d : Nat} {a0 : Option Value} {s0 : Nat} {s1 : Nat} {lay : List mShp} {M : mMem} {P : mPost} (hs : mSh lay s1 = some (13, 44)) : mG (d) 145 172 [a0] [.ref s0, .ref s1] lay M P = mG d 145 175 [a0] [] lay (mSetR M s1 28 s0) P := mG_of_and (mIsO_of hs (by decide)) (e_putA (ci := 10) (j := 28) rfl rfl (Or.inr ⟨rfl, rfl, rfl⟩) rfl)
set_option maxRecDepth 20000 in
theorem g145_175 {d : Nat}  {x : Nat} {lay : List mShp} {M : mMem} {P : mPost} (hx : ¬ x = 0) : mG (d) 145 175 [some (.ref x)] [] lay M P = mG d 145 176 [some (.ref x)] [.ref x] lay M P := e_aload_nP hx (i := 0) rfl rfl rfl
set_option maxRecDepth 20000 in
theorem g145_176 {d : Nat} {a0 : Option Value} {s0 : Nat} {lay : List mShp} {M : mMem} {P : mPost} : mG (d) 145 176 [a0] [.ref s0] lay M P = mG d 145 178 [a0] [.int (Int32.ofInt 6), .ref s0] lay M P := e_bipush rfl
set_option maxRecDepth 20000 in
theorem g145_178 {d : Nat} {a0 : Option Value} {s0 : Int32} {s1 : Nat} {lay : List mShp} {M : mMem} {P : mPost} : mG (d) 145 178 [a0] [.int s0, .ref s1] lay M P = ((0 ≤ s0.toInt ∧ s0.toInt ≤ 100000) ∧ mG d 145 180 [a0] [.ref (lay.length + 3), .ref s1] (lay ++ [(0, s0.toNatClampNeg)]) (mNew M (lay.length + 3)) P) := e_newa_intP rfl
set_option maxRecDepth 20000 in
theorem g145_180 {d : Nat} {a0 : Option Value} {s0 : Nat} {s1 : Nat} {lay : List mShp} {M : mMem} {P : mPost} (hs : mSh lay s1 = some (13, 44)) : mG (d) 145 180 [a0] [.ref s0, .ref s1] lay M P = mG d 145 183 [a0] [] lay (mSetR M s1 29 s0) P := mG_of_and (mIsO_of hs (by decide)) (e_putA (ci := 10) (j := 29) rfl rfl (Or.inr ⟨rfl, rfl, rfl⟩) rfl)
set_option maxRecDepth 20000 in
theorem g145_183 {d : Nat}  {x : Nat} {lay : List mShp} {M : mMem} {P : mPost} (hx : ¬ x = 0) : mG (d) 145 183 [some (.ref x)] [] lay M P = mG d 145 184 [some (.ref x)] [.ref x] lay M P := e_aload_nP hx (i := 0) rfl rfl rfl
set_option maxRecDepth 20000 in
theorem g145_184 {d : Nat} {a0 : Option Value} {s0 : Nat} {lay : List mShp} {M : mMem} {P : mPost} : mG (d) 145 184 [a0] [.ref s0] lay M P = mG d 145 187 [a0] [.int (Int32.ofInt 360), .ref s0] lay M P := e_sipush rfl
set_option maxRecDepth 20000 in
theorem g145_187 {d : Nat} {a0 : Option Value} {s0 : Int32} {s1 : Nat} {lay : List mShp} {M : mMem} {P : mPost} : mG (d) 145 187 [a0] [.int s0, .ref s1] lay M P = ((0 ≤ s0.toInt ∧ s0.toInt ≤ 100000) ∧ mG d 145 189 [a0] [.ref (lay.length + 3), .ref s1] (lay ++ [(1, s0.toNatClampNeg)]) (mNew M (lay.length + 3)) P) := e_newa_longP rfl
set_option maxRecDepth 20000 in
theorem g145_189 {d : Nat} {a0 : Option Value} {s0 : Nat} {s1 : Nat} {lay : List mShp} {M : mMem} {P : mPost} (hs : mSh lay s1 = some (13, 44)) : mG (d) 145 189 [a0] [.ref s0, .ref s1] lay M P = mG d 145 192 [a0] [] lay (mSetR M s1 30 s0) P := mG_of_and (mIsO_of hs (by decide)) (e_putA (ci := 10) (j := 30) rfl rfl (Or.inr ⟨rfl, rfl, rfl⟩) rfl)
set_option maxRecDepth 20000 in
theorem g145_192 {d : Nat}  {x : Nat} {lay : List mShp} {M : mMem} {P : mPost} (hx : ¬ x = 0) : mG (d) 145 192 [some (.ref x)] [] lay M P = mG d 145 193 [some (.ref x)] [.ref x] lay M P := e_aload_nP hx (i := 0) rfl rfl rfl
set_option maxRecDepth 20000 in
theorem g145_193 {d : Nat} {a0 : Option Value} {s0 : Nat} {lay : List mShp} {M : mMem} {P : mPost} : mG (d) 145 193 [a0] [.ref s0] lay M P = mG d 145 195 [a0] [.int (Int32.ofInt 60), .ref s0] lay M P := e_bipush rfl
set_option maxRecDepth 20000 in
theorem g145_195 {d : Nat} {a0 : Option Value} {s0 : Int32} {s1 : Nat} {lay : List mShp} {M : mMem} {P : mPost} : mG (d) 145 195 [a0] [.int s0, .ref s1] lay M P = ((0 ≤ s0.toInt ∧ s0.toInt ≤ 100000) ∧ mG d 145 197 [a0] [.ref (lay.length + 3), .ref s1] (lay ++ [(1, s0.toNatClampNeg)]) (mNew M (lay.length + 3)) P) := e_newa_longP rfl
set_option maxRecDepth 20000 in
theorem g145_197 {d : Nat} {a0 : Option Value} {s0 : Nat} {s1 : Nat} {lay : List mShp} {M : mMem} {P : mPost} (hs : mSh lay s1 = some (13, 44)) : mG (d) 145 197 [a0] [.ref s0, .ref s1] lay M P = mG d 145 200 [a0] [] lay (mSetR M s1 31 s0) P := mG_of_and (mIsO_of hs (by decide)) (e_putA (ci := 10) (j := 31) rfl rfl (Or.inr ⟨rfl, rfl, rfl⟩) rfl)
set_option maxRecDepth 20000 in
theorem g145_200 {d : Nat}  {x : Nat} {lay : List mShp} {M : mMem} {P : mPost} (hx : ¬ x = 0) : mG (d) 145 200 [some (.ref x)] [] lay M P = mG d 145 201 [some (.ref x)] [.ref x] lay M P := e_aload_nP hx (i := 0) rfl rfl rfl
set_option maxRecDepth 20000 in
theorem g145_201 {d : Nat} {a0 : Option Value} {s0 : Nat} {lay : List mShp} {M : mMem} {P : mPost} : mG (d) 145 201 [a0] [.ref s0] lay M P = mG d 145 202 [a0] [.int (Int32.ofInt 5), .ref s0] lay M P := e_iconst rfl
set_option maxRecDepth 20000 in
theorem g145_202 {d : Nat} {a0 : Option Value} {s0 : Int32} {s1 : Nat} {lay : List mShp} {M : mMem} {P : mPost} : mG (d) 145 202 [a0] [.int s0, .ref s1] lay M P = ((0 ≤ s0.toInt ∧ s0.toInt ≤ 100000) ∧ mG d 145 204 [a0] [.ref (lay.length + 3), .ref s1] (lay ++ [(0, s0.toNatClampNeg)]) (mNew M (lay.length + 3)) P) := e_newa_intP rfl
set_option maxRecDepth 20000 in
theorem g145_204 {d : Nat} {a0 : Option Value} {s0 : Nat} {s1 : Nat} {lay : List mShp} {M : mMem} {P : mPost} (hs : mSh lay s1 = some (13, 44)) : mG (d) 145 204 [a0] [.ref s0, .ref s1] lay M P = mG d 145 207 [a0] [] lay (mSetR M s1 33 s0) P := mG_of_and (mIsO_of hs (by decide)) (e_putA (ci := 10) (j := 33) rfl rfl (Or.inr ⟨rfl, rfl, rfl⟩) rfl)
set_option maxRecDepth 20000 in
theorem g145_207 {d : Nat}  {x : Nat} {lay : List mShp} {M : mMem} {P : mPost} (hx : ¬ x = 0) : mG (d) 145 207 [some (.ref x)] [] lay M P = mG d 145 208 [some (.ref x)] [.ref x] lay M P := e_aload_nP hx (i := 0) rfl rfl rfl
set_option maxRecDepth 20000 in
theorem g145_208 {d : Nat} {a0 : Option Value} {s0 : Nat} {lay : List mShp} {M : mMem} {P : mPost} : mG (d) 145 208 [a0] [.ref s0] lay M P = mG d 145 210 [a0] [.int (Int32.ofInt 42), .ref s0] lay M P := e_bipush rfl
set_option maxRecDepth 20000 in
theorem g145_210 {d : Nat} {a0 : Option Value} {s0 : Int32} {s1 : Nat} {lay : List mShp} {M : mMem} {P : mPost} : mG (d) 145 210 [a0] [.int s0, .ref s1] lay M P = ((0 ≤ s0.toInt ∧ s0.toInt ≤ 100000) ∧ mG d 145 212 [a0] [.ref (lay.length + 3), .ref s1] (lay ++ [(0, s0.toNatClampNeg)]) (mNew M (lay.length + 3)) P) := e_newa_intP rfl
set_option maxRecDepth 20000 in
theorem g145_212 {d : Nat} {a0 : Option Value} {s0 : Nat} {s1 : Nat} {lay : List mShp} {M : mMem} {P : mPost} (hs : mSh lay s1 = some (13, 44)) : mG (d) 145 212 [a0] [.ref s0, .ref s1] lay M P = mG d 145 215 [a0] [] lay (mSetR M s1 34 s0) P := mG_of_and (mIsO_of hs (by decide)) (e_putA (ci := 10) (j := 34) rfl rfl (Or.inr ⟨rfl, rfl, rfl⟩) rfl)
set_option maxRecDepth 20000 in
theorem g145_215 {d : Nat}  {x : Nat} {lay : List mShp} {M : mMem} {P : mPost} (hx : ¬ x = 0) : mG (d) 145 215 [some (.ref x)] [] lay M P = mG d 145 216 [some (.ref x)] [.ref x] lay M P := e_aload_nP hx (i := 0) rfl rfl rfl
set_option maxRecDepth 20000 in
theorem g145_216 {d : Nat} {a0 : Option Value} {s0 : Nat} {lay : List mShp} {M : mMem} {P : mPost} : mG (d) 145 216 [a0] [.ref s0] lay M P = mG d 145 217 [a0] [.int (Int32.ofInt 5), .ref s0] lay M P := e_iconst rfl
set_option maxRecDepth 20000 in
theorem g145_217 {d : Nat} {a0 : Option Value} {s0 : Int32} {s1 : Nat} {lay : List mShp} {M : mMem} {P : mPost} : mG (d) 145 217 [a0] [.int s0, .ref s1] lay M P = ((0 ≤ s0.toInt ∧ s0.toInt ≤ 100000) ∧ mG d 145 219 [a0] [.ref (lay.length + 3), .ref s1] (lay ++ [(0, s0.toNatClampNeg)]) (mNew M (lay.length + 3)) P) := e_newa_intP rfl
set_option maxRecDepth 20000 in
theorem g145_219 {d : Nat} {a0 : Option Value} {s0 : Nat} {s1 : Nat} {lay : List mShp} {M : mMem} {P : mPost} (hs : mSh lay s1 = some (13, 44)) : mG (d) 145 219 [a0] [.ref s0, .ref s1] lay M P = mG d 145 222 [a0] [] lay (mSetR M s1 35 s0) P := mG_of_and (mIsO_of hs (by decide)) (e_putA (ci := 10) (j := 35) rfl rfl (Or.inr ⟨rfl, rfl, rfl⟩) rfl)
set_option maxRecDepth 20000 in
theorem g145_222 {d : Nat}  {x : Nat} {lay : List mShp} {M : mMem} {P : mPost} (hx : ¬ x = 0) : mG (d) 145 222 [some (.ref x)] [] lay M P = mG d 145 223 [some (.ref x)] [.ref x] lay M P := e_aload_nP hx (i := 0) rfl rfl rfl
set_option maxRecDepth 20000 in
theorem g145_223 {d : Nat} {a0 : Option Value} {s0 : Nat} {lay : List mShp} {M : mMem} {P : mPost} : mG (d) 145 223 [a0] [.ref s0] lay M P = mG d 145 225 [a0] [.int (Int32.ofInt 8), .ref s0] lay M P := e_bipush rfl
set_option maxRecDepth 20000 in
theorem g145_225 {d : Nat} {a0 : Option Value} {s0 : Int32} {s1 : Nat} {lay : List mShp} {M : mMem} {P : mPost} : mG (d) 145 225 [a0] [.int s0, .ref s1] lay M P = ((0 ≤ s0.toInt ∧ s0.toInt ≤ 100000) ∧ mG d 145 227 [a0] [.ref (lay.length + 3), .ref s1] (lay ++ [(0, s0.toNatClampNeg)]) (mNew M (lay.length + 3)) P) := e_newa_intP rfl
set_option maxRecDepth 20000 in
theorem g145_227 {d : Nat} {a0 : Option Value} {s0 : Nat} {s1 : Nat} {lay : List mShp} {M : mMem} {P : mPost} : mG (d) 145 227 [a0] [.ref s0, .ref s1] lay M P = mG d 145 228 [a0] [.ref s0, .ref s0, .ref s1] lay M P := e_dupr rfl
set_option maxRecDepth 20000 in
theorem g145_228 {d : Nat} {a0 : Option Value} {s0 : Nat} {s1 : Nat} {s2 : Nat} {lay : List mShp} {M : mMem} {P : mPost} : mG (d) 145 228 [a0] [.ref s0, .ref s1, .ref s2] lay M P = mG d 145 229 [a0] [.int (Int32.ofInt 0), .ref s0, .ref s1, .ref s2] lay M P := e_iconst rfl
set_option maxRecDepth 20000 in
theorem g145_229 {d : Nat} {a0 : Option Value} {s0 : Int32} {s1 : Nat} {s2 : Nat} {s3 : Nat} {lay : List mShp} {M : mMem} {P : mPost} : mG (d) 145 229 [a0] [.int s0, .ref s1, .ref s2, .ref s3] lay M P = mG d 145 230 [a0] [.int (Int32.ofInt (-1)), .int s0, .ref s1, .ref s2, .ref s3] lay M P := e_iconst rfl
set_option maxRecDepth 20000 in
theorem g145_230 {d : Nat} {a0 : Option Value} {s0 : Int32} {s1 : Int32} {s2 : Nat} {s3 : Nat} {s4 : Nat} {n : Nat} {lay : List mShp} {M : mMem} {P : mPost} (hs : mSh lay s2 = some (0, n)) : mG (d) 145 230 [a0] [.int s0, .int s1, .ref s2, .ref s3, .ref s4] lay M P = (mIdx s1 n = true ∧ mG d 145 231 [a0] [.ref s3, .ref s4] lay (mSetI M s2 s1.toNatClampNeg s0) P) := e_iastore rfl hs
set_option maxRecDepth 20000 in
theorem g145_231 {d : Nat} {a0 : Option Value} {s0 : Nat} {s1 : Nat} {lay : List mShp} {M : mMem} {P : mPost} : mG (d) 145 231 [a0] [.ref s0, .ref s1] lay M P = mG d 145 232 [a0] [.ref s0, .ref s0, .ref s1] lay M P := e_dupr rfl
set_option maxRecDepth 20000 in
theorem g145_232 {d : Nat} {a0 : Option Value} {s0 : Nat} {s1 : Nat} {s2 : Nat} {lay : List mShp} {M : mMem} {P : mPost} : mG (d) 145 232 [a0] [.ref s0, .ref s1, .ref s2] lay M P = mG d 145 233 [a0] [.int (Int32.ofInt 1), .ref s0, .ref s1, .ref s2] lay M P := e_iconst rfl
set_option maxRecDepth 20000 in
theorem g145_233 {d : Nat} {a0 : Option Value} {s0 : Int32} {s1 : Nat} {s2 : Nat} {s3 : Nat} {lay : List mShp} {M : mMem} {P : mPost} : mG (d) 145 233 [a0] [.int s0, .ref s1, .ref s2, .ref s3] lay M P = mG d 145 234 [a0] [.int (Int32.ofInt 0), .int s0, .ref s1, .ref s2, .ref s3] lay M P := e_iconst rfl
set_option maxRecDepth 20000 in
theorem g145_234 {d : Nat} {a0 : Option Value} {s0 : Int32} {s1 : Int32} {s2 : Nat} {s3 : Nat} {s4 : Nat} {n : Nat} {lay : List mShp} {M : mMem} {P : mPost} (hs : mSh lay s2 = some (0, n)) : mG (d) 145 234 [a0] [.int s0, .int s1, .ref s2, .ref s3, .ref s4] lay M P = (mIdx s1 n = true ∧ mG d 145 235 [a0] [.ref s3, .ref s4] lay (mSetI M s2 s1.toNatClampNeg s0) P) := e_iastore rfl hs
set_option maxRecDepth 20000 in
theorem g145_235 {d : Nat} {a0 : Option Value} {s0 : Nat} {s1 : Nat} {lay : List mShp} {M : mMem} {P : mPost} : mG (d) 145 235 [a0] [.ref s0, .ref s1] lay M P = mG d 145 236 [a0] [.ref s0, .ref s0, .ref s1] lay M P := e_dupr rfl
set_option maxRecDepth 20000 in
theorem g145_236 {d : Nat} {a0 : Option Value} {s0 : Nat} {s1 : Nat} {s2 : Nat} {lay : List mShp} {M : mMem} {P : mPost} : mG (d) 145 236 [a0] [.ref s0, .ref s1, .ref s2] lay M P = mG d 145 237 [a0] [.int (Int32.ofInt 2), .ref s0, .ref s1, .ref s2] lay M P := e_iconst rfl
set_option maxRecDepth 20000 in
theorem g145_237 {d : Nat} {a0 : Option Value} {s0 : Int32} {s1 : Nat} {s2 : Nat} {s3 : Nat} {lay : List mShp} {M : mMem} {P : mPost} : mG (d) 145 237 [a0] [.int s0, .ref s1, .ref s2, .ref s3] lay M P = mG d 145 238 [a0] [.int (Int32.ofInt 0), .int s0, .ref s1, .ref s2, .ref s3] lay M P := e_iconst rfl
set_option maxRecDepth 20000 in
theorem g145_238 {d : Nat} {a0 : Option Value} {s0 : Int32} {s1 : Int32} {s2 : Nat} {s3 : Nat} {s4 : Nat} {n : Nat} {lay : List mShp} {M : mMem} {P : mPost} (hs : mSh lay s2 = some (0, n)) : mG (d) 145 238 [a0] [.int s0, .int s1, .ref s2, .ref s3, .ref s4] lay M P = (mIdx s1 n = true ∧ mG d 145 239 [a0] [.ref s3, .ref s4] lay (mSetI M s2 s1.toNatClampNeg s0) P) := e_iastore rfl hs
set_option maxRecDepth 20000 in
theorem g145_239 {d : Nat} {a0 : Option Value} {s0 : Nat} {s1 : Nat} {lay : List mShp} {M : mMem} {P : mPost} : mG (d) 145 239 [a0] [.ref s0, .ref s1] lay M P = mG d 145 240 [a0] [.ref s0, .ref s0, .ref s1] lay M P := e_dupr rfl
set_option maxRecDepth 20000 in
theorem g145_240 {d : Nat} {a0 : Option Value} {s0 : Nat} {s1 : Nat} {s2 : Nat} {lay : List mShp} {M : mMem} {P : mPost} : mG (d) 145 240 [a0] [.ref s0, .ref s1, .ref s2] lay M P = mG d 145 241 [a0] [.int (Int32.ofInt 3), .ref s0, .ref s1, .ref s2] lay M P := e_iconst rfl
set_option maxRecDepth 20000 in
theorem g145_241 {d : Nat} {a0 : Option Value} {s0 : Int32} {s1 : Nat} {s2 : Nat} {s3 : Nat} {lay : List mShp} {M : mMem} {P : mPost} : mG (d) 145 241 [a0] [.int s0, .ref s1, .ref s2, .ref s3] lay M P = mG d 145 242 [a0] [.int (Int32.ofInt 2), .int s0, .ref s1, .ref s2, .ref s3] lay M P := e_iconst rfl
set_option maxRecDepth 20000 in
theorem g145_242 {d : Nat} {a0 : Option Value} {s0 : Int32} {s1 : Int32} {s2 : Nat} {s3 : Nat} {s4 : Nat} {n : Nat} {lay : List mShp} {M : mMem} {P : mPost} (hs : mSh lay s2 = some (0, n)) : mG (d) 145 242 [a0] [.int s0, .int s1, .ref s2, .ref s3, .ref s4] lay M P = (mIdx s1 n = true ∧ mG d 145 243 [a0] [.ref s3, .ref s4] lay (mSetI M s2 s1.toNatClampNeg s0) P) := e_iastore rfl hs
set_option maxRecDepth 20000 in
theorem g145_243 {d : Nat} {a0 : Option Value} {s0 : Nat} {s1 : Nat} {lay : List mShp} {M : mMem} {P : mPost} : mG (d) 145 243 [a0] [.ref s0, .ref s1] lay M P = mG d 145 244 [a0] [.ref s0, .ref s0, .ref s1] lay M P := e_dupr rfl
set_option maxRecDepth 20000 in
theorem g145_244 {d : Nat} {a0 : Option Value} {s0 : Nat} {s1 : Nat} {s2 : Nat} {lay : List mShp} {M : mMem} {P : mPost} : mG (d) 145 244 [a0] [.ref s0, .ref s1, .ref s2] lay M P = mG d 145 245 [a0] [.int (Int32.ofInt 4), .ref s0, .ref s1, .ref s2] lay M P := e_iconst rfl
set_option maxRecDepth 20000 in
theorem g145_245 {d : Nat} {a0 : Option Value} {s0 : Int32} {s1 : Nat} {s2 : Nat} {s3 : Nat} {lay : List mShp} {M : mMem} {P : mPost} : mG (d) 145 245 [a0] [.int s0, .ref s1, .ref s2, .ref s3] lay M P = mG d 145 246 [a0] [.int (Int32.ofInt 1), .int s0, .ref s1, .ref s2, .ref s3] lay M P := e_iconst rfl
set_option maxRecDepth 20000 in
theorem g145_246 {d : Nat} {a0 : Option Value} {s0 : Int32} {s1 : Int32} {s2 : Nat} {s3 : Nat} {s4 : Nat} {n : Nat} {lay : List mShp} {M : mMem} {P : mPost} (hs : mSh lay s2 = some (0, n)) : mG (d) 145 246 [a0] [.int s0, .int s1, .ref s2, .ref s3, .ref s4] lay M P = (mIdx s1 n = true ∧ mG d 145 247 [a0] [.ref s3, .ref s4] lay (mSetI M s2 s1.toNatClampNeg s0) P) := e_iastore rfl hs
set_option maxRecDepth 20000 in
theorem g145_247 {d : Nat} {a0 : Option Value} {s0 : Nat} {s1 : Nat} {lay : List mShp} {M : mMem} {P : mPost} : mG (d) 145 247 [a0] [.ref s0, .ref s1] lay M P = mG d 145 248 [a0] [.ref s0, .ref s0, .ref s1] lay M P := e_dupr rfl
set_option maxRecDepth 20000 in
theorem g145_248 {d : Nat} {a0 : Option Value} {s0 : Nat} {s1 : Nat} {s2 : Nat} {lay : List mShp} {M : mMem} {P : mPost} : mG (d) 145 248 [a0] [.ref s0, .ref s1, .ref s2] lay M P = mG d 145 249 [a0] [.int (Int32.ofInt 5), .ref s0, .ref s1, .ref s2] lay M P := e_iconst rfl
set_option maxRecDepth 20000 in
theorem g145_249 {d : Nat} {a0 : Option Value} {s0 : Int32} {s1 : Nat} {s2 : Nat} {s3 : Nat} {lay : List mShp} {M : mMem} {P : mPost} : mG (d) 145 249 [a0] [.int s0, .ref s1, .ref s2, .ref s3] lay M P = mG d 145 250 [a0] [.int (Int32.ofInt 3), .int s0, .ref s1, .ref s2, .ref s3] lay M P := e_iconst rfl
set_option maxRecDepth 20000 in
theorem g145_250 {d : Nat} {a0 : Option Value} {s0 : Int32} {s1 : Int32} {s2 : Nat} {s3 : Nat} {s4 : Nat} {n : Nat} {lay : List mShp} {M : mMem} {P : mPost} (hs : mSh lay s2 = some (0, n)) : mG (d) 145 250 [a0] [.int s0, .int s1, .ref s2, .ref s3, .ref s4] lay M P = (mIdx s1 n = true ∧ mG d 145 251 [a0] [.ref s3, .ref s4] lay (mSetI M s2 s1.toNatClampNeg s0) P) := e_iastore rfl hs
set_option maxRecDepth 20000 in
theorem g145_251 {d : Nat} {a0 : Option Value} {s0 : Nat} {s1 : Nat} {lay : List mShp} {M : mMem} {P : mPost} : mG (d) 145 251 [a0] [.ref s0, .ref s1] lay M P = mG d 145 252 [a0] [.ref s0, .ref s0, .ref s1] lay M P := e_dupr rfl
set_option maxRecDepth 20000 in
theorem g145_252 {d : Nat} {a0 : Option Value} {s0 : Nat} {s1 : Nat} {s2 : Nat} {lay : List mShp} {M : mMem} {P : mPost} : mG (d) 145 252 [a0] [.ref s0, .ref s1, .ref s2] lay M P = mG d 145 254 [a0] [.int (Int32.ofInt 6), .ref s0, .ref s1, .ref s2] lay M P := e_bipush rfl
set_option maxRecDepth 20000 in
theorem g145_254 {d : Nat} {a0 : Option Value} {s0 : Int32} {s1 : Nat} {s2 : Nat} {s3 : Nat} {lay : List mShp} {M : mMem} {P : mPost} : mG (d) 145 254 [a0] [.int s0, .ref s1, .ref s2, .ref s3] lay M P = mG d 145 255 [a0] [.int (Int32.ofInt 0), .int s0, .ref s1, .ref s2, .ref s3] lay M P := e_iconst rfl
set_option maxRecDepth 20000 in
theorem g145_255 {d : Nat} {a0 : Option Value} {s0 : Int32} {s1 : Int32} {s2 : Nat} {s3 : Nat} {s4 : Nat} {n : Nat} {lay : List mShp} {M : mMem} {P : mPost} (hs : mSh lay s2 = some (0, n)) : mG (d) 145 255 [a0] [.int s0, .int s1, .ref s2, .ref s3, .ref s4] lay M P = (mIdx s1 n = true ∧ mG d 145 256 [a0] [.ref s3, .ref s4] lay (mSetI M s2 s1.toNatClampNeg s0) P) := e_iastore rfl hs
set_option maxRecDepth 20000 in
theorem g145_256 {d : Nat} {a0 : Option Value} {s0 : Nat} {s1 : Nat} {lay : List mShp} {M : mMem} {P : mPost} : mG (d) 145 256 [a0] [.ref s0, .ref s1] lay M P = mG d 145 257 [a0] [.ref s0, .ref s0, .ref s1] lay M P := e_dupr rfl
set_option maxRecDepth 20000 in
theorem g145_257 {d : Nat} {a0 : Option Value} {s0 : Nat} {s1 : Nat} {s2 : Nat} {lay : List mShp} {M : mMem} {P : mPost} : mG (d) 145 257 [a0] [.ref s0, .ref s1, .ref s2] lay M P = mG d 145 259 [a0] [.int (Int32.ofInt 7), .ref s0, .ref s1, .ref s2] lay M P := e_bipush rfl
set_option maxRecDepth 20000 in
theorem g145_259 {d : Nat} {a0 : Option Value} {s0 : Int32} {s1 : Nat} {s2 : Nat} {s3 : Nat} {lay : List mShp} {M : mMem} {P : mPost} : mG (d) 145 259 [a0] [.int s0, .ref s1, .ref s2, .ref s3] lay M P = mG d 145 260 [a0] [.int (Int32.ofInt 4), .int s0, .ref s1, .ref s2, .ref s3] lay M P := e_iconst rfl
set_option maxRecDepth 20000 in
theorem g145_260 {d : Nat} {a0 : Option Value} {s0 : Int32} {s1 : Int32} {s2 : Nat} {s3 : Nat} {s4 : Nat} {n : Nat} {lay : List mShp} {M : mMem} {P : mPost} (hs : mSh lay s2 = some (0, n)) : mG (d) 145 260 [a0] [.int s0, .int s1, .ref s2, .ref s3, .ref s4] lay M P = (mIdx s1 n = true ∧ mG d 145 261 [a0] [.ref s3, .ref s4] lay (mSetI M s2 s1.toNatClampNeg s0) P) := e_iastore rfl hs
set_option maxRecDepth 20000 in
theorem g145_261 {d : Nat} {a0 : Option Value} {s0 : Nat} {s1 : Nat} {lay : List mShp} {M : mMem} {P : mPost} (hs : mSh lay s1 = some (13, 44)) : mG (d) 145 261 [a0] [.ref s0, .ref s1] lay M P = mG d 145 264 [a0] [] lay (mSetR M s1 38 s0) P := mG_of_and (mIsO_of hs (by decide)) (e_putA (ci := 10) (j := 38) rfl rfl (Or.inr ⟨rfl, rfl, rfl⟩) rfl)
set_option maxRecDepth 20000 in
theorem g145_264 {d : Nat}  {x : Nat} {lay : List mShp} {M : mMem} {P : mPost} (hx : ¬ x = 0) : mG (d) 145 264 [some (.ref x)] [] lay M P = mG d 145 265 [some (.ref x)] [.ref x] lay M P := e_aload_nP hx (i := 0) rfl rfl rfl
set_option maxRecDepth 20000 in
theorem g145_265 {d : Nat} {a0 : Option Value} {s0 : Nat} {lay : List mShp} {M : mMem} {P : mPost} : mG (d) 145 265 [a0] [.ref s0] lay M P = mG d 145 267 [a0] [.int (Int32.ofInt 32), .ref s0] lay M P := e_bipush rfl
set_option maxRecDepth 20000 in
theorem g145_267 {d : Nat} {a0 : Option Value} {s0 : Int32} {s1 : Nat} {lay : List mShp} {M : mMem} {P : mPost} : mG (d) 145 267 [a0] [.int s0, .ref s1] lay M P = ((0 ≤ s0.toInt ∧ s0.toInt ≤ 100000) ∧ mG d 145 269 [a0] [.ref (lay.length + 3), .ref s1] (lay ++ [(0, s0.toNatClampNeg)]) (mNew M (lay.length + 3)) P) := e_newa_intP rfl
set_option maxRecDepth 20000 in
theorem g145_269 {d : Nat} {a0 : Option Value} {s0 : Nat} {s1 : Nat} {lay : List mShp} {M : mMem} {P : mPost} : mG (d) 145 269 [a0] [.ref s0, .ref s1] lay M P = mG d 145 270 [a0] [.ref s0, .ref s0, .ref s1] lay M P := e_dupr rfl
set_option maxRecDepth 20000 in
theorem g145_270 {d : Nat} {a0 : Option Value} {s0 : Nat} {s1 : Nat} {s2 : Nat} {lay : List mShp} {M : mMem} {P : mPost} : mG (d) 145 270 [a0] [.ref s0, .ref s1, .ref s2] lay M P = mG d 145 271 [a0] [.int (Int32.ofInt 0), .ref s0, .ref s1, .ref s2] lay M P := e_iconst rfl
set_option maxRecDepth 20000 in
theorem g145_271 {d : Nat} {a0 : Option Value} {s0 : Int32} {s1 : Nat} {s2 : Nat} {s3 : Nat} {lay : List mShp} {M : mMem} {P : mPost} : mG (d) 145 271 [a0] [.int s0, .ref s1, .ref s2, .ref s3] lay M P = mG d 145 272 [a0] [.int (Int32.ofInt 1), .int s0, .ref s1, .ref s2, .ref s3] lay M P := e_iconst rfl
set_option maxRecDepth 20000 in
theorem g145_272 {d : Nat} {a0 : Option Value} {s0 : Int32} {s1 : Int32} {s2 : Nat} {s3 : Nat} {s4 : Nat} {n : Nat} {lay : List mShp} {M : mMem} {P : mPost} (hs : mSh lay s2 = some (0, n)) : mG (d) 145 272 [a0] [.int s0, .int s1, .ref s2, .ref s3, .ref s4] lay M P = (mIdx s1 n = true ∧ mG d 145 273 [a0] [.ref s3, .ref s4] lay (mSetI M s2 s1.toNatClampNeg s0) P) := e_iastore rfl hs
set_option maxRecDepth 20000 in
theorem g145_273 {d : Nat} {a0 : Option Value} {s0 : Nat} {s1 : Nat} {lay : List mShp} {M : mMem} {P : mPost} : mG (d) 145 273 [a0] [.ref s0, .ref s1] lay M P = mG d 145 274 [a0] [.ref s0, .ref s0, .ref s1] lay M P := e_dupr rfl
set_option maxRecDepth 20000 in
theorem g145_274 {d : Nat} {a0 : Option Value} {s0 : Nat} {s1 : Nat} {s2 : Nat} {lay : List mShp} {M : mMem} {P : mPost} : mG (d) 145 274 [a0] [.ref s0, .ref s1, .ref s2] lay M P = mG d 145 275 [a0] [.int (Int32.ofInt 1), .ref s0, .ref s1, .ref s2] lay M P := e_iconst rfl
set_option maxRecDepth 20000 in
theorem g145_275 {d : Nat} {a0 : Option Value} {s0 : Int32} {s1 : Nat} {s2 : Nat} {s3 : Nat} {lay : List mShp} {M : mMem} {P : mPost} : mG (d) 145 275 [a0] [.int s0, .ref s1, .ref s2, .ref s3] lay M P = mG d 145 277 [a0] [.int (Int32.ofInt 10), .int s0, .ref s1, .ref s2, .ref s3] lay M P := e_bipush rfl
set_option maxRecDepth 20000 in
theorem g145_277 {d : Nat} {a0 : Option Value} {s0 : Int32} {s1 : Int32} {s2 : Nat} {s3 : Nat} {s4 : Nat} {n : Nat} {lay : List mShp} {M : mMem} {P : mPost} (hs : mSh lay s2 = some (0, n)) : mG (d) 145 277 [a0] [.int s0, .int s1, .ref s2, .ref s3, .ref s4] lay M P = (mIdx s1 n = true ∧ mG d 145 278 [a0] [.ref s3, .ref s4] lay (mSetI M s2 s1.toNatClampNeg s0) P) := e_iastore rfl hs
set_option maxRecDepth 20000 in
theorem g145_278 {d : Nat} {a0 : Option Value} {s0 : Nat} {s1 : Nat} {lay : List mShp} {M : mMem} {P : mPost} : mG (d) 145 278 [a0] [.ref s0, .ref s1] lay M P = mG d 145 279 [a0] [.ref s0, .ref s0, .ref s1] lay M P := e_dupr rfl
set_option maxRecDepth 20000 in
theorem g145_279 {d : Nat} {a0 : Option Value} {s0 : Nat} {s1 : Nat} {s2 : Nat} {lay : List mShp} {M : mMem} {P : mPost} : mG (d) 145 279 [a0] [.ref s0, .ref s1, .ref s2] lay M P = mG d 145 280 [a0] [.int (Int32.ofInt 2), .ref s0, .ref s1, .ref s2] lay M P := e_iconst rfl
set_option maxRecDepth 20000 in
theorem g145_280 {d : Nat} {a0 : Option Value} {s0 : Int32} {s1 : Nat} {s2 : Nat} {s3 : Nat} {lay : List mShp} {M : mMem} {P : mPost} : mG (d) 145 280 [a0] [.int s0, .ref s1, .ref s2, .ref s3] lay M P = mG d 145 282 [a0] [.int (Int32.ofInt 11), .int s0, .ref s1, .ref s2, .ref s3] lay M P := e_bipush rfl
set_option maxRecDepth 20000 in
theorem g145_282 {d : Nat} {a0 : Option Value} {s0 : Int32} {s1 : Int32} {s2 : Nat} {s3 : Nat} {s4 : Nat} {n : Nat} {lay : List mShp} {M : mMem} {P : mPost} (hs : mSh lay s2 = some (0, n)) : mG (d) 145 282 [a0] [.int s0, .int s1, .ref s2, .ref s3, .ref s4] lay M P = (mIdx s1 n = true ∧ mG d 145 283 [a0] [.ref s3, .ref s4] lay (mSetI M s2 s1.toNatClampNeg s0) P) := e_iastore rfl hs
set_option maxRecDepth 20000 in
theorem g145_283 {d : Nat} {a0 : Option Value} {s0 : Nat} {s1 : Nat} {lay : List mShp} {M : mMem} {P : mPost} : mG (d) 145 283 [a0] [.ref s0, .ref s1] lay M P = mG d 145 284 [a0] [.ref s0, .ref s0, .ref s1] lay M P := e_dupr rfl
set_option maxRecDepth 20000 in
theorem g145_284 {d : Nat} {a0 : Option Value} {s0 : Nat} {s1 : Nat} {s2 : Nat} {lay : List mShp} {M : mMem} {P : mPost} : mG (d) 145 284 [a0] [.ref s0, .ref s1, .ref s2] lay M P = mG d 145 285 [a0] [.int (Int32.ofInt 3), .ref s0, .ref s1, .ref s2] lay M P := e_iconst rfl
set_option maxRecDepth 20000 in
theorem g145_285 {d : Nat} {a0 : Option Value} {s0 : Int32} {s1 : Nat} {s2 : Nat} {s3 : Nat} {lay : List mShp} {M : mMem} {P : mPost} : mG (d) 145 285 [a0] [.int s0, .ref s1, .ref s2, .ref s3] lay M P = mG d 145 286 [a0] [.int (Int32.ofInt 2), .int s0, .ref s1, .ref s2, .ref s3] lay M P := e_iconst rfl
set_option maxRecDepth 20000 in
theorem g145_286 {d : Nat} {a0 : Option Value} {s0 : Int32} {s1 : Int32} {s2 : Nat} {s3 : Nat} {s4 : Nat} {n : Nat} {lay : List mShp} {M : mMem} {P : mPost} (hs : mSh lay s2 = some (0, n)) : mG (d) 145 286 [a0] [.int s0, .int s1, .ref s2, .ref s3, .ref s4] lay M P = (mIdx s1 n = true ∧ mG d 145 287 [a0] [.ref s3, .ref s4] lay (mSetI M s2 s1.toNatClampNeg s0) P) := e_iastore rfl hs
set_option maxRecDepth 20000 in
theorem g145_287 {d : Nat} {a0 : Option Value} {s0 : Nat} {s1 : Nat} {lay : List mShp} {M : mMem} {P : mPost} : mG (d) 145 287 [a0] [.ref s0, .ref s1] lay M P = mG d 145 288 [a0] [.ref s0, .ref s0, .ref s1] lay M P := e_dupr rfl
set_option maxRecDepth 20000 in
theorem g145_288 {d : Nat} {a0 : Option Value} {s0 : Nat} {s1 : Nat} {s2 : Nat} {lay : List mShp} {M : mMem} {P : mPost} : mG (d) 145 288 [a0] [.ref s0, .ref s1, .ref s2] lay M P = mG d 145 289 [a0] [.int (Int32.ofInt 4), .ref s0, .ref s1, .ref s2] lay M P := e_iconst rfl
set_option maxRecDepth 20000 in
theorem g145_289 {d : Nat} {a0 : Option Value} {s0 : Int32} {s1 : Nat} {s2 : Nat} {s3 : Nat} {lay : List mShp} {M : mMem} {P : mPost} : mG (d) 145 289 [a0] [.int s0, .ref s1, .ref s2, .ref s3] lay M P = mG d 145 291 [a0] [.int (Int32.ofInt 20), .int s0, .ref s1, .ref s2, .ref s3] lay M P := e_bipush rfl
set_option maxRecDepth 20000 in
theorem g145_291 {d : Nat} {a0 : Option Value} {s0 : Int32} {s1 : Int32} {s2 : Nat} {s3 : Nat} {s4 : Nat} {n : Nat} {lay : List mShp} {M : mMem} {P : mPost} (hs : mSh lay s2 = some (0, n)) : mG (d) 145 291 [a0] [.int s0, .int s1, .ref s2, .ref s3, .ref s4] lay M P = (mIdx s1 n = true ∧ mG d 145 292 [a0] [.ref s3, .ref s4] lay (mSetI M s2 s1.toNatClampNeg s0) P) := e_iastore rfl hs
set_option maxRecDepth 20000 in
theorem g145_292 {d : Nat} {a0 : Option Value} {s0 : Nat} {s1 : Nat} {lay : List mShp} {M : mMem} {P : mPost} : mG (d) 145 292 [a0] [.ref s0, .ref s1] lay M P = mG d 145 293 [a0] [.ref s0, .ref s0, .ref s1] lay M P := e_dupr rfl
set_option maxRecDepth 20000 in
theorem g145_293 {d : Nat} {a0 : Option Value} {s0 : Nat} {s1 : Nat} {s2 : Nat} {lay : List mShp} {M : mMem} {P : mPost} : mG (d) 145 293 [a0] [.ref s0, .ref s1, .ref s2] lay M P = mG d 145 294 [a0] [.int (Int32.ofInt 5), .ref s0, .ref s1, .ref s2] lay M P := e_iconst rfl
set_option maxRecDepth 20000 in
theorem g145_294 {d : Nat} {a0 : Option Value} {s0 : Int32} {s1 : Nat} {s2 : Nat} {s3 : Nat} {lay : List mShp} {M : mMem} {P : mPost} : mG (d) 145 294 [a0] [.int s0, .ref s1, .ref s2, .ref s3] lay M P = mG d 145 295 [a0] [.int (Int32.ofInt 0), .int s0, .ref s1, .ref s2, .ref s3] lay M P := e_iconst rfl
set_option maxRecDepth 20000 in
theorem g145_295 {d : Nat} {a0 : Option Value} {s0 : Int32} {s1 : Int32} {s2 : Nat} {s3 : Nat} {s4 : Nat} {n : Nat} {lay : List mShp} {M : mMem} {P : mPost} (hs : mSh lay s2 = some (0, n)) : mG (d) 145 295 [a0] [.int s0, .int s1, .ref s2, .ref s3, .ref s4] lay M P = (mIdx s1 n = true ∧ mG d 145 296 [a0] [.ref s3, .ref s4] lay (mSetI M s2 s1.toNatClampNeg s0) P) := e_iastore rfl hs
set_option maxRecDepth 20000 in
theorem g145_296 {d : Nat} {a0 : Option Value} {s0 : Nat} {s1 : Nat} {lay : List mShp} {M : mMem} {P : mPost} : mG (d) 145 296 [a0] [.ref s0, .ref s1] lay M P = mG d 145 297 [a0] [.ref s0, .ref s0, .ref s1] lay M P := e_dupr rfl
set_option maxRecDepth 20000 in
theorem g145_297 {d : Nat} {a0 : Option Value} {s0 : Nat} {s1 : Nat} {s2 : Nat} {lay : List mShp} {M : mMem} {P : mPost} : mG (d) 145 297 [a0] [.ref s0, .ref s1, .ref s2] lay M P = mG d 145 299 [a0] [.int (Int32.ofInt 6), .ref s0, .ref s1, .ref s2] lay M P := e_bipush rfl
set_option maxRecDepth 20000 in
theorem g145_299 {d : Nat} {a0 : Option Value} {s0 : Int32} {s1 : Nat} {s2 : Nat} {s3 : Nat} {lay : List mShp} {M : mMem} {P : mPost} : mG (d) 145 299 [a0] [.int s0, .ref s1, .ref s2, .ref s3] lay M P = mG d 145 300 [a0] [.int (Int32.ofInt 0), .int s0, .ref s1, .ref s2, .ref s3] lay M P := e_iconst rfl
set_option maxRecDepth 20000 in
theorem g145_300 {d : Nat} {a0 : Option Value} {s0 : Int32} {s1 : Int32} {s2 : Nat} {s3 : Nat} {s4 : Nat} {n : Nat} {lay : List mShp} {M : mMem} {P : mPost} (hs : mSh lay s2 = some (0, n)) : mG (d) 145 300 [a0] [.int s0, .int s1, .ref s2, .ref s3, .ref s4] lay M P = (mIdx s1 n = true ∧ mG d 145 301 [a0] [.ref s3, .ref s4] lay (mSetI M s2 s1.toNatClampNeg s0) P) := e_iastore rfl hs
set_option maxRecDepth 20000 in
theorem g145_301 {d : Nat} {a0 : Option Value} {s0 : Nat} {s1 : Nat} {lay : List mShp} {M : mMem} {P : mPost} : mG (d) 145 301 [a0] [.ref s0, .ref s1] lay M P = mG d 145 302 [a0] [.ref s0, .ref s0, .ref s1] lay M P := e_dupr rfl
set_option maxRecDepth 20000 in
theorem g145_302 {d : Nat} {a0 : Option Value} {s0 : Nat} {s1 : Nat} {s2 : Nat} {lay : List mShp} {M : mMem} {P : mPost} : mG (d) 145 302 [a0] [.ref s0, .ref s1, .ref s2] lay M P = mG d 145 304 [a0] [.int (Int32.ofInt 7), .ref s0, .ref s1, .ref s2] lay M P := e_bipush rfl
set_option maxRecDepth 20000 in
theorem g145_304 {d : Nat} {a0 : Option Value} {s0 : Int32} {s1 : Nat} {s2 : Nat} {s3 : Nat} {lay : List mShp} {M : mMem} {P : mPost} : mG (d) 145 304 [a0] [.int s0, .ref s1, .ref s2, .ref s3] lay M P = mG d 145 305 [a0] [.int (Int32.ofInt 0), .int s0, .ref s1, .ref s2, .ref s3] lay M P := e_iconst rfl
set_option maxRecDepth 20000 in
theorem g145_305 {d : Nat} {a0 : Option Value} {s0 : Int32} {s1 : Int32} {s2 : Nat} {s3 : Nat} {s4 : Nat} {n : Nat} {lay : List mShp} {M : mMem} {P : mPost} (hs : mSh lay s2 = some (0, n)) : mG (d) 145 305 [a0] [.int s0, .int s1, .ref s2, .ref s3, .ref s4] lay M P = (mIdx s1 n = true ∧ mG d 145 306 [a0] [.ref s3, .ref s4] lay (mSetI M s2 s1.toNatClampNeg s0) P) := e_iastore rfl hs
set_option maxRecDepth 20000 in
theorem g145_306 {d : Nat} {a0 : Option Value} {s0 : Nat} {s1 : Nat} {lay : List mShp} {M : mMem} {P : mPost} : mG (d) 145 306 [a0] [.ref s0, .ref s1] lay M P = mG d 145 307 [a0] [.ref s0, .ref s0, .ref s1] lay M P := e_dupr rfl
set_option maxRecDepth 20000 in
theorem g145_307 {d : Nat} {a0 : Option Value} {s0 : Nat} {s1 : Nat} {s2 : Nat} {lay : List mShp} {M : mMem} {P : mPost} : mG (d) 145 307 [a0] [.ref s0, .ref s1, .ref s2] lay M P = mG d 145 309 [a0] [.int (Int32.ofInt 8), .ref s0, .ref s1, .ref s2] lay M P := e_bipush rfl
set_option maxRecDepth 20000 in
theorem g145_309 {d : Nat} {a0 : Option Value} {s0 : Int32} {s1 : Nat} {s2 : Nat} {s3 : Nat} {lay : List mShp} {M : mMem} {P : mPost} : mG (d) 145 309 [a0] [.int s0, .ref s1, .ref s2, .ref s3] lay M P = mG d 145 310 [a0] [.int (Int32.ofInt 0), .int s0, .ref s1, .ref s2, .ref s3] lay M P := e_iconst rfl
set_option maxRecDepth 20000 in
theorem g145_310 {d : Nat} {a0 : Option Value} {s0 : Int32} {s1 : Int32} {s2 : Nat} {s3 : Nat} {s4 : Nat} {n : Nat} {lay : List mShp} {M : mMem} {P : mPost} (hs : mSh lay s2 = some (0, n)) : mG (d) 145 310 [a0] [.int s0, .int s1, .ref s2, .ref s3, .ref s4] lay M P = (mIdx s1 n = true ∧ mG d 145 311 [a0] [.ref s3, .ref s4] lay (mSetI M s2 s1.toNatClampNeg s0) P) := e_iastore rfl hs
set_option maxRecDepth 20000 in
theorem g145_311 {d : Nat} {a0 : Option Value} {s0 : Nat} {s1 : Nat} {lay : List mShp} {M : mMem} {P : mPost} : mG (d) 145 311 [a0] [.ref s0, .ref s1] lay M P = mG d 145 312 [a0] [.ref s0, .ref s0, .ref s1] lay M P := e_dupr rfl
set_option maxRecDepth 20000 in
theorem g145_312 {d : Nat} {a0 : Option Value} {s0 : Nat} {s1 : Nat} {s2 : Nat} {lay : List mShp} {M : mMem} {P : mPost} : mG (d) 145 312 [a0] [.ref s0, .ref s1, .ref s2] lay M P = mG d 145 314 [a0] [.int (Int32.ofInt 9), .ref s0, .ref s1, .ref s2] lay M P := e_bipush rfl
set_option maxRecDepth 20000 in
theorem g145_314 {d : Nat} {a0 : Option Value} {s0 : Int32} {s1 : Nat} {s2 : Nat} {s3 : Nat} {lay : List mShp} {M : mMem} {P : mPost} : mG (d) 145 314 [a0] [.int s0, .ref s1, .ref s2, .ref s3] lay M P = mG d 145 316 [a0] [.int (Int32.ofInt 30), .int s0, .ref s1, .ref s2, .ref s3] lay M P := e_bipush rfl
set_option maxRecDepth 20000 in
theorem g145_316 {d : Nat} {a0 : Option Value} {s0 : Int32} {s1 : Int32} {s2 : Nat} {s3 : Nat} {s4 : Nat} {n : Nat} {lay : List mShp} {M : mMem} {P : mPost} (hs : mSh lay s2 = some (0, n)) : mG (d) 145 316 [a0] [.int s0, .int s1, .ref s2, .ref s3, .ref s4] lay M P = (mIdx s1 n = true ∧ mG d 145 317 [a0] [.ref s3, .ref s4] lay (mSetI M s2 s1.toNatClampNeg s0) P) := e_iastore rfl hs
set_option maxRecDepth 20000 in
theorem g145_317 {d : Nat} {a0 : Option Value} {s0 : Nat} {s1 : Nat} {lay : List mShp} {M : mMem} {P : mPost} : mG (d) 145 317 [a0] [.ref s0, .ref s1] lay M P = mG d 145 318 [a0] [.ref s0, .ref s0, .ref s1] lay M P := e_dupr rfl
set_option maxRecDepth 20000 in
theorem g145_318 {d : Nat} {a0 : Option Value} {s0 : Nat} {s1 : Nat} {s2 : Nat} {lay : List mShp} {M : mMem} {P : mPost} : mG (d) 145 318 [a0] [.ref s0, .ref s1, .ref s2] lay M P = mG d 145 320 [a0] [.int (Int32.ofInt 10), .ref s0, .ref s1, .ref s2] lay M P := e_bipush rfl
set_option maxRecDepth 20000 in
theorem g145_320 {d : Nat} {a0 : Option Value} {s0 : Int32} {s1 : Nat} {s2 : Nat} {s3 : Nat} {lay : List mShp} {M : mMem} {P : mPost} : mG (d) 145 320 [a0] [.int s0, .ref s1, .ref s2, .ref s3] lay M P = mG d 145 321 [a0] [.int (Int32.ofInt 0), .int s0, .ref s1, .ref s2, .ref s3] lay M P := e_iconst rfl
set_option maxRecDepth 20000 in
theorem g145_321 {d : Nat} {a0 : Option Value} {s0 : Int32} {s1 : Int32} {s2 : Nat} {s3 : Nat} {s4 : Nat} {n : Nat} {lay : List mShp} {M : mMem} {P : mPost} (hs : mSh lay s2 = some (0, n)) : mG (d) 145 321 [a0] [.int s0, .int s1, .ref s2, .ref s3, .ref s4] lay M P = (mIdx s1 n = true ∧ mG d 145 322 [a0] [.ref s3, .ref s4] lay (mSetI M s2 s1.toNatClampNeg s0) P) := e_iastore rfl hs
set_option maxRecDepth 20000 in
theorem g145_322 {d : Nat} {a0 : Option Value} {s0 : Nat} {s1 : Nat} {lay : List mShp} {M : mMem} {P : mPost} : mG (d) 145 322 [a0] [.ref s0, .ref s1] lay M P = mG d 145 323 [a0] [.ref s0, .ref s0, .ref s1] lay M P := e_dupr rfl
set_option maxRecDepth 20000 in
theorem g145_323 {d : Nat} {a0 : Option Value} {s0 : Nat} {s1 : Nat} {s2 : Nat} {lay : List mShp} {M : mMem} {P : mPost} : mG (d) 145 323 [a0] [.ref s0, .ref s1, .ref s2] lay M P = mG d 145 325 [a0] [.int (Int32.ofInt 11), .ref s0, .ref s1, .ref s2] lay M P := e_bipush rfl
set_option maxRecDepth 20000 in
theorem g145_325 {d : Nat} {a0 : Option Value} {s0 : Int32} {s1 : Nat} {s2 : Nat} {s3 : Nat} {lay : List mShp} {M : mMem} {P : mPost} : mG (d) 145 325 [a0] [.int s0, .ref s1, .ref s2, .ref s3] lay M P = mG d 145 326 [a0] [.int (Int32.ofInt 0), .int s0, .ref s1, .ref s2, .ref s3] lay M P := e_iconst rfl
set_option maxRecDepth 20000 in
theorem g145_326 {d : Nat} {a0 : Option Value} {s0 : Int32} {s1 : Int32} {s2 : Nat} {s3 : Nat} {s4 : Nat} {n : Nat} {lay : List mShp} {M : mMem} {P : mPost} (hs : mSh lay s2 = some (0, n)) : mG (d) 145 326 [a0] [.int s0, .int s1, .ref s2, .ref s3, .ref s4] lay M P = (mIdx s1 n = true ∧ mG d 145 327 [a0] [.ref s3, .ref s4] lay (mSetI M s2 s1.toNatClampNeg s0) P) := e_iastore rfl hs
set_option maxRecDepth 20000 in
theorem g145_327 {d : Nat} {a0 : Option Value} {s0 : Nat} {s1 : Nat} {lay : List mShp} {M : mMem} {P : mPost} : mG (d) 145 327 [a0] [.ref s0, .ref s1] lay M P = mG d 145 328 [a0] [.ref s0, .ref s0, .ref s1] lay M P := e_dupr rfl
set_option maxRecDepth 20000 in
theorem g145_328 {d : Nat} {a0 : Option Value} {s0 : Nat} {s1 : Nat} {s2 : Nat} {lay : List mShp} {M : mMem} {P : mPost} : mG (d) 145 328 [a0] [.ref s0, .ref s1, .ref s2] lay M P = mG d 145 330 [a0] [.int (Int32.ofInt 12), .ref s0, .ref s1, .ref s2] lay M P := e_bipush rfl
set_option maxRecDepth 20000 in
theorem g145_330 {d : Nat} {a0 : Option Value} {s0 : Int32} {s1 : Nat} {s2 : Nat} {s3 : Nat} {lay : List mShp} {M : mMem} {P : mPost} : mG (d) 145 330 [a0] [.int s0, .ref s1, .ref s2, .ref s3] lay M P = mG d 145 331 [a0] [.int (Int32.ofInt 0), .int s0, .ref s1, .ref s2, .ref s3] lay M P := e_iconst rfl
set_option maxRecDepth 20000 in
theorem g145_331 {d : Nat} {a0 : Option Value} {s0 : Int32} {s1 : Int32} {s2 : Nat} {s3 : Nat} {s4 : Nat} {n : Nat} {lay : List mShp} {M : mMem} {P : mPost} (hs : mSh lay s2 = some (0, n)) : mG (d) 145 331 [a0] [.int s0, .int s1, .ref s2, .ref s3, .ref s4] lay M P = (mIdx s1 n = true ∧ mG d 145 332 [a0] [.ref s3, .ref s4] lay (mSetI M s2 s1.toNatClampNeg s0) P) := e_iastore rfl hs
set_option maxRecDepth 20000 in
theorem g145_332 {d : Nat} {a0 : Option Value} {s0 : Nat} {s1 : Nat} {lay : List mShp} {M : mMem} {P : mPost} : mG (d) 145 332 [a0] [.ref s0, .ref s1] lay M P = mG d 145 333 [a0] [.ref s0, .ref s0, .ref s1] lay M P := e_dupr rfl
set_option maxRecDepth 20000 in
theorem g145_333 {d : Nat} {a0 : Option Value} {s0 : Nat} {s1 : Nat} {s2 : Nat} {lay : List mShp} {M : mMem} {P : mPost} : mG (d) 145 333 [a0] [.ref s0, .ref s1, .ref s2] lay M P = mG d 145 335 [a0] [.int (Int32.ofInt 13), .ref s0, .ref s1, .ref s2] lay M P := e_bipush rfl
set_option maxRecDepth 20000 in
theorem g145_335 {d : Nat} {a0 : Option Value} {s0 : Int32} {s1 : Nat} {s2 : Nat} {s3 : Nat} {lay : List mShp} {M : mMem} {P : mPost} : mG (d) 145 335 [a0] [.int s0, .ref s1, .ref s2, .ref s3] lay M P = mG d 145 337 [a0] [.int (Int32.ofInt 41), .int s0, .ref s1, .ref s2, .ref s3] lay M P := e_bipush rfl
set_option maxRecDepth 20000 in
theorem g145_337 {d : Nat} {a0 : Option Value} {s0 : Int32} {s1 : Int32} {s2 : Nat} {s3 : Nat} {s4 : Nat} {n : Nat} {lay : List mShp} {M : mMem} {P : mPost} (hs : mSh lay s2 = some (0, n)) : mG (d) 145 337 [a0] [.int s0, .int s1, .ref s2, .ref s3, .ref s4] lay M P = (mIdx s1 n = true ∧ mG d 145 338 [a0] [.ref s3, .ref s4] lay (mSetI M s2 s1.toNatClampNeg s0) P) := e_iastore rfl hs
set_option maxRecDepth 20000 in
theorem g145_338 {d : Nat} {a0 : Option Value} {s0 : Nat} {s1 : Nat} {lay : List mShp} {M : mMem} {P : mPost} : mG (d) 145 338 [a0] [.ref s0, .ref s1] lay M P = mG d 145 339 [a0] [.ref s0, .ref s0, .ref s1] lay M P := e_dupr rfl
set_option maxRecDepth 20000 in
theorem g145_339 {d : Nat} {a0 : Option Value} {s0 : Nat} {s1 : Nat} {s2 : Nat} {lay : List mShp} {M : mMem} {P : mPost} : mG (d) 145 339 [a0] [.ref s0, .ref s1, .ref s2] lay M P = mG d 145 341 [a0] [.int (Int32.ofInt 14), .ref s0, .ref s1, .ref s2] lay M P := e_bipush rfl
set_option maxRecDepth 20000 in
theorem g145_341 {d : Nat} {a0 : Option Value} {s0 : Int32} {s1 : Nat} {s2 : Nat} {s3 : Nat} {lay : List mShp} {M : mMem} {P : mPost} : mG (d) 145 341 [a0] [.int s0, .ref s1, .ref s2, .ref s3] lay M P = mG d 145 343 [a0] [.int (Int32.ofInt 40), .int s0, .ref s1, .ref s2, .ref s3] lay M P := e_bipush rfl
set_option maxRecDepth 20000 in
theorem g145_343 {d : Nat} {a0 : Option Value} {s0 : Int32} {s1 : Int32} {s2 : Nat} {s3 : Nat} {s4 : Nat} {n : Nat} {lay : List mShp} {M : mMem} {P : mPost} (hs : mSh lay s2 = some (0, n)) : mG (d) 145 343 [a0] [.int s0, .int s1, .ref s2, .ref s3, .ref s4] lay M P = (mIdx s1 n = true ∧ mG d 145 344 [a0] [.ref s3, .ref s4] lay (mSetI M s2 s1.toNatClampNeg s0) P) := e_iastore rfl hs
set_option maxRecDepth 20000 in
theorem g145_344 {d : Nat} {a0 : Option Value} {s0 : Nat} {s1 : Nat} {lay : List mShp} {M : mMem} {P : mPost} : mG (d) 145 344 [a0] [.ref s0, .ref s1] lay M P = mG d 145 345 [a0] [.ref s0, .ref s0, .ref s1] lay M P := e_dupr rfl
set_option maxRecDepth 20000 in
theorem g145_345 {d : Nat} {a0 : Option Value} {s0 : Nat} {s1 : Nat} {s2 : Nat} {lay : List mShp} {M : mMem} {P : mPost} : mG (d) 145 345 [a0] [.ref s0, .ref s1, .ref s2] lay M P = mG d 145 347 [a0] [.int (Int32.ofInt 15), .ref s0, .ref s1, .ref s2] lay M P := e_bipush rfl
set_option maxRecDepth 20000 in
theorem g145_347 {d : Nat} {a0 : Option Value} {s0 : Int32} {s1 : Nat} {s2 : Nat} {s3 : Nat} {lay : List mShp} {M : mMem} {P : mPost} : mG (d) 145 347 [a0] [.int s0, .ref s1, .ref s2, .ref s3] lay M P = mG d 145 348 [a0] [.int (Int32.ofInt 0), .int s0, .ref s1, .ref s2, .ref s3] lay M P := e_iconst rfl
set_option maxRecDepth 20000 in
theorem g145_348 {d : Nat} {a0 : Option Value} {s0 : Int32} {s1 : Int32} {s2 : Nat} {s3 : Nat} {s4 : Nat} {n : Nat} {lay : List mShp} {M : mMem} {P : mPost} (hs : mSh lay s2 = some (0, n)) : mG (d) 145 348 [a0] [.int s0, .int s1, .ref s2, .ref s3, .ref s4] lay M P = (mIdx s1 n = true ∧ mG d 145 349 [a0] [.ref s3, .ref s4] lay (mSetI M s2 s1.toNatClampNeg s0) P) := e_iastore rfl hs
set_option maxRecDepth 20000 in
theorem g145_349 {d : Nat} {a0 : Option Value} {s0 : Nat} {s1 : Nat} {lay : List mShp} {M : mMem} {P : mPost} : mG (d) 145 349 [a0] [.ref s0, .ref s1] lay M P = mG d 145 350 [a0] [.ref s0, .ref s0, .ref s1] lay M P := e_dupr rfl
set_option maxRecDepth 20000 in
theorem g145_350 {d : Nat} {a0 : Option Value} {s0 : Nat} {s1 : Nat} {s2 : Nat} {lay : List mShp} {M : mMem} {P : mPost} : mG (d) 145 350 [a0] [.ref s0, .ref s1, .ref s2] lay M P = mG d 145 352 [a0] [.int (Int32.ofInt 16), .ref s0, .ref s1, .ref s2] lay M P := e_bipush rfl
set_option maxRecDepth 20000 in
theorem g145_352 {d : Nat} {a0 : Option Value} {s0 : Int32} {s1 : Nat} {s2 : Nat} {s3 : Nat} {lay : List mShp} {M : mMem} {P : mPost} : mG (d) 145 352 [a0] [.int s0, .ref s1, .ref s2, .ref s3] lay M P = mG d 145 353 [a0] [.int (Int32.ofInt 0), .int s0, .ref s1, .ref s2, .ref s3] lay M P := e_iconst rfl
set_option maxRecDepth 20000 in
theorem g145_353 {d : Nat} {a0 : Option Value} {s0 : Int32} {s1 : Int32} {s2 : Nat} {s3 : Nat} {s4 : Nat} {n : Nat} {lay : List mShp} {M : mMem} {P : mPost} (hs : mSh lay s2 = some (0, n)) : mG (d) 145 353 [a0] [.int s0, .int s1, .ref s2, .ref s3, .ref s4] lay M P = (mIdx s1 n = true ∧ mG d 145 354 [a0] [.ref s3, .ref s4] lay (mSetI M s2 s1.toNatClampNeg s0) P) := e_iastore rfl hs
set_option maxRecDepth 20000 in
theorem g145_354 {d : Nat} {a0 : Option Value} {s0 : Nat} {s1 : Nat} {lay : List mShp} {M : mMem} {P : mPost} : mG (d) 145 354 [a0] [.ref s0, .ref s1] lay M P = mG d 145 355 [a0] [.ref s0, .ref s0, .ref s1] lay M P := e_dupr rfl
set_option maxRecDepth 20000 in
theorem g145_355 {d : Nat} {a0 : Option Value} {s0 : Nat} {s1 : Nat} {s2 : Nat} {lay : List mShp} {M : mMem} {P : mPost} : mG (d) 145 355 [a0] [.ref s0, .ref s1, .ref s2] lay M P = mG d 145 357 [a0] [.int (Int32.ofInt 17), .ref s0, .ref s1, .ref s2] lay M P := e_bipush rfl
set_option maxRecDepth 20000 in
theorem g145_357 {d : Nat} {a0 : Option Value} {s0 : Int32} {s1 : Nat} {s2 : Nat} {s3 : Nat} {lay : List mShp} {M : mMem} {P : mPost} : mG (d) 145 357 [a0] [.int s0, .ref s1, .ref s2, .ref s3] lay M P = mG d 145 358 [a0] [.int (Int32.ofInt 0), .int s0, .ref s1, .ref s2, .ref s3] lay M P := e_iconst rfl
set_option maxRecDepth 20000 in
theorem g145_358 {d : Nat} {a0 : Option Value} {s0 : Int32} {s1 : Int32} {s2 : Nat} {s3 : Nat} {s4 : Nat} {n : Nat} {lay : List mShp} {M : mMem} {P : mPost} (hs : mSh lay s2 = some (0, n)) : mG (d) 145 358 [a0] [.int s0, .int s1, .ref s2, .ref s3, .ref s4] lay M P = (mIdx s1 n = true ∧ mG d 145 359 [a0] [.ref s3, .ref s4] lay (mSetI M s2 s1.toNatClampNeg s0) P) := e_iastore rfl hs
set_option maxRecDepth 20000 in
theorem g145_359 {d : Nat} {a0 : Option Value} {s0 : Nat} {s1 : Nat} {lay : List mShp} {M : mMem} {P : mPost} : mG (d) 145 359 [a0] [.ref s0, .ref s1] lay M P = mG d 145 360 [a0] [.ref s0, .ref s0, .ref s1] lay M P := e_dupr rfl
set_option maxRecDepth 20000 in
theorem g145_360 {d : Nat} {a0 : Option Value} {s0 : Nat} {s1 : Nat} {s2 : Nat} {lay : List mShp} {M : mMem} {P : mPost} : mG (d) 145 360 [a0] [.ref s0, .ref s1, .ref s2] lay M P = mG d 145 362 [a0] [.int (Int32.ofInt 18), .ref s0, .ref s1, .ref s2] lay M P := e_bipush rfl
set_option maxRecDepth 20000 in
theorem g145_362 {d : Nat} {a0 : Option Value} {s0 : Int32} {s1 : Nat} {s2 : Nat} {s3 : Nat} {lay : List mShp} {M : mMem} {P : mPost} : mG (d) 145 362 [a0] [.int s0, .ref s1, .ref s2, .ref s3] lay M P = mG d 145 364 [a0] [.int (Int32.ofInt 50), .int s0, .ref s1, .ref s2, .ref s3] lay M P := e_bipush rfl
set_option maxRecDepth 20000 in
theorem g145_364 {d : Nat} {a0 : Option Value} {s0 : Int32} {s1 : Int32} {s2 : Nat} {s3 : Nat} {s4 : Nat} {n : Nat} {lay : List mShp} {M : mMem} {P : mPost} (hs : mSh lay s2 = some (0, n)) : mG (d) 145 364 [a0] [.int s0, .int s1, .ref s2, .ref s3, .ref s4] lay M P = (mIdx s1 n = true ∧ mG d 145 365 [a0] [.ref s3, .ref s4] lay (mSetI M s2 s1.toNatClampNeg s0) P) := e_iastore rfl hs
set_option maxRecDepth 20000 in
theorem g145_365 {d : Nat} {a0 : Option Value} {s0 : Nat} {s1 : Nat} {lay : List mShp} {M : mMem} {P : mPost} : mG (d) 145 365 [a0] [.ref s0, .ref s1] lay M P = mG d 145 366 [a0] [.ref s0, .ref s0, .ref s1] lay M P := e_dupr rfl
set_option maxRecDepth 20000 in
theorem g145_366 {d : Nat} {a0 : Option Value} {s0 : Nat} {s1 : Nat} {s2 : Nat} {lay : List mShp} {M : mMem} {P : mPost} : mG (d) 145 366 [a0] [.ref s0, .ref s1, .ref s2] lay M P = mG d 145 368 [a0] [.int (Int32.ofInt 19), .ref s0, .ref s1, .ref s2] lay M P := e_bipush rfl
set_option maxRecDepth 20000 in
theorem g145_368 {d : Nat} {a0 : Option Value} {s0 : Int32} {s1 : Nat} {s2 : Nat} {s3 : Nat} {lay : List mShp} {M : mMem} {P : mPost} : mG (d) 145 368 [a0] [.int s0, .ref s1, .ref s2, .ref s3] lay M P = mG d 145 369 [a0] [.int (Int32.ofInt 0), .int s0, .ref s1, .ref s2, .ref s3] lay M P := e_iconst rfl
set_option maxRecDepth 20000 in
theorem g145_369 {d : Nat} {a0 : Option Value} {s0 : Int32} {s1 : Int32} {s2 : Nat} {s3 : Nat} {s4 : Nat} {n : Nat} {lay : List mShp} {M : mMem} {P : mPost} (hs : mSh lay s2 = some (0, n)) : mG (d) 145 369 [a0] [.int s0, .int s1, .ref s2, .ref s3, .ref s4] lay M P = (mIdx s1 n = true ∧ mG d 145 370 [a0] [.ref s3, .ref s4] lay (mSetI M s2 s1.toNatClampNeg s0) P) := e_iastore rfl hs
set_option maxRecDepth 20000 in
theorem g145_370 {d : Nat} {a0 : Option Value} {s0 : Nat} {s1 : Nat} {lay : List mShp} {M : mMem} {P : mPost} : mG (d) 145 370 [a0] [.ref s0, .ref s1] lay M P = mG d 145 371 [a0] [.ref s0, .ref s0, .ref s1] lay M P := e_dupr rfl
set_option maxRecDepth 20000 in
theorem g145_371 {d : Nat} {a0 : Option Value} {s0 : Nat} {s1 : Nat} {s2 : Nat} {lay : List mShp} {M : mMem} {P : mPost} : mG (d) 145 371 [a0] [.ref s0, .ref s1, .ref s2] lay M P = mG d 145 373 [a0] [.int (Int32.ofInt 20), .ref s0, .ref s1, .ref s2] lay M P := e_bipush rfl
set_option maxRecDepth 20000 in
theorem g145_373 {d : Nat} {a0 : Option Value} {s0 : Int32} {s1 : Nat} {s2 : Nat} {s3 : Nat} {lay : List mShp} {M : mMem} {P : mPost} : mG (d) 145 373 [a0] [.int s0, .ref s1, .ref s2, .ref s3] lay M P = mG d 145 374 [a0] [.int (Int32.ofInt 0), .int s0, .ref s1, .ref s2, .ref s3] lay M P := e_iconst rfl
set_option maxRecDepth 20000 in
theorem g145_374 {d : Nat} {a0 : Option Value} {s0 : Int32} {s1 : Int32} {s2 : Nat} {s3 : Nat} {s4 : Nat} {n : Nat} {lay : List mShp} {M : mMem} {P : mPost} (hs : mSh lay s2 = some (0, n)) : mG (d) 145 374 [a0] [.int s0, .int s1, .ref s2, .ref s3, .ref s4] lay M P = (mIdx s1 n = true ∧ mG d 145 375 [a0] [.ref s3, .ref s4] lay (mSetI M s2 s1.toNatClampNeg s0) P) := e_iastore rfl hs
set_option maxRecDepth 20000 in
theorem g145_375 {d : Nat} {a0 : Option Value} {s0 : Nat} {s1 : Nat} {lay : List mShp} {M : mMem} {P : mPost} : mG (d) 145 375 [a0] [.ref s0, .ref s1] lay M P = mG d 145 376 [a0] [.ref s0, .ref s0, .ref s1] lay M P := e_dupr rfl
set_option maxRecDepth 20000 in
theorem g145_376 {d : Nat} {a0 : Option Value} {s0 : Nat} {s1 : Nat} {s2 : Nat} {lay : List mShp} {M : mMem} {P : mPost} : mG (d) 145 376 [a0] [.ref s0, .ref s1, .ref s2] lay M P = mG d 145 378 [a0] [.int (Int32.ofInt 21), .ref s0, .ref s1, .ref s2] lay M P := e_bipush rfl
set_option maxRecDepth 20000 in
theorem g145_378 {d : Nat} {a0 : Option Value} {s0 : Int32} {s1 : Nat} {s2 : Nat} {s3 : Nat} {lay : List mShp} {M : mMem} {P : mPost} : mG (d) 145 378 [a0] [.int s0, .ref s1, .ref s2, .ref s3] lay M P = mG d 145 379 [a0] [.int (Int32.ofInt 0), .int s0, .ref s1, .ref s2, .ref s3] lay M P := e_iconst rfl
set_option maxRecDepth 20000 in
theorem g145_379 {d : Nat} {a0 : Option Value} {s0 : Int32} {s1 : Int32} {s2 : Nat} {s3 : Nat} {s4 : Nat} {n : Nat} {lay : List mShp} {M : mMem} {P : mPost} (hs : mSh lay s2 = some (0, n)) : mG (d) 145 379 [a0] [.int s0, .int s1, .ref s2, .ref s3, .ref s4] lay M P = (mIdx s1 n = true ∧ mG d 145 380 [a0] [.ref s3, .ref s4] lay (mSetI M s2 s1.toNatClampNeg s0) P) := e_iastore rfl hs
set_option maxRecDepth 20000 in
theorem g145_380 {d : Nat} {a0 : Option Value} {s0 : Nat} {s1 : Nat} {lay : List mShp} {M : mMem} {P : mPost} : mG (d) 145 380 [a0] [.ref s0, .ref s1] lay M P = mG d 145 381 [a0] [.ref s0, .ref s0, .ref s1] lay M P := e_dupr rfl
set_option maxRecDepth 20000 in
theorem g145_381 {d : Nat} {a0 : Option Value} {s0 : Nat} {s1 : Nat} {s2 : Nat} {lay : List mShp} {M : mMem} {P : mPost} : mG (d) 145 381 [a0] [.ref s0, .ref s1, .ref s2] lay M P = mG d 145 383 [a0] [.int (Int32.ofInt 22), .ref s0, .ref s1, .ref s2] lay M P := e_bipush rfl
set_option maxRecDepth 20000 in
theorem g145_383 {d : Nat} {a0 : Option Value} {s0 : Int32} {s1 : Nat} {s2 : Nat} {s3 : Nat} {lay : List mShp} {M : mMem} {P : mPost} : mG (d) 145 383 [a0] [.int s0, .ref s1, .ref s2, .ref s3] lay M P = mG d 145 384 [a0] [.int (Int32.ofInt 0), .int s0, .ref s1, .ref s2, .ref s3] lay M P := e_iconst rfl
set_option maxRecDepth 20000 in
theorem g145_384 {d : Nat} {a0 : Option Value} {s0 : Int32} {s1 : Int32} {s2 : Nat} {s3 : Nat} {s4 : Nat} {n : Nat} {lay : List mShp} {M : mMem} {P : mPost} (hs : mSh lay s2 = some (0, n)) : mG (d) 145 384 [a0] [.int s0, .int s1, .ref s2, .ref s3, .ref s4] lay M P = (mIdx s1 n = true ∧ mG d 145 385 [a0] [.ref s3, .ref s4] lay (mSetI M s2 s1.toNatClampNeg s0) P) := e_iastore rfl hs
set_option maxRecDepth 20000 in
theorem g145_385 {d : Nat} {a0 : Option Value} {s0 : Nat} {s1 : Nat} {lay : List mShp} {M : mMem} {P : mPost} : mG (d) 145 385 [a0] [.ref s0, .ref s1] lay M P = mG d 145 386 [a0] [.ref s0, .ref s0, .ref s1] lay M P := e_dupr rfl
set_option maxRecDepth 20000 in
theorem g145_386 {d : Nat} {a0 : Option Value} {s0 : Nat} {s1 : Nat} {s2 : Nat} {lay : List mShp} {M : mMem} {P : mPost} : mG (d) 145 386 [a0] [.ref s0, .ref s1, .ref s2] lay M P = mG d 145 388 [a0] [.int (Int32.ofInt 23), .ref s0, .ref s1, .ref s2] lay M P := e_bipush rfl
set_option maxRecDepth 20000 in
theorem g145_388 {d : Nat} {a0 : Option Value} {s0 : Int32} {s1 : Nat} {s2 : Nat} {s3 : Nat} {lay : List mShp} {M : mMem} {P : mPost} : mG (d) 145 388 [a0] [.int s0, .ref s1, .ref s2, .ref s3] lay M P = mG d 145 390 [a0] [.int (Int32.ofInt 60), .int s0, .ref s1, .ref s2, .ref s3] lay M P := e_bipush rfl
set_option maxRecDepth 20000 in
theorem g145_390 {d : Nat} {a0 : Option Value} {s0 : Int32} {s1 : Int32} {s2 : Nat} {s3 : Nat} {s4 : Nat} {n : Nat} {lay : List mShp} {M : mMem} {P : mPost} (hs : mSh lay s2 = some (0, n)) : mG (d) 145 390 [a0] [.int s0, .int s1, .ref s2, .ref s3, .ref s4] lay M P = (mIdx s1 n = true ∧ mG d 145 391 [a0] [.ref s3, .ref s4] lay (mSetI M s2 s1.toNatClampNeg s0) P) := e_iastore rfl hs
set_option maxRecDepth 20000 in
theorem g145_391 {d : Nat} {a0 : Option Value} {s0 : Nat} {s1 : Nat} {lay : List mShp} {M : mMem} {P : mPost} : mG (d) 145 391 [a0] [.ref s0, .ref s1] lay M P = mG d 145 392 [a0] [.ref s0, .ref s0, .ref s1] lay M P := e_dupr rfl
set_option maxRecDepth 20000 in
theorem g145_392 {d : Nat} {a0 : Option Value} {s0 : Nat} {s1 : Nat} {s2 : Nat} {lay : List mShp} {M : mMem} {P : mPost} : mG (d) 145 392 [a0] [.ref s0, .ref s1, .ref s2] lay M P = mG d 145 394 [a0] [.int (Int32.ofInt 24), .ref s0, .ref s1, .ref s2] lay M P := e_bipush rfl
set_option maxRecDepth 20000 in
theorem g145_394 {d : Nat} {a0 : Option Value} {s0 : Int32} {s1 : Nat} {s2 : Nat} {s3 : Nat} {lay : List mShp} {M : mMem} {P : mPost} : mG (d) 145 394 [a0] [.int s0, .ref s1, .ref s2, .ref s3] lay M P = mG d 145 396 [a0] [.int (Int32.ofInt 70), .int s0, .ref s1, .ref s2, .ref s3] lay M P := e_bipush rfl
set_option maxRecDepth 20000 in
theorem g145_396 {d : Nat} {a0 : Option Value} {s0 : Int32} {s1 : Int32} {s2 : Nat} {s3 : Nat} {s4 : Nat} {n : Nat} {lay : List mShp} {M : mMem} {P : mPost} (hs : mSh lay s2 = some (0, n)) : mG (d) 145 396 [a0] [.int s0, .int s1, .ref s2, .ref s3, .ref s4] lay M P = (mIdx s1 n = true ∧ mG d 145 397 [a0] [.ref s3, .ref s4] lay (mSetI M s2 s1.toNatClampNeg s0) P) := e_iastore rfl hs
set_option maxRecDepth 20000 in
theorem g145_397 {d : Nat} {a0 : Option Value} {s0 : Nat} {s1 : Nat} {lay : List mShp} {M : mMem} {P : mPost} : mG (d) 145 397 [a0] [.ref s0, .ref s1] lay M P = mG d 145 398 [a0] [.ref s0, .ref s0, .ref s1] lay M P := e_dupr rfl
set_option maxRecDepth 20000 in
theorem g145_398 {d : Nat} {a0 : Option Value} {s0 : Nat} {s1 : Nat} {s2 : Nat} {lay : List mShp} {M : mMem} {P : mPost} : mG (d) 145 398 [a0] [.ref s0, .ref s1, .ref s2] lay M P = mG d 145 400 [a0] [.int (Int32.ofInt 25), .ref s0, .ref s1, .ref s2] lay M P := e_bipush rfl
set_option maxRecDepth 20000 in
theorem g145_400 {d : Nat} {a0 : Option Value} {s0 : Int32} {s1 : Nat} {s2 : Nat} {s3 : Nat} {lay : List mShp} {M : mMem} {P : mPost} : mG (d) 145 400 [a0] [.int s0, .ref s1, .ref s2, .ref s3] lay M P = mG d 145 401 [a0] [.int (Int32.ofInt 0), .int s0, .ref s1, .ref s2, .ref s3] lay M P := e_iconst rfl
set_option maxRecDepth 20000 in
theorem g145_401 {d : Nat} {a0 : Option Value} {s0 : Int32} {s1 : Int32} {s2 : Nat} {s3 : Nat} {s4 : Nat} {n : Nat} {lay : List mShp} {M : mMem} {P : mPost} (hs : mSh lay s2 = some (0, n)) : mG (d) 145 401 [a0] [.int s0, .int s1, .ref s2, .ref s3, .ref s4] lay M P = (mIdx s1 n = true ∧ mG d 145 402 [a0] [.ref s3, .ref s4] lay (mSetI M s2 s1.toNatClampNeg s0) P) := e_iastore rfl hs
set_option maxRecDepth 20000 in
theorem g145_402 {d : Nat} {a0 : Option Value} {s0 : Nat} {s1 : Nat} {lay : List mShp} {M : mMem} {P : mPost} : mG (d) 145 402 [a0] [.ref s0, .ref s1] lay M P = mG d 145 403 [a0] [.ref s0, .ref s0, .ref s1] lay M P := e_dupr rfl
set_option maxRecDepth 20000 in
theorem g145_403 {d : Nat} {a0 : Option Value} {s0 : Nat} {s1 : Nat} {s2 : Nat} {lay : List mShp} {M : mMem} {P : mPost} : mG (d) 145 403 [a0] [.ref s0, .ref s1, .ref s2] lay M P = mG d 145 405 [a0] [.int (Int32.ofInt 26), .ref s0, .ref s1, .ref s2] lay M P := e_bipush rfl
set_option maxRecDepth 20000 in
theorem g145_405 {d : Nat} {a0 : Option Value} {s0 : Int32} {s1 : Nat} {s2 : Nat} {s3 : Nat} {lay : List mShp} {M : mMem} {P : mPost} : mG (d) 145 405 [a0] [.int s0, .ref s1, .ref s2, .ref s3] lay M P = mG d 145 406 [a0] [.int (Int32.ofInt 0), .int s0, .ref s1, .ref s2, .ref s3] lay M P := e_iconst rfl
set_option maxRecDepth 20000 in
theorem g145_406 {d : Nat} {a0 : Option Value} {s0 : Int32} {s1 : Int32} {s2 : Nat} {s3 : Nat} {s4 : Nat} {n : Nat} {lay : List mShp} {M : mMem} {P : mPost} (hs : mSh lay s2 = some (0, n)) : mG (d) 145 406 [a0] [.int s0, .int s1, .ref s2, .ref s3, .ref s4] lay M P = (mIdx s1 n = true ∧ mG d 145 407 [a0] [.ref s3, .ref s4] lay (mSetI M s2 s1.toNatClampNeg s0) P) := e_iastore rfl hs
set_option maxRecDepth 20000 in
theorem g145_407 {d : Nat} {a0 : Option Value} {s0 : Nat} {s1 : Nat} {lay : List mShp} {M : mMem} {P : mPost} : mG (d) 145 407 [a0] [.ref s0, .ref s1] lay M P = mG d 145 408 [a0] [.ref s0, .ref s0, .ref s1] lay M P := e_dupr rfl
set_option maxRecDepth 20000 in
theorem g145_408 {d : Nat} {a0 : Option Value} {s0 : Nat} {s1 : Nat} {s2 : Nat} {lay : List mShp} {M : mMem} {P : mPost} : mG (d) 145 408 [a0] [.ref s0, .ref s1, .ref s2] lay M P = mG d 145 410 [a0] [.int (Int32.ofInt 27), .ref s0, .ref s1, .ref s2] lay M P := e_bipush rfl
set_option maxRecDepth 20000 in
theorem g145_410 {d : Nat} {a0 : Option Value} {s0 : Int32} {s1 : Nat} {s2 : Nat} {s3 : Nat} {lay : List mShp} {M : mMem} {P : mPost} : mG (d) 145 410 [a0] [.int s0, .ref s1, .ref s2, .ref s3] lay M P = mG d 145 411 [a0] [.int (Int32.ofInt 0), .int s0, .ref s1, .ref s2, .ref s3] lay M P := e_iconst rfl
set_option maxRecDepth 20000 in
theorem g145_411 {d : Nat} {a0 : Option Value} {s0 : Int32} {s1 : Int32} {s2 : Nat} {s3 : Nat} {s4 : Nat} {n : Nat} {lay : List mShp} {M : mMem} {P : mPost} (hs : mSh lay s2 = some (0, n)) : mG (d) 145 411 [a0] [.int s0, .int s1, .ref s2, .ref s3, .ref s4] lay M P = (mIdx s1 n = true ∧ mG d 145 412 [a0] [.ref s3, .ref s4] lay (mSetI M s2 s1.toNatClampNeg s0) P) := e_iastore rfl hs
set_option maxRecDepth 20000 in
theorem g145_412 {d : Nat} {a0 : Option Value} {s0 : Nat} {s1 : Nat} {lay : List mShp} {M : mMem} {P : mPost} : mG (d) 145 412 [a0] [.ref s0, .ref s1] lay M P = mG d 145 413 [a0] [.ref s0, .ref s0, .ref s1] lay M P := e_dupr rfl
set_option maxRecDepth 20000 in
theorem g145_413 {d : Nat} {a0 : Option Value} {s0 : Nat} {s1 : Nat} {s2 : Nat} {lay : List mShp} {M : mMem} {P : mPost} : mG (d) 145 413 [a0] [.ref s0, .ref s1, .ref s2] lay M P = mG d 145 415 [a0] [.int (Int32.ofInt 28), .ref s0, .ref s1, .ref s2] lay M P := e_bipush rfl
set_option maxRecDepth 20000 in
theorem g145_415 {d : Nat} {a0 : Option Value} {s0 : Int32} {s1 : Nat} {s2 : Nat} {s3 : Nat} {lay : List mShp} {M : mMem} {P : mPost} : mG (d) 145 415 [a0] [.int s0, .ref s1, .ref s2, .ref s3] lay M P = mG d 145 416 [a0] [.int (Int32.ofInt 0), .int s0, .ref s1, .ref s2, .ref s3] lay M P := e_iconst rfl
set_option maxRecDepth 20000 in
theorem g145_416 {d : Nat} {a0 : Option Value} {s0 : Int32} {s1 : Int32} {s2 : Nat} {s3 : Nat} {s4 : Nat} {n : Nat} {lay : List mShp} {M : mMem} {P : mPost} (hs : mSh lay s2 = some (0, n)) : mG (d) 145 416 [a0] [.int s0, .int s1, .ref s2, .ref s3, .ref s4] lay M P = (mIdx s1 n = true ∧ mG d 145 417 [a0] [.ref s3, .ref s4] lay (mSetI M s2 s1.toNatClampNeg s0) P) := e_iastore rfl hs
set_option maxRecDepth 20000 in
theorem g145_417 {d : Nat} {a0 : Option Value} {s0 : Nat} {s1 : Nat} {lay : List mShp} {M : mMem} {P : mPost} : mG (d) 145 417 [a0] [.ref s0, .ref s1] lay M P = mG d 145 418 [a0] [.ref s0, .ref s0, .ref s1] lay M P := e_dupr rfl
set_option maxRecDepth 20000 in
theorem g145_418 {d : Nat} {a0 : Option Value} {s0 : Nat} {s1 : Nat} {s2 : Nat} {lay : List mShp} {M : mMem} {P : mPost} : mG (d) 145 418 [a0] [.ref s0, .ref s1, .ref s2] lay M P = mG d 145 420 [a0] [.int (Int32.ofInt 29), .ref s0, .ref s1, .ref s2] lay M P := e_bipush rfl
set_option maxRecDepth 20000 in
theorem g145_420 {d : Nat} {a0 : Option Value} {s0 : Int32} {s1 : Nat} {s2 : Nat} {s3 : Nat} {lay : List mShp} {M : mMem} {P : mPost} : mG (d) 145 420 [a0] [.int s0, .ref s1, .ref s2, .ref s3] lay M P = mG d 145 422 [a0] [.int (Int32.ofInt 80), .int s0, .ref s1, .ref s2, .ref s3] lay M P := e_bipush rfl
set_option maxRecDepth 20000 in
theorem g145_422 {d : Nat} {a0 : Option Value} {s0 : Int32} {s1 : Int32} {s2 : Nat} {s3 : Nat} {s4 : Nat} {n : Nat} {lay : List mShp} {M : mMem} {P : mPost} (hs : mSh lay s2 = some (0, n)) : mG (d) 145 422 [a0] [.int s0, .int s1, .ref s2, .ref s3, .ref s4] lay M P = (mIdx s1 n = true ∧ mG d 145 423 [a0] [.ref s3, .ref s4] lay (mSetI M s2 s1.toNatClampNeg s0) P) := e_iastore rfl hs
set_option maxRecDepth 20000 in
theorem g145_423 {d : Nat} {a0 : Option Value} {s0 : Nat} {s1 : Nat} {lay : List mShp} {M : mMem} {P : mPost} : mG (d) 145 423 [a0] [.ref s0, .ref s1] lay M P = mG d 145 424 [a0] [.ref s0, .ref s0, .ref s1] lay M P := e_dupr rfl
set_option maxRecDepth 20000 in
theorem g145_424 {d : Nat} {a0 : Option Value} {s0 : Nat} {s1 : Nat} {s2 : Nat} {lay : List mShp} {M : mMem} {P : mPost} : mG (d) 145 424 [a0] [.ref s0, .ref s1, .ref s2] lay M P = mG d 145 426 [a0] [.int (Int32.ofInt 30), .ref s0, .ref s1, .ref s2] lay M P := e_bipush rfl
set_option maxRecDepth 20000 in
theorem g145_426 {d : Nat} {a0 : Option Value} {s0 : Int32} {s1 : Nat} {s2 : Nat} {s3 : Nat} {lay : List mShp} {M : mMem} {P : mPost} : mG (d) 145 426 [a0] [.int s0, .ref s1, .ref s2, .ref s3] lay M P = mG d 145 427 [a0] [.int (Int32.ofInt 0), .int s0, .ref s1, .ref s2, .ref s3] lay M P := e_iconst rfl
set_option maxRecDepth 20000 in
theorem g145_427 {d : Nat} {a0 : Option Value} {s0 : Int32} {s1 : Int32} {s2 : Nat} {s3 : Nat} {s4 : Nat} {n : Nat} {lay : List mShp} {M : mMem} {P : mPost} (hs : mSh lay s2 = some (0, n)) : mG (d) 145 427 [a0] [.int s0, .int s1, .ref s2, .ref s3, .ref s4] lay M P = (mIdx s1 n = true ∧ mG d 145 428 [a0] [.ref s3, .ref s4] lay (mSetI M s2 s1.toNatClampNeg s0) P) := e_iastore rfl hs
set_option maxRecDepth 20000 in
theorem g145_428 {d : Nat} {a0 : Option Value} {s0 : Nat} {s1 : Nat} {lay : List mShp} {M : mMem} {P : mPost} : mG (d) 145 428 [a0] [.ref s0, .ref s1] lay M P = mG d 145 429 [a0] [.ref s0, .ref s0, .ref s1] lay M P := e_dupr rfl
set_option maxRecDepth 20000 in
theorem g145_429 {d : Nat} {a0 : Option Value} {s0 : Nat} {s1 : Nat} {s2 : Nat} {lay : List mShp} {M : mMem} {P : mPost} : mG (d) 145 429 [a0] [.ref s0, .ref s1, .ref s2] lay M P = mG d 145 431 [a0] [.int (Int32.ofInt 31), .ref s0, .ref s1, .ref s2] lay M P := e_bipush rfl
set_option maxRecDepth 20000 in
theorem g145_431 {d : Nat} {a0 : Option Value} {s0 : Int32} {s1 : Nat} {s2 : Nat} {s3 : Nat} {lay : List mShp} {M : mMem} {P : mPost} : mG (d) 145 431 [a0] [.int s0, .ref s1, .ref s2, .ref s3] lay M P = mG d 145 433 [a0] [.int (Int32.ofInt 81), .int s0, .ref s1, .ref s2, .ref s3] lay M P := e_bipush rfl
set_option maxRecDepth 20000 in
theorem g145_433 {d : Nat} {a0 : Option Value} {s0 : Int32} {s1 : Int32} {s2 : Nat} {s3 : Nat} {s4 : Nat} {n : Nat} {lay : List mShp} {M : mMem} {P : mPost} (hs : mSh lay s2 = some (0, n)) : mG (d) 145 433 [a0] [.int s0, .int s1, .ref s2, .ref s3, .ref s4] lay M P = (mIdx s1 n = true ∧ mG d 145 434 [a0] [.ref s3, .ref s4] lay (mSetI M s2 s1.toNatClampNeg s0) P) := e_iastore rfl hs
set_option maxRecDepth 20000 in
theorem g145_434 {d : Nat} {a0 : Option Value} {s0 : Nat} {s1 : Nat} {lay : List mShp} {M : mMem} {P : mPost} (hs : mSh lay s1 = some (13, 44)) : mG (d) 145 434 [a0] [.ref s0, .ref s1] lay M P = mG d 145 437 [a0] [] lay (mSetR M s1 39 s0) P := mG_of_and (mIsO_of hs (by decide)) (e_putA (ci := 10) (j := 39) rfl rfl (Or.inr ⟨rfl, rfl, rfl⟩) rfl)
set_option maxRecDepth 20000 in
theorem g145_437 {d : Nat}  {x : Nat} {lay : List mShp} {M : mMem} {P : mPost} (hx : ¬ x = 0) : mG (d) 145 437 [some (.ref x)] [] lay M P = mG d 145 438 [some (.ref x)] [.ref x] lay M P := e_aload_nP hx (i := 0) rfl rfl rfl
set_option maxRecDepth 20000 in
theorem g145_438 {d : Nat} {a0 : Option Value} {s0 : Nat} {lay : List mShp} {M : mMem} {P : mPost} : mG (d) 145 438 [a0] [.ref s0] lay M P = mG d 145 440 [a0] [.int (Int32.ofInt 50), .ref s0] lay M P := e_bipush rfl
set_option maxRecDepth 20000 in
theorem g145_440 {d : Nat} {a0 : Option Value} {s0 : Int32} {s1 : Nat} {lay : List mShp} {M : mMem} {P : mPost} : mG (d) 145 440 [a0] [.int s0, .ref s1] lay M P = ((0 ≤ s0.toInt ∧ s0.toInt ≤ 100000) ∧ mG d 145 442 [a0] [.ref (lay.length + 3), .ref s1] (lay ++ [(0, s0.toNatClampNeg)]) (mNew M (lay.length + 3)) P) := e_newa_intP rfl
set_option maxRecDepth 20000 in
theorem g145_442 {d : Nat} {a0 : Option Value} {s0 : Nat} {s1 : Nat} {lay : List mShp} {M : mMem} {P : mPost} (hs : mSh lay s1 = some (13, 44)) : mG (d) 145 442 [a0] [.ref s0, .ref s1] lay M P = mG d 145 445 [a0] [] lay (mSetR M s1 40 s0) P := mG_of_and (mIsO_of hs (by decide)) (e_putA (ci := 10) (j := 40) rfl rfl (Or.inr ⟨rfl, rfl, rfl⟩) rfl)
set_option maxRecDepth 20000 in
theorem g145_445 {d : Nat}  {x : Nat} {lay : List mShp} {M : mMem} {P : mPost} (hx : ¬ x = 0) : mG (d) 145 445 [some (.ref x)] [] lay M P = mG d 145 446 [some (.ref x)] [.ref x] lay M P := e_aload_nP hx (i := 0) rfl rfl rfl
set_option maxRecDepth 20000 in
theorem g145_446 {d : Nat} {a0 : Option Value} {s0 : Nat} {lay : List mShp} {M : mMem} {P : mPost} : mG (d) 145 446 [a0] [.ref s0] lay M P = mG d 145 448 [a0] [.int (Int32.ofInt 24), .ref s0] lay M P := e_bipush rfl
set_option maxRecDepth 20000 in
theorem g145_448 {d : Nat} {a0 : Option Value} {s0 : Int32} {s1 : Nat} {lay : List mShp} {M : mMem} {P : mPost} : mG (d) 145 448 [a0] [.int s0, .ref s1] lay M P = ((0 ≤ s0.toInt ∧ s0.toInt ≤ 100000) ∧ mG d 145 450 [a0] [.ref (lay.length + 3), .ref s1] (lay ++ [(0, s0.toNatClampNeg)]) (mNew M (lay.length + 3)) P) := e_newa_intP rfl
set_option maxRecDepth 20000 in
theorem g145_450 {d : Nat} {a0 : Option Value} {s0 : Nat} {s1 : Nat} {lay : List mShp} {M : mMem} {P : mPost} (hs : mSh lay s1 = some (13, 44)) : mG (d) 145 450 [a0] [.ref s0, .ref s1] lay M P = mG d 145 453 [a0] [] lay (mSetR M s1 42 s0) P := mG_of_and (mIsO_of hs (by decide)) (e_putA (ci := 10) (j := 42) rfl rfl (Or.inr ⟨rfl, rfl, rfl⟩) rfl)
set_option maxRecDepth 20000 in
theorem g145_453 {d : Nat} {a0 : Option Value} {lay : List mShp} {M : mMem} {P : mPost} : mG (d) 145 453 [a0] [] lay M P = P none lay M := e_return rfl rfl
-- 146 X10_isIn
theorem g146_in {d : Nat} {x0 : Int32} {x1 : Int32} {x2 : Int32} {lay : List mShp} {M : mMem} {P : mPost} : mF d 146 [.int x0, .int x1, .int x2] lay M P = mG d 146 0 [some (.int x0), some (.int x1), some (.int x2)] [] lay M P := mF_in rfl rfl
set_option maxRecDepth 20000 in
theorem g146_0 {d : Nat} {a1 a2 : Option Value} {x : Int32} {lay : List mShp} {M : mMem} {P : mPost} : mG (d) 146 0 [some (.int x), a1, a2] [] lay M P = mG d 146 1 [some (.int x), a1, a2] [.int x] lay M P := e_iload_n (i := 0) rfl rfl rfl
set_option maxRecDepth 20000 in
theorem g146_1 {d : Nat} {a0 a2 : Option Value} {s0 : Int32} {x : Int32} {lay : List mShp} {M : mMem} {P : mPost} : mG (d) 146 1 [a0, some (.int x), a2] [.int s0] lay M P = mG d 146 2 [a0, some (.int x), a2] [.int x, .int s0] lay M P := e_iload_n (i := 1) rfl rfl rfl
set_option maxRecDepth 20000 in
theorem g146_2 {d : Nat} {a0 a1 a2 : Option Value} {s0 : Int32} {s1 : Int32} {lay : List mShp} {M : mMem} {P : mPost} : mG (d) 146 2 [a0, a1, a2] [.int s0, .int s1] lay M P = if s1 < s0 then mG d 146 14 [a0, a1, a2] [] lay M P else mG d 146 5 [a0, a1, a2] [] lay M P := e_icmp_lt rfl rfl
set_option maxRecDepth 20000 in
theorem g146_5 {d : Nat} {a1 a2 : Option Value} {x : Int32} {lay : List mShp} {M : mMem} {P : mPost} : mG (d) 146 5 [some (.int x), a1, a2] [] lay M P = mG d 146 6 [some (.int x), a1, a2] [.int x] lay M P := e_iload_n (i := 0) rfl rfl rfl
set_option maxRecDepth 20000 in
theorem g146_6 {d : Nat} {a0 a1 : Option Value} {s0 : Int32} {x : Int32} {lay : List mShp} {M : mMem} {P : mPost} : mG (d) 146 6 [a0, a1, some (.int x)] [.int s0] lay M P = mG d 146 7 [a0, a1, some (.int x)] [.int x, .int s0] lay M P := e_iload_n (i := 2) rfl rfl rfl
set_option maxRecDepth 20000 in
theorem g146_7 {d : Nat} {a0 a1 a2 : Option Value} {s0 : Int32} {s1 : Int32} {lay : List mShp} {M : mMem} {P : mPost} : mG (d) 146 7 [a0, a1, a2] [.int s0, .int s1] lay M P = if s0 < s1 then mG d 146 14 [a0, a1, a2] [] lay M P else mG d 146 10 [a0, a1, a2] [] lay M P := e_icmp_gt rfl rfl
set_option maxRecDepth 20000 in
theorem g146_10 {d : Nat} {a0 a1 a2 : Option Value} {lay : List mShp} {M : mMem} {P : mPost} : mG (d) 146 10 [a0, a1, a2] [] lay M P = mG d 146 11 [a0, a1, a2] [.int (Int32.ofInt 1)] lay M P := e_iconst rfl
set_option maxRecDepth 20000 in
theorem g146_11 {d : Nat} {a0 a1 a2 : Option Value} {s0 : Int32} {lay : List mShp} {M : mMem} {P : mPost} : mG (d) 146 11 [a0, a1, a2] [.int s0] lay M P = mG d 146 15 [a0, a1, a2] [.int s0] lay M P := e_goto rfl rfl
set_option maxRecDepth 20000 in
theorem g146_14 {d : Nat} {a0 a1 a2 : Option Value} {lay : List mShp} {M : mMem} {P : mPost} : mG (d) 146 14 [a0, a1, a2] [] lay M P = mG d 146 15 [a0, a1, a2] [.int (Int32.ofInt 0)] lay M P := e_iconst rfl
set_option maxRecDepth 20000 in
theorem g146_15 {d : Nat} {a0 a1 a2 : Option Value} {s0 : Int32} {lay : List mShp} {M : mMem} {P : mPost} : mG (d) 146 15 [a0, a1, a2] [.int s0] lay M P = ((s0 = 0 ∨ s0 = 1) ∧ P (some (.int s0)) lay M) := e_ireturnZ rfl rfl
-- 147 X10_bound
theorem g147_in {d : Nat} {x0 : Int32} {x1 : Int32} {x2 : Int32} {lay : List mShp} {M : mMem} {P : mPost} : mF d 147 [.int x0, .int x1, .int x2] lay M P = mG d 147 0 [some (.int x0), some (.int x1), some (.int x2)] [] lay M P := mF_in rfl rfl
set_option maxRecDepth 20000 in
theorem g147_0 {d : Nat} {a0 a2 : Option Value} {x : Int32} {lay : List mShp} {M : mMem} {P : mPost} : mG (d) 147 0 [a0, some (.int x), a2] [] lay M P = mG d 147 1 [a0, some (.int x), a2] [.int x] lay M P := e_iload_n (i := 1) rfl rfl rfl
set_option maxRecDepth 20000 in
theorem g147_1 {d : Nat} {a0 a1 : Option Value} {s0 : Int32} {x : Int32} {lay : List mShp} {M : mMem} {P : mPost} : mG (d) 147 1 [a0, a1, some (.int x)] [.int s0] lay M P = mG d 147 2 [a0, a1, some (.int x)] [.int x, .int s0] lay M P := e_iload_n (i := 2) rfl rfl rfl
set_option maxRecDepth 20000 in
theorem g147_2 {d : Nat} {a1 a2 : Option Value} {s0 : Int32} {s1 : Int32} {x : Int32} {lay : List mShp} {M : mMem} {P : mPost} : mG (d) 147 2 [some (.int x), a1, a2] [.int s0, .int s1] lay M P = mG d 147 3 [some (.int x), a1, a2] [.int x, .int s0, .int s1] lay M P := e_iload_n (i := 0) rfl rfl rfl
set_option maxRecDepth 20000 in
theorem g147_3 {d : Nat} {a0 a1 a2 : Option Value} {s0 : Int32} {s1 : Int32} {s2 : Int32} {lay : List mShp} {M : mMem} {P : mPost} : mG (d) 147 3 [a0, a1, a2] [.int s0, .int s1, .int s2] lay M P = mG d 147 6 [a0, a1, a2] [.int (if s0 < s1 then s0 else s1), .int s2] lay M P := e_min rfl rfl (Nat.le_of_ble_eq_true rfl)
set_option maxRecDepth 20000 in
theorem g147_6 {d : Nat} {a0 a1 a2 : Option Value} {s0 : Int32} {s1 : Int32} {lay : List mShp} {M : mMem} {P : mPost} : mG (d) 147 6 [a0, a1, a2] [.int s0, .int s1] lay M P = mG d 147 9 [a0, a1, a2] [.int (if s1 < s0 then s0 else s1)] lay M P := e_max rfl rfl (Nat.le_of_ble_eq_true rfl)
set_option maxRecDepth 20000 in
theorem g147_9 {d : Nat} {a0 a1 a2 : Option Value} {s0 : Int32} {lay : List mShp} {M : mMem} {P : mPost} : mG (d) 147 9 [a0, a1, a2] [.int s0] lay M P = P (some (.int s0)) lay M := e_ireturnI rfl rfl
-- 148 X10_fresh
theorem g148_in {d : Nat}  {lay : List mShp} {M : mMem} {P : mPost} : mF d 148 [] lay M P = mG d 148 0 [none] [] lay M P := mF_in rfl rfl
set_option maxRecDepth 20000 in
theorem g148_0 {d : Nat} {a0 : Option Value} {lay : List mShp} {M : mMem} {P : mPost} : mG (d) 148 0 [a0] [] lay M P = mG d 148 2 [a0] [.int (Int32.ofInt 42)] lay M P := e_bipush rfl
set_option maxRecDepth 20000 in
theorem g148_2 {d : Nat} {a0 : Option Value} {s0 : Int32} {lay : List mShp} {M : mMem} {P : mPost} : mG (d) 148 2 [a0] [.int s0] lay M P = ((0 ≤ s0.toInt ∧ s0.toInt ≤ 100000) ∧ mG d 148 4 [a0] [.ref (lay.length + 3)] (lay ++ [(0, s0.toNatClampNeg)]) (mNew M (lay.length + 3)) P) := e_newa_intP rfl
set_option maxRecDepth 20000 in
theorem g148_4 {d : Nat} {a0 : Option Value} {s0 : Nat} {lay : List mShp} {M : mMem} {P : mPost} (hx : ¬ s0 = 0) : mG (d) 148 4 [a0] [.ref s0] lay M P = mG d 148 5 [some (.ref s0)] [] lay M P := e_astore_nP hx (i := 0) rfl rfl (by simp) (mS1_0 )
set_option maxRecDepth 20000 in
theorem g148_5 {d : Nat}  {x : Nat} {lay : List mShp} {M : mMem} {P : mPost} (hx : ¬ x = 0) : mG (d) 148 5 [some (.ref x)] [] lay M P = mG d 148 6 [some (.ref x)] [.ref x] lay M P := e_aload_nP hx (i := 0) rfl rfl rfl
set_option maxRecDepth 20000 in
theorem g148_6 {d : Nat} {a0 : Option Value} {s0 : Nat} {lay : List mShp} {M : mMem} {P : mPost} : mG (d) 148 6 [a0] [.ref s0] lay M P = mG d 148 8 [a0] [.int (Int32.ofInt 40), .ref s0] lay M P := e_bipush rfl
set_option maxRecDepth 20000 in
theorem g148_8 {d : Nat} {a0 : Option Value} {s0 : Int32} {s1 : Nat} {lay : List mShp} {M : mMem} {P : mPost} : mG (d) 148 8 [a0] [.int s0, .ref s1] lay M P = mG d 148 9 [a0] [.int (Int32.ofInt 2), .int s0, .ref s1] lay M P := e_iconst rfl
set_option maxRecDepth 20000 in
theorem g148_9 {d : Nat} {a0 : Option Value} {s0 : Int32} {s1 : Int32} {s2 : Nat} {n : Nat} {lay : List mShp} {M : mMem} {P : mPost} (hs : mSh lay s2 = some (0, n)) : mG (d) 148 9 [a0] [.int s0, .int s1, .ref s2] lay M P = (mIdx s1 n = true ∧ mG d 148 10 [a0] [] lay (mSetI M s2 s1.toNatClampNeg s0) P) := e_iastore rfl hs
set_option maxRecDepth 20000 in
theorem g148_10 {d : Nat}  {x : Nat} {lay : List mShp} {M : mMem} {P : mPost} (hx : ¬ x = 0) : mG (d) 148 10 [some (.ref x)] [] lay M P = mG d 148 11 [some (.ref x)] [.ref x] lay M P := e_aload_nP hx (i := 0) rfl rfl rfl
set_option maxRecDepth 20000 in
theorem g148_11 {d : Nat} {a0 : Option Value} {s0 : Nat} {lay : List mShp} {M : mMem} {P : mPost} : mG (d) 148 11 [a0] [.ref s0] lay M P = P (some (.ref s0)) lay M := e_areturn rfl rfl
-- 149 X10_keepAll
theorem g149_in {d : Nat} {x0 : Nat} {x1 : Int32} {lay : List mShp} {M : mMem} {P : mPost} : mF d 149 [.ref x0, .int x1] lay M P = mG d 149 0 [some (.ref x0), some (.int x1), none] [] lay M P := mF_in rfl rfl
set_option maxRecDepth 20000 in
theorem g149_0 {d : Nat} {a0 a1 a2 : Option Value} {lay : List mShp} {M : mMem} {P : mPost} : mG (d) 149 0 [a0, a1, a2] [] lay M P = mG d 149 1 [a0, a1, a2] [.int (Int32.ofInt 0)] lay M P := e_iconst rfl
set_option maxRecDepth 20000 in
theorem g149_1 {d : Nat} {a0 a1 a2 : Option Value} {s0 : Int32} {lay : List mShp} {M : mMem} {P : mPost} (h0 : mNoL a1 = true) : mG (d) 149 1 [a0, a1, a2] [.int s0] lay M P = mG d 149 2 [a0, a1, some (.int s0)] [] lay M P := e_istore_n (i := 2) rfl rfl (by simp) (mS1_2 h0)
set_option maxRecDepth 20000 in
theorem g149_2 {d : Nat} {a0 a1 : Option Value} {x : Int32} {lay : List mShp} {M : mMem} {P : mPost} : mG (d) 149 2 [a0, a1, some (.int x)] [] lay M P = mG d 149 3 [a0, a1, some (.int x)] [.int x] lay M P := e_iload_n (i := 2) rfl rfl rfl
set_option maxRecDepth 20000 in
theorem g149_3 {d : Nat} {a0 a1 a2 : Option Value} {s0 : Int32} {lay : List mShp} {M : mMem} {P : mPost} : mG (d) 149 3 [a0, a1, a2] [.int s0] lay M P = mG d 149 5 [a0, a1, a2] [.int (Int32.ofInt 42), .int s0] lay M P := e_bipush rfl
set_option maxRecDepth 20000 in
theorem g149_5 {d : Nat} {a0 a1 a2 : Option Value} {s0 : Int32} {s1 : Int32} {lay : List mShp} {M : mMem} {P : mPost} : mG (d) 149 5 [a0, a1, a2] [.int s0, .int s1] lay M P = if s1 < s0 then mG d 149 8 [a0, a1, a2] [] lay M P else mG d 149 31 [a0, a1, a2] [] lay M P := e_icmp_ge rfl rfl
set_option maxRecDepth 20000 in
theorem g149_8 {d : Nat} {a1 a2 : Option Value} {x : Nat} {lay : List mShp} {M : mMem} {P : mPost} (hx : ¬ x = 0) : mG (d) 149 8 [some (.ref x), a1, a2] [] lay M P = mG d 149 9 [some (.ref x), a1, a2] [.ref x] lay M P := e_aload_nP hx (i := 0) rfl rfl rfl
set_option maxRecDepth 20000 in
theorem g149_9 {d : Nat} {a0 a1 a2 : Option Value} {s0 : Nat} {lay : List mShp} {M : mMem} {P : mPost} (hs : mSh lay s0 = some (13, 44)) : mG (d) 149 9 [a0, a1, a2] [.ref s0] lay M P = mG d 149 12 [a0, a1, a2] [.ref (M.2.2 s0 1)] lay M P := mG_of_and (mIsO_of hs (by decide)) (e_getA (ci := 10) (j := 1) rfl rfl rfl)
set_option maxRecDepth 20000 in
theorem g149_12 {d : Nat} {a0 a1 a2 : Option Value} {s0 : Nat} {lay : List mShp} {M : mMem} {P : mPost} : mG (d) 149 12 [a0, a1, a2] [.ref s0] lay M P = mG d 149 14 [a0, a1, a2] [.int (Int32.ofInt 42), .ref s0] lay M P := e_bipush rfl
set_option maxRecDepth 20000 in
theorem g149_14 {d : Nat} {a0 a2 : Option Value} {s0 : Int32} {s1 : Nat} {x : Int32} {lay : List mShp} {M : mMem} {P : mPost} : mG (d) 149 14 [a0, some (.int x), a2] [.int s0, .ref s1] lay M P = mG d 149 15 [a0, some (.int x), a2] [.int x, .int s0, .ref s1] lay M P := e_iload_n (i := 1) rfl rfl rfl
set_option maxRecDepth 20000 in
theorem g149_15 {d : Nat} {a0 a1 a2 : Option Value} {s0 : Int32} {s1 : Int32} {s2 : Nat} {lay : List mShp} {M : mMem} {P : mPost} : mG (d) 149 15 [a0, a1, a2] [.int s0, .int s1, .ref s2] lay M P = mG d 149 16 [a0, a1, a2] [.int (s1 * s0), .ref s2] lay M P := e_imul rfl
set_option maxRecDepth 20000 in
theorem g149_16 {d : Nat} {a0 a1 : Option Value} {s0 : Int32} {s1 : Nat} {x : Int32} {lay : List mShp} {M : mMem} {P : mPost} : mG (d) 149 16 [a0, a1, some (.int x)] [.int s0, .ref s1] lay M P = mG d 149 17 [a0, a1, some (.int x)] [.int x, .int s0, .ref s1] lay M P := e_iload_n (i := 2) rfl rfl rfl
set_option maxRecDepth 20000 in
theorem g149_17 {d : Nat} {a0 a1 a2 : Option Value} {s0 : Int32} {s1 : Int32} {s2 : Nat} {lay : List mShp} {M : mMem} {P : mPost} : mG (d) 149 17 [a0, a1, a2] [.int s0, .int s1, .ref s2] lay M P = mG d 149 18 [a0, a1, a2] [.int (s1 + s0), .ref s2] lay M P := e_iadd rfl
set_option maxRecDepth 20000 in
theorem g149_18 {d : Nat} {a1 a2 : Option Value} {s0 : Int32} {s1 : Nat} {x : Nat} {lay : List mShp} {M : mMem} {P : mPost} (hx : ¬ x = 0) : mG (d) 149 18 [some (.ref x), a1, a2] [.int s0, .ref s1] lay M P = mG d 149 19 [some (.ref x), a1, a2] [.ref x, .int s0, .ref s1] lay M P := e_aload_nP hx (i := 0) rfl rfl rfl
set_option maxRecDepth 20000 in
theorem g149_19 {d : Nat} {a0 a1 a2 : Option Value} {s0 : Nat} {s1 : Int32} {s2 : Nat} {lay : List mShp} {M : mMem} {P : mPost} (hs : mSh lay s0 = some (13, 44)) : mG (d) 149 19 [a0, a1, a2] [.ref s0, .int s1, .ref s2] lay M P = mG d 149 22 [a0, a1, a2] [.ref (M.2.2 s0 0), .int s1, .ref s2] lay M P := mG_of_and (mIsO_of hs (by decide)) (e_getA (ci := 10) (j := 0) rfl rfl rfl)
set_option maxRecDepth 20000 in
theorem g149_22 {d : Nat} {a0 a1 : Option Value} {s0 : Nat} {s1 : Int32} {s2 : Nat} {x : Int32} {lay : List mShp} {M : mMem} {P : mPost} : mG (d) 149 22 [a0, a1, some (.int x)] [.ref s0, .int s1, .ref s2] lay M P = mG d 149 23 [a0, a1, some (.int x)] [.int x, .ref s0, .int s1, .ref s2] lay M P := e_iload_n (i := 2) rfl rfl rfl
set_option maxRecDepth 20000 in
theorem g149_23 {d : Nat} {a0 a1 a2 : Option Value} {s0 : Int32} {s1 : Nat} {s2 : Int32} {s3 : Nat} {lay : List mShp} {M : mMem} {P : mPost} (hs : mSh lay s1 = some (0, 42)) : mG (d) 149 23 [a0, a1, a2] [.int s0, .ref s1, .int s2, .ref s3] lay M P = (mIdx s0 42 = true ∧ mG d 149 24 [a0, a1, a2] [.int (M.1 s1 s0.toNatClampNeg), .int s2, .ref s3] lay M P) := e_iaload rfl hs
set_option maxRecDepth 20000 in
theorem g149_24 {d : Nat} {a0 a1 a2 : Option Value} {s0 : Int32} {s1 : Int32} {s2 : Nat} {lay : List mShp} {M : mMem} {P : mPost} (hs : mSh lay s2 = some (0, 294)) : mG (d) 149 24 [a0, a1, a2] [.int s0, .int s1, .ref s2] lay M P = (mIdx s1 294 = true ∧ mG d 149 25 [a0, a1, a2] [] lay (mSetI M s2 s1.toNatClampNeg s0) P) := e_iastore rfl hs
set_option maxRecDepth 20000 in
theorem g149_25 {d : Nat} {a0 a1 : Option Value} {x : Int32} {lay : List mShp} {M : mMem} {P : mPost} (h0 : mNoL a1 = true) : mG (d) 149 25 [a0, a1, some (.int x)] [] lay M P = mG d 149 28 [a0, a1, some (.int (x + Int32.ofInt 1))] [] lay M P := e_iinc (n := 2) rfl rfl (mS1_2 h0)
set_option maxRecDepth 20000 in
theorem g149_28 {d : Nat} {a0 a1 a2 : Option Value} {lay : List mShp} {M : mMem} {P : mPost} : mG (d) 149 28 [a0, a1, a2] [] lay M P = mG d 149 2 [a0, a1, a2] [] lay M P := e_goto rfl rfl
set_option maxRecDepth 20000 in
theorem g149_31 {d : Nat} {a0 a1 a2 : Option Value} {lay : List mShp} {M : mMem} {P : mPost} : mG (d) 149 31 [a0, a1, a2] [] lay M P = P none lay M := e_return rfl rfl
-- 150 X10_layAll
theorem g150_in {d : Nat} {x0 : Nat} {x1 : Int32} {lay : List mShp} {M : mMem} {P : mPost} : mF d 150 [.ref x0, .int x1] lay M P = mG d 150 0 [some (.ref x0), some (.int x1), none] [] lay M P := mF_in rfl rfl
set_option maxRecDepth 20000 in
theorem g150_0 {d : Nat} {a0 a1 a2 : Option Value} {lay : List mShp} {M : mMem} {P : mPost} : mG (d) 150 0 [a0, a1, a2] [] lay M P = mG d 150 1 [a0, a1, a2] [.int (Int32.ofInt 0)] lay M P := e_iconst rfl
set_option maxRecDepth 20000 in
theorem g150_1 {d : Nat} {a0 a1 a2 : Option Value} {s0 : Int32} {lay : List mShp} {M : mMem} {P : mPost} (h0 : mNoL a1 = true) : mG (d) 150 1 [a0, a1, a2] [.int s0] lay M P = mG d 150 2 [a0, a1, some (.int s0)] [] lay M P := e_istore_n (i := 2) rfl rfl (by simp) (mS1_2 h0)
set_option maxRecDepth 20000 in
theorem g150_2 {d : Nat} {a0 a1 : Option Value} {x : Int32} {lay : List mShp} {M : mMem} {P : mPost} : mG (d) 150 2 [a0, a1, some (.int x)] [] lay M P = mG d 150 3 [a0, a1, some (.int x)] [.int x] lay M P := e_iload_n (i := 2) rfl rfl rfl
set_option maxRecDepth 20000 in
theorem g150_3 {d : Nat} {a0 a1 a2 : Option Value} {s0 : Int32} {lay : List mShp} {M : mMem} {P : mPost} : mG (d) 150 3 [a0, a1, a2] [.int s0] lay M P = mG d 150 5 [a0, a1, a2] [.int (Int32.ofInt 42), .int s0] lay M P := e_bipush rfl
set_option maxRecDepth 20000 in
theorem g150_5 {d : Nat} {a0 a1 a2 : Option Value} {s0 : Int32} {s1 : Int32} {lay : List mShp} {M : mMem} {P : mPost} : mG (d) 150 5 [a0, a1, a2] [.int s0, .int s1] lay M P = if s1 < s0 then mG d 150 8 [a0, a1, a2] [] lay M P else mG d 150 31 [a0, a1, a2] [] lay M P := e_icmp_ge rfl rfl
set_option maxRecDepth 20000 in
theorem g150_8 {d : Nat} {a1 a2 : Option Value} {x : Nat} {lay : List mShp} {M : mMem} {P : mPost} (hx : ¬ x = 0) : mG (d) 150 8 [some (.ref x), a1, a2] [] lay M P = mG d 150 9 [some (.ref x), a1, a2] [.ref x] lay M P := e_aload_nP hx (i := 0) rfl rfl rfl
set_option maxRecDepth 20000 in
theorem g150_9 {d : Nat} {a0 a1 a2 : Option Value} {s0 : Nat} {lay : List mShp} {M : mMem} {P : mPost} (hs : mSh lay s0 = some (13, 44)) : mG (d) 150 9 [a0, a1, a2] [.ref s0] lay M P = mG d 150 12 [a0, a1, a2] [.ref (M.2.2 s0 0)] lay M P := mG_of_and (mIsO_of hs (by decide)) (e_getA (ci := 10) (j := 0) rfl rfl rfl)
set_option maxRecDepth 20000 in
theorem g150_12 {d : Nat} {a0 a1 : Option Value} {s0 : Nat} {x : Int32} {lay : List mShp} {M : mMem} {P : mPost} : mG (d) 150 12 [a0, a1, some (.int x)] [.ref s0] lay M P = mG d 150 13 [a0, a1, some (.int x)] [.int x, .ref s0] lay M P := e_iload_n (i := 2) rfl rfl rfl
set_option maxRecDepth 20000 in
theorem g150_13 {d : Nat} {a1 a2 : Option Value} {s0 : Int32} {s1 : Nat} {x : Nat} {lay : List mShp} {M : mMem} {P : mPost} (hx : ¬ x = 0) : mG (d) 150 13 [some (.ref x), a1, a2] [.int s0, .ref s1] lay M P = mG d 150 14 [some (.ref x), a1, a2] [.ref x, .int s0, .ref s1] lay M P := e_aload_nP hx (i := 0) rfl rfl rfl
set_option maxRecDepth 20000 in
theorem g150_14 {d : Nat} {a0 a1 a2 : Option Value} {s0 : Nat} {s1 : Int32} {s2 : Nat} {lay : List mShp} {M : mMem} {P : mPost} (hs : mSh lay s0 = some (13, 44)) : mG (d) 150 14 [a0, a1, a2] [.ref s0, .int s1, .ref s2] lay M P = mG d 150 17 [a0, a1, a2] [.ref (M.2.2 s0 1), .int s1, .ref s2] lay M P := mG_of_and (mIsO_of hs (by decide)) (e_getA (ci := 10) (j := 1) rfl rfl rfl)
set_option maxRecDepth 20000 in
theorem g150_17 {d : Nat} {a0 a1 a2 : Option Value} {s0 : Nat} {s1 : Int32} {s2 : Nat} {lay : List mShp} {M : mMem} {P : mPost} : mG (d) 150 17 [a0, a1, a2] [.ref s0, .int s1, .ref s2] lay M P = mG d 150 19 [a0, a1, a2] [.int (Int32.ofInt 42), .ref s0, .int s1, .ref s2] lay M P := e_bipush rfl
set_option maxRecDepth 20000 in
theorem g150_19 {d : Nat} {a0 a2 : Option Value} {s0 : Int32} {s1 : Nat} {s2 : Int32} {s3 : Nat} {x : Int32} {lay : List mShp} {M : mMem} {P : mPost} : mG (d) 150 19 [a0, some (.int x), a2] [.int s0, .ref s1, .int s2, .ref s3] lay M P = mG d 150 20 [a0, some (.int x), a2] [.int x, .int s0, .ref s1, .int s2, .ref s3] lay M P := e_iload_n (i := 1) rfl rfl rfl
set_option maxRecDepth 20000 in
theorem g150_20 {d : Nat} {a0 a1 a2 : Option Value} {s0 : Int32} {s1 : Int32} {s2 : Nat} {s3 : Int32} {s4 : Nat} {lay : List mShp} {M : mMem} {P : mPost} : mG (d) 150 20 [a0, a1, a2] [.int s0, .int s1, .ref s2, .int s3, .ref s4] lay M P = mG d 150 21 [a0, a1, a2] [.int (s1 * s0), .ref s2, .int s3, .ref s4] lay M P := e_imul rfl
set_option maxRecDepth 20000 in
theorem g150_21 {d : Nat} {a0 a1 : Option Value} {s0 : Int32} {s1 : Nat} {s2 : Int32} {s3 : Nat} {x : Int32} {lay : List mShp} {M : mMem} {P : mPost} : mG (d) 150 21 [a0, a1, some (.int x)] [.int s0, .ref s1, .int s2, .ref s3] lay M P = mG d 150 22 [a0, a1, some (.int x)] [.int x, .int s0, .ref s1, .int s2, .ref s3] lay M P := e_iload_n (i := 2) rfl rfl rfl
set_option maxRecDepth 20000 in
theorem g150_22 {d : Nat} {a0 a1 a2 : Option Value} {s0 : Int32} {s1 : Int32} {s2 : Nat} {s3 : Int32} {s4 : Nat} {lay : List mShp} {M : mMem} {P : mPost} : mG (d) 150 22 [a0, a1, a2] [.int s0, .int s1, .ref s2, .int s3, .ref s4] lay M P = mG d 150 23 [a0, a1, a2] [.int (s1 + s0), .ref s2, .int s3, .ref s4] lay M P := e_iadd rfl
set_option maxRecDepth 20000 in
theorem g150_23 {d : Nat} {a0 a1 a2 : Option Value} {s0 : Int32} {s1 : Nat} {s2 : Int32} {s3 : Nat} {lay : List mShp} {M : mMem} {P : mPost} (hs : mSh lay s1 = some (0, 294)) : mG (d) 150 23 [a0, a1, a2] [.int s0, .ref s1, .int s2, .ref s3] lay M P = (mIdx s0 294 = true ∧ mG d 150 24 [a0, a1, a2] [.int (M.1 s1 s0.toNatClampNeg), .int s2, .ref s3] lay M P) := e_iaload rfl hs
set_option maxRecDepth 20000 in
theorem g150_24 {d : Nat} {a0 a1 a2 : Option Value} {s0 : Int32} {s1 : Int32} {s2 : Nat} {lay : List mShp} {M : mMem} {P : mPost} (hs : mSh lay s2 = some (0, 42)) : mG (d) 150 24 [a0, a1, a2] [.int s0, .int s1, .ref s2] lay M P = (mIdx s1 42 = true ∧ mG d 150 25 [a0, a1, a2] [] lay (mSetI M s2 s1.toNatClampNeg s0) P) := e_iastore rfl hs
set_option maxRecDepth 20000 in
theorem g150_25 {d : Nat} {a0 a1 : Option Value} {x : Int32} {lay : List mShp} {M : mMem} {P : mPost} (h0 : mNoL a1 = true) : mG (d) 150 25 [a0, a1, some (.int x)] [] lay M P = mG d 150 28 [a0, a1, some (.int (x + Int32.ofInt 1))] [] lay M P := e_iinc (n := 2) rfl rfl (mS1_2 h0)
set_option maxRecDepth 20000 in
theorem g150_28 {d : Nat} {a0 a1 a2 : Option Value} {lay : List mShp} {M : mMem} {P : mPost} : mG (d) 150 28 [a0, a1, a2] [] lay M P = mG d 150 2 [a0, a1, a2] [] lay M P := e_goto rfl rfl
set_option maxRecDepth 20000 in
theorem g150_31 {d : Nat} {a0 a1 a2 : Option Value} {lay : List mShp} {M : mMem} {P : mPost} : mG (d) 150 31 [a0, a1, a2] [] lay M P = P none lay M := e_return rfl rfl
-- 151 X10_isOne
theorem g151_in {d : Nat} {x0 : Nat} {x1 : Int32} {lay : List mShp} {M : mMem} {P : mPost} : mF d 151 [.ref x0, .int x1] lay M P = mG d 151 0 [some (.ref x0), some (.int x1)] [] lay M P := mF_in rfl rfl
set_option maxRecDepth 20000 in
theorem g151_0 {d : Nat} {a0 : Option Value} {x : Int32} {lay : List mShp} {M : mMem} {P : mPost} : mG (d) 151 0 [a0, some (.int x)] [] lay M P = mG d 151 1 [a0, some (.int x)] [.int x] lay M P := e_iload_n (i := 1) rfl rfl rfl
set_option maxRecDepth 20000 in
theorem g151_1 {d : Nat} {a0 a1 : Option Value} {s0 : Int32} {lay : List mShp} {M : mMem} {P : mPost} : mG (d) 151 1 [a0, a1] [.int s0] lay M P = mG d 151 2 [a0, a1] [.int (Int32.ofInt 0), .int s0] lay M P := e_iconst rfl
set_option maxRecDepth 20000 in
theorem g151_2 {d : Nat} {a1 : Option Value} {s0 : Int32} {s1 : Int32} {x : Nat} {lay : List mShp} {M : mMem} {P : mPost} (hx : ¬ x = 0) : mG (d) 151 2 [some (.ref x), a1] [.int s0, .int s1] lay M P = mG d 151 3 [some (.ref x), a1] [.ref x, .int s0, .int s1] lay M P := e_aload_nP hx (i := 0) rfl rfl rfl
set_option maxRecDepth 20000 in
theorem g151_3 {d : Nat} {a0 a1 : Option Value} {s0 : Nat} {s1 : Int32} {s2 : Int32} {lay : List mShp} {M : mMem} {P : mPost} (hs : mSh lay s0 = some (13, 44)) : mG (d) 151 3 [a0, a1] [.ref s0, .int s1, .int s2] lay M P = mG d 151 6 [a0, a1] [.int (M.1 s0 2), .int s1, .int s2] lay M P := mG_of_and (mIsO_of hs (by decide)) (e_getI (ci := 10) (j := 2) rfl rfl rfl)
set_option maxRecDepth 20000 in
theorem g151_6 {d : Nat} {a0 a1 : Option Value} {s0 : Int32} {s1 : Int32} {s2 : Int32} {lay : List mShp} {M : mMem} {P : mPost} : mG (d) 151 6 [a0, a1] [.int s0, .int s1, .int s2] lay M P = mG d 151 7 [a0, a1] [.int (Int32.ofInt 1), .int s0, .int s1, .int s2] lay M P := e_iconst rfl
set_option maxRecDepth 20000 in
theorem g151_7 {d : Nat} {a0 a1 : Option Value} {s0 : Int32} {s1 : Int32} {s2 : Int32} {s3 : Int32} {lay : List mShp} {M : mMem} {P : mPost} : mG (d) 151 7 [a0, a1] [.int s0, .int s1, .int s2, .int s3] lay M P = mG d 151 8 [a0, a1] [.int (s1 - s0), .int s2, .int s3] lay M P := e_isub rfl
set_option maxRecDepth 20000 in
theorem g151_8 {d : Nat} {a0 a1 : Option Value} {s0 : Int32} {s1 : Int32} {s2 : Int32} {lay : List mShp} {M : mMem} {P : mPost} : mG (d + 1) 151 8 [a0, a1] [.int s0, .int s1, .int s2] lay M P = mF d 146 [.int s2, .int s1, .int s0] lay M (fun v lay1 M1 => mG (d + 1) 151 11 [a0, a1] (v.toList ++ []) lay1 M1 P) := e_static3 (j := 146) rfl rfl rfl rfl rfl (Nat.le_of_ble_eq_true rfl)
set_option maxRecDepth 20000 in
theorem g151_11 {d : Nat} {a0 a1 : Option Value} {s0 : Int32} {lay : List mShp} {M : mMem} {P : mPost} : mG (d) 151 11 [a0, a1] [.int s0] lay M P = ((s0 = 0 ∨ s0 = 1) ∧ P (some (.int s0)) lay M) := e_ireturnZ rfl rfl
-- 152 X10_number
theorem g152_in {d : Nat} {x0 : Nat} {x1 : Int32} {x2 : Int32} {lay : List mShp} {M : mMem} {P : mPost} : mF d 152 [.ref x0, .int x1, .int x2] lay M P = mG d 152 0 [some (.ref x0), some (.int x1), some (.int x2)] [] lay M P := mF_in rfl rfl
set_option maxRecDepth 20000 in
theorem g152_0 {d : Nat} {a1 a2 : Option Value} {x : Nat} {lay : List mShp} {M : mMem} {P : mPost} (hx : ¬ x = 0) : mG (d) 152 0 [some (.ref x), a1, a2] [] lay M P = mG d 152 1 [some (.ref x), a1, a2] [.ref x] lay M P := e_aload_nP hx (i := 0) rfl rfl rfl
set_option maxRecDepth 20000 in
theorem g152_1 {d : Nat} {a0 a1 a2 : Option Value} {s0 : Nat} {lay : List mShp} {M : mMem} {P : mPost} (hs : mSh lay s0 = some (13, 44)) : mG (d) 152 1 [a0, a1, a2] [.ref s0] lay M P = mG d 152 4 [a0, a1, a2] [.ref (M.2.2 s0 0)] lay M P := mG_of_and (mIsO_of hs (by decide)) (e_getA (ci := 10) (j := 0) rfl rfl rfl)
set_option maxRecDepth 20000 in
theorem g152_4 {d : Nat} {a0 a1 a2 : Option Value} {s0 : Nat} {lay : List mShp} {M : mMem} {P : mPost} : mG (d) 152 4 [a0, a1, a2] [.ref s0] lay M P = mG d 152 5 [a0, a1, a2] [.int (Int32.ofInt 5), .ref s0] lay M P := e_iconst rfl
set_option maxRecDepth 20000 in
theorem g152_5 {d : Nat} {a0 a2 : Option Value} {s0 : Int32} {s1 : Nat} {x : Int32} {lay : List mShp} {M : mMem} {P : mPost} : mG (d) 152 5 [a0, some (.int x), a2] [.int s0, .ref s1] lay M P = mG d 152 6 [a0, some (.int x), a2] [.int x, .int s0, .ref s1] lay M P := e_iload_n (i := 1) rfl rfl rfl
set_option maxRecDepth 20000 in
theorem g152_6 {d : Nat} {a0 a1 a2 : Option Value} {s0 : Int32} {s1 : Int32} {s2 : Nat} {lay : List mShp} {M : mMem} {P : mPost} : mG (d) 152 6 [a0, a1, a2] [.int s0, .int s1, .ref s2] lay M P = mG d 152 7 [a0, a1, a2] [.int (s1 * s0), .ref s2] lay M P := e_imul rfl
set_option maxRecDepth 20000 in
theorem g152_7 {d : Nat} {a0 a1 : Option Value} {s0 : Int32} {s1 : Nat} {x : Int32} {lay : List mShp} {M : mMem} {P : mPost} : mG (d) 152 7 [a0, a1, some (.int x)] [.int s0, .ref s1] lay M P = mG d 152 8 [a0, a1, some (.int x)] [.int x, .int s0, .ref s1] lay M P := e_iload_n (i := 2) rfl rfl rfl
set_option maxRecDepth 20000 in
theorem g152_8 {d : Nat} {a0 a1 a2 : Option Value} {s0 : Int32} {s1 : Int32} {s2 : Nat} {lay : List mShp} {M : mMem} {P : mPost} : mG (d) 152 8 [a0, a1, a2] [.int s0, .int s1, .ref s2] lay M P = mG d 152 9 [a0, a1, a2] [.int (s1 + s0), .ref s2] lay M P := e_iadd rfl
set_option maxRecDepth 20000 in
theorem g152_9 {d : Nat} {a0 a1 a2 : Option Value} {s0 : Int32} {s1 : Nat} {lay : List mShp} {M : mMem} {P : mPost} (hs : mSh lay s1 = some (0, 42)) : mG (d) 152 9 [a0, a1, a2] [.int s0, .ref s1] lay M P = (mIdx s0 42 = true ∧ mG d 152 10 [a0, a1, a2] [.int (M.1 s1 s0.toNatClampNeg)] lay M P) := e_iaload rfl hs
set_option maxRecDepth 20000 in
theorem g152_10 {d : Nat} {a0 a1 a2 : Option Value} {s0 : Int32} {lay : List mShp} {M : mMem} {P : mPost} : mG (d) 152 10 [a0, a1, a2] [.int s0] lay M P = P (some (.int s0)) lay M := e_ireturnI rfl rfl
-- 153 X10_change
theorem g153_in {d : Nat} {x0 : Nat} {x1 : Int32} {x2 : Int32} {x3 : Int32} {lay : List mShp} {M : mMem} {P : mPost} : mF d 153 [.ref x0, .int x1, .int x2, .int x3] lay M P = mG d 153 0 [some (.ref x0), some (.int x1), some (.int x2), some (.int x3)] [] lay M P := mF_in rfl rfl
set_option maxRecDepth 20000 in
theorem g153_0 {d : Nat} {a1 a2 a3 : Option Value} {x : Nat} {lay : List mShp} {M : mMem} {P : mPost} (hx : ¬ x = 0) : mG (d) 153 0 [some (.ref x), a1, a2, a3] [] lay M P = mG d 153 1 [some (.ref x), a1, a2, a3] [.ref x] lay M P := e_aload_nP hx (i := 0) rfl rfl rfl
set_option maxRecDepth 20000 in
theorem g153_1 {d : Nat} {a0 a1 a2 a3 : Option Value} {s0 : Nat} {lay : List mShp} {M : mMem} {P : mPost} (hs : mSh lay s0 = some (13, 44)) : mG (d) 153 1 [a0, a1, a2, a3] [.ref s0] lay M P = mG d 153 4 [a0, a1, a2, a3] [.ref (M.2.2 s0 0)] lay M P := mG_of_and (mIsO_of hs (by decide)) (e_getA (ci := 10) (j := 0) rfl rfl rfl)
set_option maxRecDepth 20000 in
theorem g153_4 {d : Nat} {a0 a1 a2 a3 : Option Value} {s0 : Nat} {lay : List mShp} {M : mMem} {P : mPost} : mG (d) 153 4 [a0, a1, a2, a3] [.ref s0] lay M P = mG d 153 5 [a0, a1, a2, a3] [.int (Int32.ofInt 5), .ref s0] lay M P := e_iconst rfl
set_option maxRecDepth 20000 in
theorem g153_5 {d : Nat} {a0 a2 a3 : Option Value} {s0 : Int32} {s1 : Nat} {x : Int32} {lay : List mShp} {M : mMem} {P : mPost} : mG (d) 153 5 [a0, some (.int x), a2, a3] [.int s0, .ref s1] lay M P = mG d 153 6 [a0, some (.int x), a2, a3] [.int x, .int s0, .ref s1] lay M P := e_iload_n (i := 1) rfl rfl rfl
set_option maxRecDepth 20000 in
theorem g153_6 {d : Nat} {a0 a1 a2 a3 : Option Value} {s0 : Int32} {s1 : Int32} {s2 : Nat} {lay : List mShp} {M : mMem} {P : mPost} : mG (d) 153 6 [a0, a1, a2, a3] [.int s0, .int s1, .ref s2] lay M P = mG d 153 7 [a0, a1, a2, a3] [.int (s1 * s0), .ref s2] lay M P := e_imul rfl
set_option maxRecDepth 20000 in
theorem g153_7 {d : Nat} {a0 a1 a3 : Option Value} {s0 : Int32} {s1 : Nat} {x : Int32} {lay : List mShp} {M : mMem} {P : mPost} : mG (d) 153 7 [a0, a1, some (.int x), a3] [.int s0, .ref s1] lay M P = mG d 153 8 [a0, a1, some (.int x), a3] [.int x, .int s0, .ref s1] lay M P := e_iload_n (i := 2) rfl rfl rfl
set_option maxRecDepth 20000 in
theorem g153_8 {d : Nat} {a0 a1 a2 a3 : Option Value} {s0 : Int32} {s1 : Int32} {s2 : Nat} {lay : List mShp} {M : mMem} {P : mPost} : mG (d) 153 8 [a0, a1, a2, a3] [.int s0, .int s1, .ref s2] lay M P = mG d 153 9 [a0, a1, a2, a3] [.int (s1 + s0), .ref s2] lay M P := e_iadd rfl
set_option maxRecDepth 20000 in
theorem g153_9 {d : Nat} {a0 a1 a2 : Option Value} {s0 : Int32} {s1 : Nat} {x : Int32} {lay : List mShp} {M : mMem} {P : mPost} : mG (d) 153 9 [a0, a1, a2, some (.int x)] [.int s0, .ref s1] lay M P = mG d 153 10 [a0, a1, a2, some (.int x)] [.int x, .int s0, .ref s1] lay M P := e_iload_n (i := 3) rfl rfl rfl
set_option maxRecDepth 20000 in
theorem g153_10 {d : Nat} {a0 a1 a2 a3 : Option Value} {s0 : Int32} {s1 : Int32} {s2 : Nat} {lay : List mShp} {M : mMem} {P : mPost} (hs : mSh lay s2 = some (0, 42)) : mG (d) 153 10 [a0, a1, a2, a3] [.int s0, .int s1, .ref s2] lay M P = (mIdx s1 42 = true ∧ mG d 153 11 [a0, a1, a2, a3] [] lay (mSetI M s2 s1.toNatClampNeg s0) P) := e_iastore rfl hs
set_option maxRecDepth 20000 in
theorem g153_11 {d : Nat} {a0 a1 a2 a3 : Option Value} {lay : List mShp} {M : mMem} {P : mPost} : mG (d) 153 11 [a0, a1, a2, a3] [] lay M P = P none lay M := e_return rfl rfl
-- 154 X10_add
theorem g154_in {d : Nat} {x0 : Nat} {x1 : Int32} {x2 : Int32} {x3 : Int32} {lay : List mShp} {M : mMem} {P : mPost} : mF d 154 [.ref x0, .int x1, .int x2, .int x3] lay M P = mG d 154 0 [some (.ref x0), some (.int x1), some (.int x2), some (.int x3), none] [] lay M P := mF_in rfl rfl
set_option maxRecDepth 20000 in
theorem g154_0 {d : Nat} {a1 a2 a3 a4 : Option Value} {x : Nat} {lay : List mShp} {M : mMem} {P : mPost} (hx : ¬ x = 0) : mG (d) 154 0 [some (.ref x), a1, a2, a3, a4] [] lay M P = mG d 154 1 [some (.ref x), a1, a2, a3, a4] [.ref x] lay M P := e_aload_nP hx (i := 0) rfl rfl rfl
set_option maxRecDepth 20000 in
theorem g154_1 {d : Nat} {a0 a1 a2 a3 a4 : Option Value} {s0 : Nat} {lay : List mShp} {M : mMem} {P : mPost} (hs : mSh lay s0 = some (13, 44)) : mG (d) 154 1 [a0, a1, a2, a3, a4] [.ref s0] lay M P = mG d 154 4 [a0, a1, a2, a3, a4] [.int (M.1 s0 2)] lay M P := mG_of_and (mIsO_of hs (by decide)) (e_getI (ci := 10) (j := 2) rfl rfl rfl)
set_option maxRecDepth 20000 in
theorem g154_4 {d : Nat} {a0 a1 a2 a3 a4 : Option Value} {s0 : Int32} {lay : List mShp} {M : mMem} {P : mPost} (h0 : mNoL a3 = true) : mG (d) 154 4 [a0, a1, a2, a3, a4] [.int s0] lay M P = mG d 154 6 [a0, a1, a2, a3, some (.int s0)] [] lay M P := e_istore (i := 4) rfl (by simp) (mS1_4 h0)
set_option maxRecDepth 20000 in
theorem g154_6 {d : Nat} {a1 a2 a3 a4 : Option Value} {x : Nat} {lay : List mShp} {M : mMem} {P : mPost} (hx : ¬ x = 0) : mG (d) 154 6 [some (.ref x), a1, a2, a3, a4] [] lay M P = mG d 154 7 [some (.ref x), a1, a2, a3, a4] [.ref x] lay M P := e_aload_nP hx (i := 0) rfl rfl rfl
set_option maxRecDepth 20000 in
theorem g154_7 {d : Nat} {a0 a1 a2 a3 : Option Value} {s0 : Nat} {x : Int32} {lay : List mShp} {M : mMem} {P : mPost} : mG (d) 154 7 [a0, a1, a2, a3, some (.int x)] [.ref s0] lay M P = mG d 154 9 [a0, a1, a2, a3, some (.int x)] [.int x, .ref s0] lay M P := e_iload (i := 4) rfl rfl
set_option maxRecDepth 20000 in
theorem g154_9 {d : Nat} {a0 a1 a2 a3 a4 : Option Value} {s0 : Int32} {s1 : Nat} {lay : List mShp} {M : mMem} {P : mPost} : mG (d) 154 9 [a0, a1, a2, a3, a4] [.int s0, .ref s1] lay M P = mG d 154 10 [a0, a1, a2, a3, a4] [.int (Int32.ofInt 0), .int s0, .ref s1] lay M P := e_iconst rfl
set_option maxRecDepth 20000 in
theorem g154_10 {d : Nat} {a0 a2 a3 a4 : Option Value} {s0 : Int32} {s1 : Int32} {s2 : Nat} {x : Int32} {lay : List mShp} {M : mMem} {P : mPost} : mG (d) 154 10 [a0, some (.int x), a2, a3, a4] [.int s0, .int s1, .ref s2] lay M P = mG d 154 11 [a0, some (.int x), a2, a3, a4] [.int x, .int s0, .int s1, .ref s2] lay M P := e_iload_n (i := 1) rfl rfl rfl
set_option maxRecDepth 20000 in
theorem g154_11 {d : Nat} {a0 a1 a2 a3 a4 : Option Value} {s0 : Int32} {s1 : Int32} {s2 : Int32} {s3 : Nat} {lay : List mShp} {M : mMem} {P : mPost} (hs : mSh lay s3 = some (13, 44)) : mG (d + 1) 154 11 [a0, a1, a2, a3, a4] [.int s0, .int s1, .int s2, .ref s3] lay M P = mF d 153 [.ref s3, .int s2, .int s1, .int s0] lay M (fun v lay1 M1 => mG (d + 1) 154 14 [a0, a1, a2, a3, a4] (v.toList ++ []) lay1 M1 P) := e_virtP3 (j := 153) (c := 10) rfl rfl rfl rfl rfl rfl hs (Nat.le_of_ble_eq_true rfl)
set_option maxRecDepth 20000 in
theorem g154_14 {d : Nat} {a1 a2 a3 a4 : Option Value} {x : Nat} {lay : List mShp} {M : mMem} {P : mPost} (hx : ¬ x = 0) : mG (d) 154 14 [some (.ref x), a1, a2, a3, a4] [] lay M P = mG d 154 15 [some (.ref x), a1, a2, a3, a4] [.ref x] lay M P := e_aload_nP hx (i := 0) rfl rfl rfl
set_option maxRecDepth 20000 in
theorem g154_15 {d : Nat} {a0 a1 a2 a3 : Option Value} {s0 : Nat} {x : Int32} {lay : List mShp} {M : mMem} {P : mPost} : mG (d) 154 15 [a0, a1, a2, a3, some (.int x)] [.ref s0] lay M P = mG d 154 17 [a0, a1, a2, a3, some (.int x)] [.int x, .ref s0] lay M P := e_iload (i := 4) rfl rfl
set_option maxRecDepth 20000 in
theorem g154_17 {d : Nat} {a0 a1 a2 a3 a4 : Option Value} {s0 : Int32} {s1 : Nat} {lay : List mShp} {M : mMem} {P : mPost} : mG (d) 154 17 [a0, a1, a2, a3, a4] [.int s0, .ref s1] lay M P = mG d 154 18 [a0, a1, a2, a3, a4] [.int (Int32.ofInt 1), .int s0, .ref s1] lay M P := e_iconst rfl
set_option maxRecDepth 20000 in
theorem g154_18 {d : Nat} {a0 a1 a3 a4 : Option Value} {s0 : Int32} {s1 : Int32} {s2 : Nat} {x : Int32} {lay : List mShp} {M : mMem} {P : mPost} : mG (d) 154 18 [a0, a1, some (.int x), a3, a4] [.int s0, .int s1, .ref s2] lay M P = mG d 154 19 [a0, a1, some (.int x), a3, a4] [.int x, .int s0, .int s1, .ref s2] lay M P := e_iload_n (i := 2) rfl rfl rfl
set_option maxRecDepth 20000 in
theorem g154_19 {d : Nat} {a0 a1 a2 a3 a4 : Option Value} {s0 : Int32} {s1 : Int32} {s2 : Int32} {s3 : Nat} {lay : List mShp} {M : mMem} {P : mPost} (hs : mSh lay s3 = some (13, 44)) : mG (d + 1) 154 19 [a0, a1, a2, a3, a4] [.int s0, .int s1, .int s2, .ref s3] lay M P = mF d 153 [.ref s3, .int s2, .int s1, .int s0] lay M (fun v lay1 M1 => mG (d + 1) 154 22 [a0, a1, a2, a3, a4] (v.toList ++ []) lay1 M1 P) := e_virtP3 (j := 153) (c := 10) rfl rfl rfl rfl rfl rfl hs (Nat.le_of_ble_eq_true rfl)
set_option maxRecDepth 20000 in
theorem g154_22 {d : Nat} {a1 a2 a3 a4 : Option Value} {x : Nat} {lay : List mShp} {M : mMem} {P : mPost} (hx : ¬ x = 0) : mG (d) 154 22 [some (.ref x), a1, a2, a3, a4] [] lay M P = mG d 154 23 [some (.ref x), a1, a2, a3, a4] [.ref x] lay M P := e_aload_nP hx (i := 0) rfl rfl rfl
set_option maxRecDepth 20000 in
theorem g154_23 {d : Nat} {a0 a1 a2 a3 : Option Value} {s0 : Nat} {x : Int32} {lay : List mShp} {M : mMem} {P : mPost} : mG (d) 154 23 [a0, a1, a2, a3, some (.int x)] [.ref s0] lay M P = mG d 154 25 [a0, a1, a2, a3, some (.int x)] [.int x, .ref s0] lay M P := e_iload (i := 4) rfl rfl
set_option maxRecDepth 20000 in
theorem g154_25 {d : Nat} {a0 a1 a2 a3 a4 : Option Value} {s0 : Int32} {s1 : Nat} {lay : List mShp} {M : mMem} {P : mPost} : mG (d) 154 25 [a0, a1, a2, a3, a4] [.int s0, .ref s1] lay M P = mG d 154 26 [a0, a1, a2, a3, a4] [.int (Int32.ofInt 2), .int s0, .ref s1] lay M P := e_iconst rfl
set_option maxRecDepth 20000 in
theorem g154_26 {d : Nat} {a0 a1 a2 a4 : Option Value} {s0 : Int32} {s1 : Int32} {s2 : Nat} {x : Int32} {lay : List mShp} {M : mMem} {P : mPost} : mG (d) 154 26 [a0, a1, a2, some (.int x), a4] [.int s0, .int s1, .ref s2] lay M P = mG d 154 27 [a0, a1, a2, some (.int x), a4] [.int x, .int s0, .int s1, .ref s2] lay M P := e_iload_n (i := 3) rfl rfl rfl
set_option maxRecDepth 20000 in
theorem g154_27 {d : Nat} {a0 a1 a2 a3 a4 : Option Value} {s0 : Int32} {s1 : Int32} {s2 : Int32} {s3 : Nat} {lay : List mShp} {M : mMem} {P : mPost} (hs : mSh lay s3 = some (13, 44)) : mG (d + 1) 154 27 [a0, a1, a2, a3, a4] [.int s0, .int s1, .int s2, .ref s3] lay M P = mF d 153 [.ref s3, .int s2, .int s1, .int s0] lay M (fun v lay1 M1 => mG (d + 1) 154 30 [a0, a1, a2, a3, a4] (v.toList ++ []) lay1 M1 P) := e_virtP3 (j := 153) (c := 10) rfl rfl rfl rfl rfl rfl hs (Nat.le_of_ble_eq_true rfl)
set_option maxRecDepth 20000 in
theorem g154_30 {d : Nat} {a1 a2 a3 a4 : Option Value} {x : Nat} {lay : List mShp} {M : mMem} {P : mPost} (hx : ¬ x = 0) : mG (d) 154 30 [some (.ref x), a1, a2, a3, a4] [] lay M P = mG d 154 31 [some (.ref x), a1, a2, a3, a4] [.ref x] lay M P := e_aload_nP hx (i := 0) rfl rfl rfl
set_option maxRecDepth 20000 in
theorem g154_31 {d : Nat} {a0 a1 a2 a3 : Option Value} {s0 : Nat} {x : Int32} {lay : List mShp} {M : mMem} {P : mPost} : mG (d) 154 31 [a0, a1, a2, a3, some (.int x)] [.ref s0] lay M P = mG d 154 33 [a0, a1, a2, a3, some (.int x)] [.int x, .ref s0] lay M P := e_iload (i := 4) rfl rfl
set_option maxRecDepth 20000 in
theorem g154_33 {d : Nat} {a0 a1 a2 a3 a4 : Option Value} {s0 : Int32} {s1 : Nat} {lay : List mShp} {M : mMem} {P : mPost} : mG (d) 154 33 [a0, a1, a2, a3, a4] [.int s0, .ref s1] lay M P = mG d 154 34 [a0, a1, a2, a3, a4] [.int (Int32.ofInt 3), .int s0, .ref s1] lay M P := e_iconst rfl
set_option maxRecDepth 20000 in
theorem g154_34 {d : Nat} {a0 a1 a2 a3 a4 : Option Value} {s0 : Int32} {s1 : Int32} {s2 : Nat} {lay : List mShp} {M : mMem} {P : mPost} : mG (d) 154 34 [a0, a1, a2, a3, a4] [.int s0, .int s1, .ref s2] lay M P = mG d 154 36 [a0, a1, a2, a3, a4] [.int (Int32.ofInt 20), .int s0, .int s1, .ref s2] lay M P := e_bipush rfl
set_option maxRecDepth 20000 in
theorem g154_36 {d : Nat} {a0 a1 a2 a3 a4 : Option Value} {s0 : Int32} {s1 : Int32} {s2 : Int32} {s3 : Nat} {lay : List mShp} {M : mMem} {P : mPost} (hs : mSh lay s3 = some (13, 44)) : mG (d + 1) 154 36 [a0, a1, a2, a3, a4] [.int s0, .int s1, .int s2, .ref s3] lay M P = mF d 153 [.ref s3, .int s2, .int s1, .int s0] lay M (fun v lay1 M1 => mG (d + 1) 154 39 [a0, a1, a2, a3, a4] (v.toList ++ []) lay1 M1 P) := e_virtP3 (j := 153) (c := 10) rfl rfl rfl rfl rfl rfl hs (Nat.le_of_ble_eq_true rfl)
set_option maxRecDepth 20000 in
theorem g154_39 {d : Nat} {a1 a2 a3 a4 : Option Value} {x : Nat} {lay : List mShp} {M : mMem} {P : mPost} (hx : ¬ x = 0) : mG (d) 154 39 [some (.ref x), a1, a2, a3, a4] [] lay M P = mG d 154 40 [some (.ref x), a1, a2, a3, a4] [.ref x] lay M P := e_aload_nP hx (i := 0) rfl rfl rfl
set_option maxRecDepth 20000 in
theorem g154_40 {d : Nat} {a0 a1 a2 a3 : Option Value} {s0 : Nat} {x : Int32} {lay : List mShp} {M : mMem} {P : mPost} : mG (d) 154 40 [a0, a1, a2, a3, some (.int x)] [.ref s0] lay M P = mG d 154 42 [a0, a1, a2, a3, some (.int x)] [.int x, .ref s0] lay M P := e_iload (i := 4) rfl rfl
set_option maxRecDepth 20000 in
theorem g154_42 {d : Nat} {a0 a1 a2 a3 a4 : Option Value} {s0 : Int32} {s1 : Nat} {lay : List mShp} {M : mMem} {P : mPost} : mG (d) 154 42 [a0, a1, a2, a3, a4] [.int s0, .ref s1] lay M P = mG d 154 43 [a0, a1, a2, a3, a4] [.int (Int32.ofInt 4), .int s0, .ref s1] lay M P := e_iconst rfl
set_option maxRecDepth 20000 in
theorem g154_43 {d : Nat} {a0 a1 a2 a3 a4 : Option Value} {s0 : Int32} {s1 : Int32} {s2 : Nat} {lay : List mShp} {M : mMem} {P : mPost} : mG (d) 154 43 [a0, a1, a2, a3, a4] [.int s0, .int s1, .ref s2] lay M P = mG d 154 44 [a0, a1, a2, a3, a4] [.int (Int32.ofInt (-1)), .int s0, .int s1, .ref s2] lay M P := e_iconst rfl
set_option maxRecDepth 20000 in
theorem g154_44 {d : Nat} {a0 a1 a2 a3 a4 : Option Value} {s0 : Int32} {s1 : Int32} {s2 : Int32} {s3 : Nat} {lay : List mShp} {M : mMem} {P : mPost} (hs : mSh lay s3 = some (13, 44)) : mG (d + 1) 154 44 [a0, a1, a2, a3, a4] [.int s0, .int s1, .int s2, .ref s3] lay M P = mF d 153 [.ref s3, .int s2, .int s1, .int s0] lay M (fun v lay1 M1 => mG (d + 1) 154 47 [a0, a1, a2, a3, a4] (v.toList ++ []) lay1 M1 P) := e_virtP3 (j := 153) (c := 10) rfl rfl rfl rfl rfl rfl hs (Nat.le_of_ble_eq_true rfl)
set_option maxRecDepth 20000 in
theorem g154_47 {d : Nat} {a1 a2 a3 a4 : Option Value} {x : Nat} {lay : List mShp} {M : mMem} {P : mPost} (hx : ¬ x = 0) : mG (d) 154 47 [some (.ref x), a1, a2, a3, a4] [] lay M P = mG d 154 48 [some (.ref x), a1, a2, a3, a4] [.ref x] lay M P := e_aload_nP hx (i := 0) rfl rfl rfl
set_option maxRecDepth 20000 in
theorem g154_48 {d : Nat} {a0 a1 a2 a3 a4 : Option Value} {s0 : Nat} {lay : List mShp} {M : mMem} {P : mPost} : mG (d) 154 48 [a0, a1, a2, a3, a4] [.ref s0] lay M P = mG d 154 49 [a0, a1, a2, a3, a4] [.ref s0, .ref s0] lay M P := e_dupr rfl
set_option maxRecDepth 20000 in
theorem g154_49 {d : Nat} {a0 a1 a2 a3 a4 : Option Value} {s0 : Nat} {s1 : Nat} {lay : List mShp} {M : mMem} {P : mPost} (hs : mSh lay s0 = some (13, 44)) : mG (d) 154 49 [a0, a1, a2, a3, a4] [.ref s0, .ref s1] lay M P = mG d 154 52 [a0, a1, a2, a3, a4] [.int (M.1 s0 2), .ref s1] lay M P := mG_of_and (mIsO_of hs (by decide)) (e_getI (ci := 10) (j := 2) rfl rfl rfl)
set_option maxRecDepth 20000 in
theorem g154_52 {d : Nat} {a0 a1 a2 a3 a4 : Option Value} {s0 : Int32} {s1 : Nat} {lay : List mShp} {M : mMem} {P : mPost} : mG (d) 154 52 [a0, a1, a2, a3, a4] [.int s0, .ref s1] lay M P = mG d 154 53 [a0, a1, a2, a3, a4] [.int (Int32.ofInt 1), .int s0, .ref s1] lay M P := e_iconst rfl
set_option maxRecDepth 20000 in
theorem g154_53 {d : Nat} {a0 a1 a2 a3 a4 : Option Value} {s0 : Int32} {s1 : Int32} {s2 : Nat} {lay : List mShp} {M : mMem} {P : mPost} : mG (d) 154 53 [a0, a1, a2, a3, a4] [.int s0, .int s1, .ref s2] lay M P = mG d 154 54 [a0, a1, a2, a3, a4] [.int (s1 + s0), .ref s2] lay M P := e_iadd rfl
set_option maxRecDepth 20000 in
theorem g154_54 {d : Nat} {a0 a1 a2 a3 a4 : Option Value} {s0 : Int32} {s1 : Nat} {lay : List mShp} {M : mMem} {P : mPost} (hs : mSh lay s1 = some (13, 44)) : mG (d) 154 54 [a0, a1, a2, a3, a4] [.int s0, .ref s1] lay M P = mG d 154 57 [a0, a1, a2, a3, a4] [] lay (mSetI M s1 2 s0) P := mG_of_and (mIsO_of hs (by decide)) (e_putI (ci := 10) (j := 2) rfl rfl (Or.inl rfl) rfl)
set_option maxRecDepth 20000 in
theorem g154_57 {d : Nat} {a0 a1 a2 a3 : Option Value} {x : Int32} {lay : List mShp} {M : mMem} {P : mPost} : mG (d) 154 57 [a0, a1, a2, a3, some (.int x)] [] lay M P = mG d 154 59 [a0, a1, a2, a3, some (.int x)] [.int x] lay M P := e_iload (i := 4) rfl rfl
set_option maxRecDepth 20000 in
theorem g154_59 {d : Nat} {a0 a1 a2 a3 a4 : Option Value} {s0 : Int32} {lay : List mShp} {M : mMem} {P : mPost} : mG (d) 154 59 [a0, a1, a2, a3, a4] [.int s0] lay M P = P (some (.int s0)) lay M := e_ireturnI rfl rfl
-- 155 X10_person
theorem g155_in {d : Nat} {x0 : Nat} {x1 : Int32} {lay : List mShp} {M : mMem} {P : mPost} : mF d 155 [.ref x0, .int x1] lay M P = mG d 155 0 [some (.ref x0), some (.int x1)] [] lay M P := mF_in rfl rfl
set_option maxRecDepth 20000 in
theorem g155_0 {d : Nat} {a0 : Option Value} {x : Int32} {lay : List mShp} {M : mMem} {P : mPost} : mG (d) 155 0 [a0, some (.int x)] [] lay M P = mG d 155 1 [a0, some (.int x)] [.int x] lay M P := e_iload_n (i := 1) rfl rfl rfl
set_option maxRecDepth 20000 in
theorem g155_1 {d : Nat} {a0 a1 : Option Value} {s0 : Int32} {lay : List mShp} {M : mMem} {P : mPost} : mG (d) 155 1 [a0, a1] [.int s0] lay M P = mG d 155 2 [a0, a1] [.int (Int32.ofInt 0), .int s0] lay M P := e_iconst rfl
set_option maxRecDepth 20000 in
theorem g155_2 {d : Nat} {a0 a1 : Option Value} {s0 : Int32} {s1 : Int32} {lay : List mShp} {M : mMem} {P : mPost} : mG (d) 155 2 [a0, a1] [.int s0, .int s1] lay M P = mG d 155 4 [a0, a1] [.int (Int32.ofInt 35), .int s0, .int s1] lay M P := e_bipush rfl
set_option maxRecDepth 20000 in
theorem g155_4 {d : Nat} {a0 a1 : Option Value} {s0 : Int32} {s1 : Int32} {s2 : Int32} {lay : List mShp} {M : mMem} {P : mPost} : mG (d + 1) 155 4 [a0, a1] [.int s0, .int s1, .int s2] lay M P = mF d 146 [.int s2, .int s1, .int s0] lay M (fun v lay1 M1 => mG (d + 1) 155 7 [a0, a1] (v.toList ++ []) lay1 M1 P) := e_static3 (j := 146) rfl rfl rfl rfl rfl (Nat.le_of_ble_eq_true rfl)
set_option maxRecDepth 20000 in
theorem g155_7 {d : Nat} {a0 a1 : Option Value} {s0 : Int32} {lay : List mShp} {M : mMem} {P : mPost} : mG (d) 155 7 [a0, a1] [.int s0] lay M P = if s0 = 0 then mG d 155 10 [a0, a1] [] lay M P else mG d 155 12 [a0, a1] [] lay M P := e_if_ne rfl rfl
set_option maxRecDepth 20000 in
theorem g155_10 {d : Nat} {a0 a1 : Option Value} {lay : List mShp} {M : mMem} {P : mPost} : mG (d) 155 10 [a0, a1] [] lay M P = mG d 155 11 [a0, a1] [.int (Int32.ofInt (-1))] lay M P := e_iconst rfl
set_option maxRecDepth 20000 in
theorem g155_11 {d : Nat} {a0 a1 : Option Value} {s0 : Int32} {lay : List mShp} {M : mMem} {P : mPost} : mG (d) 155 11 [a0, a1] [.int s0] lay M P = P (some (.int s0)) lay M := e_ireturnI rfl rfl
set_option maxRecDepth 20000 in
theorem g155_12 {d : Nat} {a1 : Option Value} {x : Nat} {lay : List mShp} {M : mMem} {P : mPost} (hx : ¬ x = 0) : mG (d) 155 12 [some (.ref x), a1] [] lay M P = mG d 155 13 [some (.ref x), a1] [.ref x] lay M P := e_aload_nP hx (i := 0) rfl rfl rfl
set_option maxRecDepth 20000 in
theorem g155_13 {d : Nat} {a0 a1 : Option Value} {s0 : Nat} {lay : List mShp} {M : mMem} {P : mPost} (hs : mSh lay s0 = some (13, 44)) : mG (d) 155 13 [a0, a1] [.ref s0] lay M P = mG d 155 16 [a0, a1] [.int (M.1 s0 2)] lay M P := mG_of_and (mIsO_of hs (by decide)) (e_getI (ci := 10) (j := 2) rfl rfl rfl)
set_option maxRecDepth 20000 in
theorem g155_16 {d : Nat} {a0 a1 : Option Value} {s0 : Int32} {lay : List mShp} {M : mMem} {P : mPost} : mG (d) 155 16 [a0, a1] [.int s0] lay M P = mG d 155 18 [a0, a1] [.int (Int32.ofInt 8), .int s0] lay M P := e_bipush rfl
set_option maxRecDepth 20000 in
theorem g155_18 {d : Nat} {a0 a1 : Option Value} {s0 : Int32} {s1 : Int32} {lay : List mShp} {M : mMem} {P : mPost} : mG (d) 155 18 [a0, a1] [.int s0, .int s1] lay M P = if s1 = s0 then mG d 155 21 [a0, a1] [] lay M P else mG d 155 26 [a0, a1] [] lay M P := e_icmp_ne rfl rfl
set_option maxRecDepth 20000 in
theorem g155_21 {d : Nat} {a0 a1 : Option Value} {lay : List mShp} {M : mMem} {P : mPost} : mG (d) 155 21 [a0, a1] [] lay M P = mG d 155 23 [a0, a1] [.int (Int32.ofInt (-3))] lay M P := e_bipush rfl
set_option maxRecDepth 20000 in
theorem g155_23 {d : Nat} {a0 a1 : Option Value} {s0 : Int32} {lay : List mShp} {M : mMem} {P : mPost} : mG (d) 155 23 [a0, a1] [.int s0] lay M P = mG d 155 33 [a0, a1] [.int s0] lay M P := e_goto rfl rfl
set_option maxRecDepth 20000 in
theorem g155_26 {d : Nat} {a1 : Option Value} {x : Nat} {lay : List mShp} {M : mMem} {P : mPost} (hx : ¬ x = 0) : mG (d) 155 26 [some (.ref x), a1] [] lay M P = mG d 155 27 [some (.ref x), a1] [.ref x] lay M P := e_aload_nP hx (i := 0) rfl rfl rfl
set_option maxRecDepth 20000 in
theorem g155_27 {d : Nat} {a0 : Option Value} {s0 : Nat} {x : Int32} {lay : List mShp} {M : mMem} {P : mPost} : mG (d) 155 27 [a0, some (.int x)] [.ref s0] lay M P = mG d 155 28 [a0, some (.int x)] [.int x, .ref s0] lay M P := e_iload_n (i := 1) rfl rfl rfl
set_option maxRecDepth 20000 in
theorem g155_28 {d : Nat} {a0 a1 : Option Value} {s0 : Int32} {s1 : Nat} {lay : List mShp} {M : mMem} {P : mPost} : mG (d) 155 28 [a0, a1] [.int s0, .ref s1] lay M P = mG d 155 29 [a0, a1] [.int (Int32.ofInt 4), .int s0, .ref s1] lay M P := e_iconst rfl
set_option maxRecDepth 20000 in
theorem g155_29 {d : Nat} {a0 a1 : Option Value} {s0 : Int32} {s1 : Int32} {s2 : Nat} {lay : List mShp} {M : mMem} {P : mPost} : mG (d) 155 29 [a0, a1] [.int s0, .int s1, .ref s2] lay M P = mG d 155 30 [a0, a1] [.int (Int32.ofInt 3), .int s0, .int s1, .ref s2] lay M P := e_iconst rfl
set_option maxRecDepth 20000 in
theorem g155_30 {d : Nat} {a0 a1 : Option Value} {s0 : Int32} {s1 : Int32} {s2 : Int32} {s3 : Nat} {lay : List mShp} {M : mMem} {P : mPost} (hs : mSh lay s3 = some (13, 44)) : mG (d + 1) 155 30 [a0, a1] [.int s0, .int s1, .int s2, .ref s3] lay M P = mF d 154 [.ref s3, .int s2, .int s1, .int s0] lay M (fun v lay1 M1 => mG (d + 1) 155 33 [a0, a1] (v.toList ++ []) lay1 M1 P) := e_virtP3 (j := 154) (c := 10) rfl rfl rfl rfl rfl rfl hs (Nat.le_of_ble_eq_true rfl)
set_option maxRecDepth 20000 in
theorem g155_33 {d : Nat} {a0 a1 : Option Value} {s0 : Int32} {lay : List mShp} {M : mMem} {P : mPost} : mG (d) 155 33 [a0, a1] [.int s0] lay M P = P (some (.int s0)) lay M := e_ireturnI rfl rfl
-- 156 X10_place
theorem g156_in {d : Nat} {x0 : Nat} {x1 : Int32} {x2 : Int32} {lay : List mShp} {M : mMem} {P : mPost} : mF d 156 [.ref x0, .int x1, .int x2] lay M P = mG d 156 0 [some (.ref x0), some (.int x1), some (.int x2)] [] lay M P := mF_in rfl rfl
set_option maxRecDepth 20000 in
theorem g156_0 {d : Nat} {a0 a1 : Option Value} {x : Int32} {lay : List mShp} {M : mMem} {P : mPost} : mG (d) 156 0 [a0, a1, some (.int x)] [] lay M P = mG d 156 1 [a0, a1, some (.int x)] [.int x] lay M P := e_iload_n (i := 2) rfl rfl rfl
set_option maxRecDepth 20000 in
theorem g156_1 {d : Nat} {a0 a1 a2 : Option Value} {s0 : Int32} {lay : List mShp} {M : mMem} {P : mPost} : mG (d) 156 1 [a0, a1, a2] [.int s0] lay M P = mG d 156 2 [a0, a1, a2] [.int (Int32.ofInt 5), .int s0] lay M P := e_iconst rfl
set_option maxRecDepth 20000 in
theorem g156_2 {d : Nat} {a0 a1 a2 : Option Value} {s0 : Int32} {s1 : Int32} {lay : List mShp} {M : mMem} {P : mPost} : mG (d) 156 2 [a0, a1, a2] [.int s0, .int s1] lay M P = if s1 = s0 then mG d 156 11 [a0, a1, a2] [] lay M P else mG d 156 5 [a0, a1, a2] [] lay M P := e_icmp_eq rfl rfl
set_option maxRecDepth 20000 in
theorem g156_5 {d : Nat} {a0 a1 : Option Value} {x : Int32} {lay : List mShp} {M : mMem} {P : mPost} : mG (d) 156 5 [a0, a1, some (.int x)] [] lay M P = mG d 156 6 [a0, a1, some (.int x)] [.int x] lay M P := e_iload_n (i := 2) rfl rfl rfl
set_option maxRecDepth 20000 in
theorem g156_6 {d : Nat} {a0 a1 a2 : Option Value} {s0 : Int32} {lay : List mShp} {M : mMem} {P : mPost} : mG (d) 156 6 [a0, a1, a2] [.int s0] lay M P = mG d 156 8 [a0, a1, a2] [.int (Int32.ofInt 6), .int s0] lay M P := e_bipush rfl
set_option maxRecDepth 20000 in
theorem g156_8 {d : Nat} {a0 a1 a2 : Option Value} {s0 : Int32} {s1 : Int32} {lay : List mShp} {M : mMem} {P : mPost} : mG (d) 156 8 [a0, a1, a2] [.int s0, .int s1] lay M P = if s1 = s0 then mG d 156 11 [a0, a1, a2] [] lay M P else mG d 156 26 [a0, a1, a2] [] lay M P := e_icmp_ne rfl rfl
set_option maxRecDepth 20000 in
theorem g156_11 {d : Nat} {a0 a2 : Option Value} {x : Int32} {lay : List mShp} {M : mMem} {P : mPost} : mG (d) 156 11 [a0, some (.int x), a2] [] lay M P = mG d 156 12 [a0, some (.int x), a2] [.int x] lay M P := e_iload_n (i := 1) rfl rfl rfl
set_option maxRecDepth 20000 in
theorem g156_12 {d : Nat} {a0 a1 a2 : Option Value} {s0 : Int32} {lay : List mShp} {M : mMem} {P : mPost} : mG (d) 156 12 [a0, a1, a2] [.int s0] lay M P = if s0 = 0 then mG d 156 15 [a0, a1, a2] [] lay M P else mG d 156 24 [a0, a1, a2] [] lay M P := e_if_ne rfl rfl
set_option maxRecDepth 20000 in
theorem g156_15 {d : Nat} {a0 a1 a2 : Option Value} {lay : List mShp} {M : mMem} {P : mPost} : mG (d) 156 15 [a0, a1, a2] [] lay M P = mG d 156 17 [a0, a1, a2] [.int (Int32.ofInt 40)] lay M P := e_bipush rfl
set_option maxRecDepth 20000 in
theorem g156_17 {d : Nat} {a0 a1 : Option Value} {s0 : Int32} {x : Int32} {lay : List mShp} {M : mMem} {P : mPost} : mG (d) 156 17 [a0, a1, some (.int x)] [.int s0] lay M P = mG d 156 18 [a0, a1, some (.int x)] [.int x, .int s0] lay M P := e_iload_n (i := 2) rfl rfl rfl
set_option maxRecDepth 20000 in
theorem g156_18 {d : Nat} {a0 a1 a2 : Option Value} {s0 : Int32} {s1 : Int32} {lay : List mShp} {M : mMem} {P : mPost} : mG (d) 156 18 [a0, a1, a2] [.int s0, .int s1] lay M P = mG d 156 19 [a0, a1, a2] [.int (s1 + s0)] lay M P := e_iadd rfl
set_option maxRecDepth 20000 in
theorem g156_19 {d : Nat} {a0 a1 a2 : Option Value} {s0 : Int32} {lay : List mShp} {M : mMem} {P : mPost} : mG (d) 156 19 [a0, a1, a2] [.int s0] lay M P = mG d 156 20 [a0, a1, a2] [.int (Int32.ofInt 5), .int s0] lay M P := e_iconst rfl
set_option maxRecDepth 20000 in
theorem g156_20 {d : Nat} {a0 a1 a2 : Option Value} {s0 : Int32} {s1 : Int32} {lay : List mShp} {M : mMem} {P : mPost} : mG (d) 156 20 [a0, a1, a2] [.int s0, .int s1] lay M P = mG d 156 21 [a0, a1, a2] [.int (s1 - s0)] lay M P := e_isub rfl
set_option maxRecDepth 20000 in
theorem g156_21 {d : Nat} {a0 a1 a2 : Option Value} {s0 : Int32} {lay : List mShp} {M : mMem} {P : mPost} : mG (d) 156 21 [a0, a1, a2] [.int s0] lay M P = mG d 156 25 [a0, a1, a2] [.int s0] lay M P := e_goto rfl rfl
set_option maxRecDepth 20000 in
theorem g156_24 {d : Nat} {a0 a1 a2 : Option Value} {lay : List mShp} {M : mMem} {P : mPost} : mG (d) 156 24 [a0, a1, a2] [] lay M P = mG d 156 25 [a0, a1, a2] [.int (Int32.ofInt (-1))] lay M P := e_iconst rfl
set_option maxRecDepth 20000 in
theorem g156_25 {d : Nat} {a0 a1 a2 : Option Value} {s0 : Int32} {lay : List mShp} {M : mMem} {P : mPost} : mG (d) 156 25 [a0, a1, a2] [.int s0] lay M P = P (some (.int s0)) lay M := e_ireturnI rfl rfl
set_option maxRecDepth 20000 in
theorem g156_26 {d : Nat} {a0 a1 : Option Value} {x : Int32} {lay : List mShp} {M : mMem} {P : mPost} : mG (d) 156 26 [a0, a1, some (.int x)] [] lay M P = mG d 156 27 [a0, a1, some (.int x)] [.int x] lay M P := e_iload_n (i := 2) rfl rfl rfl
set_option maxRecDepth 20000 in
theorem g156_27 {d : Nat} {a0 a1 a2 : Option Value} {s0 : Int32} {lay : List mShp} {M : mMem} {P : mPost} : mG (d) 156 27 [a0, a1, a2] [.int s0] lay M P = mG d 156 28 [a0, a1, a2] [.int (Int32.ofInt 0), .int s0] lay M P := e_iconst rfl
set_option maxRecDepth 20000 in
theorem g156_28 {d : Nat} {a0 a1 a2 : Option Value} {s0 : Int32} {s1 : Int32} {lay : List mShp} {M : mMem} {P : mPost} : mG (d) 156 28 [a0, a1, a2] [.int s0, .int s1] lay M P = mG d 156 29 [a0, a1, a2] [.int (Int32.ofInt 4), .int s0, .int s1] lay M P := e_iconst rfl
set_option maxRecDepth 20000 in
theorem g156_29 {d : Nat} {a0 a1 a2 : Option Value} {s0 : Int32} {s1 : Int32} {s2 : Int32} {lay : List mShp} {M : mMem} {P : mPost} : mG (d + 1) 156 29 [a0, a1, a2] [.int s0, .int s1, .int s2] lay M P = mF d 146 [.int s2, .int s1, .int s0] lay M (fun v lay1 M1 => mG (d + 1) 156 32 [a0, a1, a2] (v.toList ++ []) lay1 M1 P) := e_static3 (j := 146) rfl rfl rfl rfl rfl (Nat.le_of_ble_eq_true rfl)
set_option maxRecDepth 20000 in
theorem g156_32 {d : Nat} {a0 a1 a2 : Option Value} {s0 : Int32} {lay : List mShp} {M : mMem} {P : mPost} : mG (d) 156 32 [a0, a1, a2] [.int s0] lay M P = if s0 = 0 then mG d 156 51 [a0, a1, a2] [] lay M P else mG d 156 35 [a0, a1, a2] [] lay M P := e_if_eq rfl rfl
set_option maxRecDepth 20000 in
theorem g156_35 {d : Nat} {a1 a2 : Option Value} {x : Nat} {lay : List mShp} {M : mMem} {P : mPost} (hx : ¬ x = 0) : mG (d) 156 35 [some (.ref x), a1, a2] [] lay M P = mG d 156 36 [some (.ref x), a1, a2] [.ref x] lay M P := e_aload_nP hx (i := 0) rfl rfl rfl
set_option maxRecDepth 20000 in
theorem g156_36 {d : Nat} {a0 a2 : Option Value} {s0 : Nat} {x : Int32} {lay : List mShp} {M : mMem} {P : mPost} : mG (d) 156 36 [a0, some (.int x), a2] [.ref s0] lay M P = mG d 156 37 [a0, some (.int x), a2] [.int x, .ref s0] lay M P := e_iload_n (i := 1) rfl rfl rfl
set_option maxRecDepth 20000 in
theorem g156_37 {d : Nat} {a0 a1 a2 : Option Value} {s0 : Int32} {s1 : Nat} {lay : List mShp} {M : mMem} {P : mPost} (hs : mSh lay s1 = some (13, 44)) : mG (d + 1) 156 37 [a0, a1, a2] [.int s0, .ref s1] lay M P = mF d 151 [.ref s1, .int s0] lay M (fun v lay1 M1 => mG (d + 1) 156 40 [a0, a1, a2] (v.toList ++ []) lay1 M1 P) := e_virtP1 (j := 151) (c := 10) rfl rfl rfl rfl rfl rfl hs (Nat.le_of_ble_eq_true rfl)
set_option maxRecDepth 20000 in
theorem g156_40 {d : Nat} {a0 a1 a2 : Option Value} {s0 : Int32} {lay : List mShp} {M : mMem} {P : mPost} : mG (d) 156 40 [a0, a1, a2] [.int s0] lay M P = if s0 = 0 then mG d 156 51 [a0, a1, a2] [] lay M P else mG d 156 43 [a0, a1, a2] [] lay M P := e_if_eq rfl rfl
set_option maxRecDepth 20000 in
theorem g156_43 {d : Nat} {a0 a1 a2 : Option Value} {lay : List mShp} {M : mMem} {P : mPost} : mG (d) 156 43 [a0, a1, a2] [] lay M P = mG d 156 44 [a0, a1, a2] [.int (Int32.ofInt 5)] lay M P := e_iconst rfl
set_option maxRecDepth 20000 in
theorem g156_44 {d : Nat} {a0 a2 : Option Value} {s0 : Int32} {x : Int32} {lay : List mShp} {M : mMem} {P : mPost} : mG (d) 156 44 [a0, some (.int x), a2] [.int s0] lay M P = mG d 156 45 [a0, some (.int x), a2] [.int x, .int s0] lay M P := e_iload_n (i := 1) rfl rfl rfl
set_option maxRecDepth 20000 in
theorem g156_45 {d : Nat} {a0 a1 a2 : Option Value} {s0 : Int32} {s1 : Int32} {lay : List mShp} {M : mMem} {P : mPost} : mG (d) 156 45 [a0, a1, a2] [.int s0, .int s1] lay M P = mG d 156 46 [a0, a1, a2] [.int (s1 * s0)] lay M P := e_imul rfl
set_option maxRecDepth 20000 in
theorem g156_46 {d : Nat} {a0 a1 : Option Value} {s0 : Int32} {x : Int32} {lay : List mShp} {M : mMem} {P : mPost} : mG (d) 156 46 [a0, a1, some (.int x)] [.int s0] lay M P = mG d 156 47 [a0, a1, some (.int x)] [.int x, .int s0] lay M P := e_iload_n (i := 2) rfl rfl rfl
set_option maxRecDepth 20000 in
theorem g156_47 {d : Nat} {a0 a1 a2 : Option Value} {s0 : Int32} {s1 : Int32} {lay : List mShp} {M : mMem} {P : mPost} : mG (d) 156 47 [a0, a1, a2] [.int s0, .int s1] lay M P = mG d 156 48 [a0, a1, a2] [.int (s1 + s0)] lay M P := e_iadd rfl
set_option maxRecDepth 20000 in
theorem g156_48 {d : Nat} {a0 a1 a2 : Option Value} {s0 : Int32} {lay : List mShp} {M : mMem} {P : mPost} : mG (d) 156 48 [a0, a1, a2] [.int s0] lay M P = mG d 156 52 [a0, a1, a2] [.int s0] lay M P := e_goto rfl rfl
set_option maxRecDepth 20000 in
theorem g156_51 {d : Nat} {a0 a1 a2 : Option Value} {lay : List mShp} {M : mMem} {P : mPost} : mG (d) 156 51 [a0, a1, a2] [] lay M P = mG d 156 52 [a0, a1, a2] [.int (Int32.ofInt (-1))] lay M P := e_iconst rfl
set_option maxRecDepth 20000 in
theorem g156_52 {d : Nat} {a0 a1 a2 : Option Value} {s0 : Int32} {lay : List mShp} {M : mMem} {P : mPost} : mG (d) 156 52 [a0, a1, a2] [.int s0] lay M P = P (some (.int s0)) lay M := e_ireturnI rfl rfl
-- 157 X10_mend
theorem g157_in {d : Nat} {x0 : Nat} {x1 : Int32} {x2 : Int32} {x3 : Int32} {lay : List mShp} {M : mMem} {P : mPost} : mF d 157 [.ref x0, .int x1, .int x2, .int x3] lay M P = mG d 157 0 [some (.ref x0), some (.int x1), some (.int x2), some (.int x3), none, none, none, none] [] lay M P := mF_in rfl rfl
set_option maxRecDepth 20000 in
theorem g157_0 {d : Nat} {a1 a2 a3 a4 a5 a6 a7 : Option Value} {x : Nat} {lay : List mShp} {M : mMem} {P : mPost} (hx : ¬ x = 0) : mG (d) 157 0 [some (.ref x), a1, a2, a3, a4, a5, a6, a7] [] lay M P = mG d 157 1 [some (.ref x), a1, a2, a3, a4, a5, a6, a7] [.ref x] lay M P := e_aload_nP hx (i := 0) rfl rfl rfl
set_option maxRecDepth 20000 in
theorem g157_1 {d : Nat} {a0 a2 a3 a4 a5 a6 a7 : Option Value} {s0 : Nat} {x : Int32} {lay : List mShp} {M : mMem} {P : mPost} : mG (d) 157 1 [a0, some (.int x), a2, a3, a4, a5, a6, a7] [.ref s0] lay M P = mG d 157 2 [a0, some (.int x), a2, a3, a4, a5, a6, a7] [.int x, .ref s0] lay M P := e_iload_n (i := 1) rfl rfl rfl
set_option maxRecDepth 20000 in
theorem g157_2 {d : Nat} {a0 a1 a3 a4 a5 a6 a7 : Option Value} {s0 : Int32} {s1 : Nat} {x : Int32} {lay : List mShp} {M : mMem} {P : mPost} : mG (d) 157 2 [a0, a1, some (.int x), a3, a4, a5, a6, a7] [.int s0, .ref s1] lay M P = mG d 157 3 [a0, a1, some (.int x), a3, a4, a5, a6, a7] [.int x, .int s0, .ref s1] lay M P := e_iload_n (i := 2) rfl rfl rfl
set_option maxRecDepth 20000 in
theorem g157_3 {d : Nat} {a0 a1 a2 a3 a4 a5 a6 a7 : Option Value} {s0 : Int32} {s1 : Int32} {s2 : Nat} {lay : List mShp} {M : mMem} {P : mPost} (hs : mSh lay s2 = some (13, 44)) : mG (d + 1) 157 3 [a0, a1, a2, a3, a4, a5, a6, a7] [.int s0, .int s1, .ref s2] lay M P = mF d 156 [.ref s2, .int s1, .int s0] lay M (fun v lay1 M1 => mG (d + 1) 157 6 [a0, a1, a2, a3, a4, a5, a6, a7] (v.toList ++ []) lay1 M1 P) := e_virtP2 (j := 156) (c := 10) rfl rfl rfl rfl rfl rfl hs (Nat.le_of_ble_eq_true rfl)
set_option maxRecDepth 20000 in
theorem g157_6 {d : Nat} {a0 a1 a2 a3 a4 a5 a6 a7 : Option Value} {s0 : Int32} {lay : List mShp} {M : mMem} {P : mPost} (h0 : mNoL a3 = true) : mG (d) 157 6 [a0, a1, a2, a3, a4, a5, a6, a7] [.int s0] lay M P = mG d 157 8 [a0, a1, a2, a3, some (.int s0), a5, a6, a7] [] lay M P := e_istore (i := 4) rfl (by simp) (mS1_4 h0)
set_option maxRecDepth 20000 in
theorem g157_8 {d : Nat} {a0 a1 a3 a4 a5 a6 a7 : Option Value} {x : Int32} {lay : List mShp} {M : mMem} {P : mPost} : mG (d) 157 8 [a0, a1, some (.int x), a3, a4, a5, a6, a7] [] lay M P = mG d 157 9 [a0, a1, some (.int x), a3, a4, a5, a6, a7] [.int x] lay M P := e_iload_n (i := 2) rfl rfl rfl
set_option maxRecDepth 20000 in
theorem g157_9 {d : Nat} {a0 a1 a2 a3 a4 a5 a6 a7 : Option Value} {s0 : Int32} {lay : List mShp} {M : mMem} {P : mPost} : mG (d) 157 9 [a0, a1, a2, a3, a4, a5, a6, a7] [.int s0] lay M P = if s0 = 0 then mG d 157 12 [a0, a1, a2, a3, a4, a5, a6, a7] [] lay M P else mG d 157 17 [a0, a1, a2, a3, a4, a5, a6, a7] [] lay M P := e_if_ne rfl rfl
set_option maxRecDepth 20000 in
theorem g157_12 {d : Nat} {a0 a1 a2 a3 a4 a5 a6 a7 : Option Value} {lay : List mShp} {M : mMem} {P : mPost} : mG (d) 157 12 [a0, a1, a2, a3, a4, a5, a6, a7] [] lay M P = mG d 157 14 [a0, a1, a2, a3, a4, a5, a6, a7] [.int (Int32.ofInt 35)] lay M P := e_bipush rfl
set_option maxRecDepth 20000 in
theorem g157_14 {d : Nat} {a0 a1 a2 a3 a4 a5 a6 a7 : Option Value} {s0 : Int32} {lay : List mShp} {M : mMem} {P : mPost} : mG (d) 157 14 [a0, a1, a2, a3, a4, a5, a6, a7] [.int s0] lay M P = mG d 157 49 [a0, a1, a2, a3, a4, a5, a6, a7] [.int s0] lay M P := e_goto rfl rfl
set_option maxRecDepth 20000 in
theorem g157_17 {d : Nat} {a0 a1 a3 a4 a5 a6 a7 : Option Value} {x : Int32} {lay : List mShp} {M : mMem} {P : mPost} : mG (d) 157 17 [a0, a1, some (.int x), a3, a4, a5, a6, a7] [] lay M P = mG d 157 18 [a0, a1, some (.int x), a3, a4, a5, a6, a7] [.int x] lay M P := e_iload_n (i := 2) rfl rfl rfl
set_option maxRecDepth 20000 in
theorem g157_18 {d : Nat} {a0 a1 a2 a3 a4 a5 a6 a7 : Option Value} {s0 : Int32} {lay : List mShp} {M : mMem} {P : mPost} : mG (d) 157 18 [a0, a1, a2, a3, a4, a5, a6, a7] [.int s0] lay M P = mG d 157 19 [a0, a1, a2, a3, a4, a5, a6, a7] [.int (Int32.ofInt 3), .int s0] lay M P := e_iconst rfl
set_option maxRecDepth 20000 in
theorem g157_19 {d : Nat} {a0 a1 a2 a3 a4 a5 a6 a7 : Option Value} {s0 : Int32} {s1 : Int32} {lay : List mShp} {M : mMem} {P : mPost} : mG (d) 157 19 [a0, a1, a2, a3, a4, a5, a6, a7] [.int s0, .int s1] lay M P = if s1 = s0 then mG d 157 28 [a0, a1, a2, a3, a4, a5, a6, a7] [] lay M P else mG d 157 22 [a0, a1, a2, a3, a4, a5, a6, a7] [] lay M P := e_icmp_eq rfl rfl
set_option maxRecDepth 20000 in
theorem g157_22 {d : Nat} {a0 a1 a3 a4 a5 a6 a7 : Option Value} {x : Int32} {lay : List mShp} {M : mMem} {P : mPost} : mG (d) 157 22 [a0, a1, some (.int x), a3, a4, a5, a6, a7] [] lay M P = mG d 157 23 [a0, a1, some (.int x), a3, a4, a5, a6, a7] [.int x] lay M P := e_iload_n (i := 2) rfl rfl rfl
set_option maxRecDepth 20000 in
theorem g157_23 {d : Nat} {a0 a1 a2 a3 a4 a5 a6 a7 : Option Value} {s0 : Int32} {lay : List mShp} {M : mMem} {P : mPost} : mG (d) 157 23 [a0, a1, a2, a3, a4, a5, a6, a7] [.int s0] lay M P = mG d 157 25 [a0, a1, a2, a3, a4, a5, a6, a7] [.int (Int32.ofInt 6), .int s0] lay M P := e_bipush rfl
set_option maxRecDepth 20000 in
theorem g157_25 {d : Nat} {a0 a1 a2 a3 a4 a5 a6 a7 : Option Value} {s0 : Int32} {s1 : Int32} {lay : List mShp} {M : mMem} {P : mPost} : mG (d) 157 25 [a0, a1, a2, a3, a4, a5, a6, a7] [.int s0, .int s1] lay M P = if s1 = s0 then mG d 157 28 [a0, a1, a2, a3, a4, a5, a6, a7] [] lay M P else mG d 157 33 [a0, a1, a2, a3, a4, a5, a6, a7] [] lay M P := e_icmp_ne rfl rfl
set_option maxRecDepth 20000 in
theorem g157_28 {d : Nat} {a0 a1 a2 a3 a4 a5 a6 a7 : Option Value} {lay : List mShp} {M : mMem} {P : mPost} : mG (d) 157 28 [a0, a1, a2, a3, a4, a5, a6, a7] [] lay M P = mG d 157 30 [a0, a1, a2, a3, a4, a5, a6, a7] [.int (Int32.ofInt 99)] lay M P := e_bipush rfl
set_option maxRecDepth 20000 in
theorem g157_30 {d : Nat} {a0 a1 a2 a3 a4 a5 a6 a7 : Option Value} {s0 : Int32} {lay : List mShp} {M : mMem} {P : mPost} : mG (d) 157 30 [a0, a1, a2, a3, a4, a5, a6, a7] [.int s0] lay M P = mG d 157 49 [a0, a1, a2, a3, a4, a5, a6, a7] [.int s0] lay M P := e_goto rfl rfl
set_option maxRecDepth 20000 in
theorem g157_33 {d : Nat} {a0 a1 a3 a4 a5 a6 a7 : Option Value} {x : Int32} {lay : List mShp} {M : mMem} {P : mPost} : mG (d) 157 33 [a0, a1, some (.int x), a3, a4, a5, a6, a7] [] lay M P = mG d 157 34 [a0, a1, some (.int x), a3, a4, a5, a6, a7] [.int x] lay M P := e_iload_n (i := 2) rfl rfl rfl
set_option maxRecDepth 20000 in
theorem g157_34 {d : Nat} {a0 a1 a2 a3 a4 a5 a6 a7 : Option Value} {s0 : Int32} {lay : List mShp} {M : mMem} {P : mPost} : mG (d) 157 34 [a0, a1, a2, a3, a4, a5, a6, a7] [.int s0] lay M P = mG d 157 35 [a0, a1, a2, a3, a4, a5, a6, a7] [.int (Int32.ofInt 4), .int s0] lay M P := e_iconst rfl
set_option maxRecDepth 20000 in
theorem g157_35 {d : Nat} {a0 a1 a2 a3 a4 a5 a6 a7 : Option Value} {s0 : Int32} {s1 : Int32} {lay : List mShp} {M : mMem} {P : mPost} : mG (d) 157 35 [a0, a1, a2, a3, a4, a5, a6, a7] [.int s0, .int s1] lay M P = if s1 = s0 then mG d 157 38 [a0, a1, a2, a3, a4, a5, a6, a7] [] lay M P else mG d 157 47 [a0, a1, a2, a3, a4, a5, a6, a7] [] lay M P := e_icmp_ne rfl rfl
set_option maxRecDepth 20000 in
theorem g157_38 {d : Nat} {a1 a2 a3 a4 a5 a6 a7 : Option Value} {x : Nat} {lay : List mShp} {M : mMem} {P : mPost} (hx : ¬ x = 0) : mG (d) 157 38 [some (.ref x), a1, a2, a3, a4, a5, a6, a7] [] lay M P = mG d 157 39 [some (.ref x), a1, a2, a3, a4, a5, a6, a7] [.ref x] lay M P := e_aload_nP hx (i := 0) rfl rfl rfl
set_option maxRecDepth 20000 in
theorem g157_39 {d : Nat} {a0 a1 a2 a3 a4 a5 a6 a7 : Option Value} {s0 : Nat} {lay : List mShp} {M : mMem} {P : mPost} (hs : mSh lay s0 = some (13, 44)) : mG (d) 157 39 [a0, a1, a2, a3, a4, a5, a6, a7] [.ref s0] lay M P = mG d 157 42 [a0, a1, a2, a3, a4, a5, a6, a7] [.int (M.1 s0 2)] lay M P := mG_of_and (mIsO_of hs (by decide)) (e_getI (ci := 10) (j := 2) rfl rfl rfl)
set_option maxRecDepth 20000 in
theorem g157_42 {d : Nat} {a0 a1 a2 a3 a4 a5 a6 a7 : Option Value} {s0 : Int32} {lay : List mShp} {M : mMem} {P : mPost} : mG (d) 157 42 [a0, a1, a2, a3, a4, a5, a6, a7] [.int s0] lay M P = mG d 157 43 [a0, a1, a2, a3, a4, a5, a6, a7] [.int (Int32.ofInt 1), .int s0] lay M P := e_iconst rfl
set_option maxRecDepth 20000 in
theorem g157_43 {d : Nat} {a0 a1 a2 a3 a4 a5 a6 a7 : Option Value} {s0 : Int32} {s1 : Int32} {lay : List mShp} {M : mMem} {P : mPost} : mG (d) 157 43 [a0, a1, a2, a3, a4, a5, a6, a7] [.int s0, .int s1] lay M P = mG d 157 44 [a0, a1, a2, a3, a4, a5, a6, a7] [.int (s1 - s0)] lay M P := e_isub rfl
set_option maxRecDepth 20000 in
theorem g157_44 {d : Nat} {a0 a1 a2 a3 a4 a5 a6 a7 : Option Value} {s0 : Int32} {lay : List mShp} {M : mMem} {P : mPost} : mG (d) 157 44 [a0, a1, a2, a3, a4, a5, a6, a7] [.int s0] lay M P = mG d 157 49 [a0, a1, a2, a3, a4, a5, a6, a7] [.int s0] lay M P := e_goto rfl rfl
set_option maxRecDepth 20000 in
theorem g157_47 {d : Nat} {a0 a1 a2 a3 a4 a5 a6 a7 : Option Value} {lay : List mShp} {M : mMem} {P : mPost} : mG (d) 157 47 [a0, a1, a2, a3, a4, a5, a6, a7] [] lay M P = mG d 157 49 [a0, a1, a2, a3, a4, a5, a6, a7] [.int (Int32.ofInt 9)] lay M P := e_bipush rfl
set_option maxRecDepth 20000 in
theorem g157_49 {d : Nat} {a0 a1 a2 a3 a4 a5 a6 a7 : Option Value} {s0 : Int32} {lay : List mShp} {M : mMem} {P : mPost} (h0 : mNoL a4 = true) : mG (d) 157 49 [a0, a1, a2, a3, a4, a5, a6, a7] [.int s0] lay M P = mG d 157 51 [a0, a1, a2, a3, a4, some (.int s0), a6, a7] [] lay M P := e_istore (i := 5) rfl (by simp) (mS1_5 h0)
set_option maxRecDepth 20000 in
theorem g157_51 {d : Nat} {a0 a1 a2 a3 a5 a6 a7 : Option Value} {x : Int32} {lay : List mShp} {M : mMem} {P : mPost} : mG (d) 157 51 [a0, a1, a2, a3, some (.int x), a5, a6, a7] [] lay M P = mG d 157 53 [a0, a1, a2, a3, some (.int x), a5, a6, a7] [.int x] lay M P := e_iload (i := 4) rfl rfl
set_option maxRecDepth 20000 in
theorem g157_53 {d : Nat} {a0 a1 a2 a3 a4 a5 a6 a7 : Option Value} {s0 : Int32} {lay : List mShp} {M : mMem} {P : mPost} : mG (d) 157 53 [a0, a1, a2, a3, a4, a5, a6, a7] [.int s0] lay M P = mG d 157 54 [a0, a1, a2, a3, a4, a5, a6, a7] [.int (Int32.ofInt (-1)), .int s0] lay M P := e_iconst rfl
set_option maxRecDepth 20000 in
theorem g157_54 {d : Nat} {a0 a1 a2 a3 a4 a5 a6 a7 : Option Value} {s0 : Int32} {s1 : Int32} {lay : List mShp} {M : mMem} {P : mPost} : mG (d) 157 54 [a0, a1, a2, a3, a4, a5, a6, a7] [.int s0, .int s1] lay M P = if s1 = s0 then mG d 157 86 [a0, a1, a2, a3, a4, a5, a6, a7] [] lay M P else mG d 157 57 [a0, a1, a2, a3, a4, a5, a6, a7] [] lay M P := e_icmp_eq rfl rfl
set_option maxRecDepth 20000 in
theorem g157_57 {d : Nat} {a0 a1 a2 a4 a5 a6 a7 : Option Value} {x : Int32} {lay : List mShp} {M : mMem} {P : mPost} : mG (d) 157 57 [a0, a1, a2, some (.int x), a4, a5, a6, a7] [] lay M P = mG d 157 58 [a0, a1, a2, some (.int x), a4, a5, a6, a7] [.int x] lay M P := e_iload_n (i := 3) rfl rfl rfl
set_option maxRecDepth 20000 in
theorem g157_58 {d : Nat} {a0 a1 a3 a4 a5 a6 a7 : Option Value} {s0 : Int32} {x : Int32} {lay : List mShp} {M : mMem} {P : mPost} : mG (d) 157 58 [a0, a1, some (.int x), a3, a4, a5, a6, a7] [.int s0] lay M P = mG d 157 59 [a0, a1, some (.int x), a3, a4, a5, a6, a7] [.int x, .int s0] lay M P := e_iload_n (i := 2) rfl rfl rfl
set_option maxRecDepth 20000 in
theorem g157_59 {d : Nat} {a0 a1 a2 a3 a4 a5 a6 a7 : Option Value} {s0 : Int32} {s1 : Int32} {lay : List mShp} {M : mMem} {P : mPost} : mG (d) 157 59 [a0, a1, a2, a3, a4, a5, a6, a7] [.int s0, .int s1] lay M P = mG d 157 60 [a0, a1, a2, a3, a4, a5, a6, a7] [.int (Int32.ofInt 4), .int s0, .int s1] lay M P := e_iconst rfl
set_option maxRecDepth 20000 in
theorem g157_60 {d : Nat} {a0 a1 a2 a3 a4 a5 a6 a7 : Option Value} {s0 : Int32} {s1 : Int32} {s2 : Int32} {lay : List mShp} {M : mMem} {P : mPost} : mG (d) 157 60 [a0, a1, a2, a3, a4, a5, a6, a7] [.int s0, .int s1, .int s2] lay M P = if s1 = s0 then mG d 157 63 [a0, a1, a2, a3, a4, a5, a6, a7] [.int s2] lay M P else mG d 157 67 [a0, a1, a2, a3, a4, a5, a6, a7] [.int s2] lay M P := e_icmp_ne rfl rfl
set_option maxRecDepth 20000 in
theorem g157_63 {d : Nat} {a0 a1 a2 a3 a4 a5 a6 a7 : Option Value} {s0 : Int32} {lay : List mShp} {M : mMem} {P : mPost} : mG (d) 157 63 [a0, a1, a2, a3, a4, a5, a6, a7] [.int s0] lay M P = mG d 157 64 [a0, a1, a2, a3, a4, a5, a6, a7] [.int (Int32.ofInt (-1)), .int s0] lay M P := e_iconst rfl
set_option maxRecDepth 20000 in
theorem g157_64 {d : Nat} {a0 a1 a2 a3 a4 a5 a6 a7 : Option Value} {s0 : Int32} {s1 : Int32} {lay : List mShp} {M : mMem} {P : mPost} : mG (d) 157 64 [a0, a1, a2, a3, a4, a5, a6, a7] [.int s0, .int s1] lay M P = mG d 157 68 [a0, a1, a2, a3, a4, a5, a6, a7] [.int s0, .int s1] lay M P := e_goto rfl rfl
set_option maxRecDepth 20000 in
theorem g157_67 {d : Nat} {a0 a1 a2 a3 a4 a5 a6 a7 : Option Value} {s0 : Int32} {lay : List mShp} {M : mMem} {P : mPost} : mG (d) 157 67 [a0, a1, a2, a3, a4, a5, a6, a7] [.int s0] lay M P = mG d 157 68 [a0, a1, a2, a3, a4, a5, a6, a7] [.int (Int32.ofInt 0), .int s0] lay M P := e_iconst rfl
set_option maxRecDepth 20000 in
theorem g157_68 {d : Nat} {a0 a1 a2 a3 a4 a6 a7 : Option Value} {s0 : Int32} {s1 : Int32} {x : Int32} {lay : List mShp} {M : mMem} {P : mPost} : mG (d) 157 68 [a0, a1, a2, a3, a4, some (.int x), a6, a7] [.int s0, .int s1] lay M P = mG d 157 70 [a0, a1, a2, a3, a4, some (.int x), a6, a7] [.int x, .int s0, .int s1] lay M P := e_iload (i := 5) rfl rfl
set_option maxRecDepth 20000 in
theorem g157_70 {d : Nat} {a0 a1 a2 a3 a4 a5 a6 a7 : Option Value} {s0 : Int32} {s1 : Int32} {s2 : Int32} {lay : List mShp} {M : mMem} {P : mPost} : mG (d + 1) 157 70 [a0, a1, a2, a3, a4, a5, a6, a7] [.int s0, .int s1, .int s2] lay M P = mF d 146 [.int s2, .int s1, .int s0] lay M (fun v lay1 M1 => mG (d + 1) 157 73 [a0, a1, a2, a3, a4, a5, a6, a7] (v.toList ++ []) lay1 M1 P) := e_static3 (j := 146) rfl rfl rfl rfl rfl (Nat.le_of_ble_eq_true rfl)
set_option maxRecDepth 20000 in
theorem g157_73 {d : Nat} {a0 a1 a2 a3 a4 a5 a6 a7 : Option Value} {s0 : Int32} {lay : List mShp} {M : mMem} {P : mPost} : mG (d) 157 73 [a0, a1, a2, a3, a4, a5, a6, a7] [.int s0] lay M P = if s0 = 0 then mG d 157 86 [a0, a1, a2, a3, a4, a5, a6, a7] [] lay M P else mG d 157 76 [a0, a1, a2, a3, a4, a5, a6, a7] [] lay M P := e_if_eq rfl rfl
set_option maxRecDepth 20000 in
theorem g157_76 {d : Nat} {a0 a1 a3 a4 a5 a6 a7 : Option Value} {x : Int32} {lay : List mShp} {M : mMem} {P : mPost} : mG (d) 157 76 [a0, a1, some (.int x), a3, a4, a5, a6, a7] [] lay M P = mG d 157 77 [a0, a1, some (.int x), a3, a4, a5, a6, a7] [.int x] lay M P := e_iload_n (i := 2) rfl rfl rfl
set_option maxRecDepth 20000 in
theorem g157_77 {d : Nat} {a0 a1 a2 a3 a4 a5 a6 a7 : Option Value} {s0 : Int32} {lay : List mShp} {M : mMem} {P : mPost} : mG (d) 157 77 [a0, a1, a2, a3, a4, a5, a6, a7] [.int s0] lay M P = mG d 157 78 [a0, a1, a2, a3, a4, a5, a6, a7] [.int (Int32.ofInt 4), .int s0] lay M P := e_iconst rfl
set_option maxRecDepth 20000 in
theorem g157_78 {d : Nat} {a0 a1 a2 a3 a4 a5 a6 a7 : Option Value} {s0 : Int32} {s1 : Int32} {lay : List mShp} {M : mMem} {P : mPost} : mG (d) 157 78 [a0, a1, a2, a3, a4, a5, a6, a7] [.int s0, .int s1] lay M P = if s1 = s0 then mG d 157 81 [a0, a1, a2, a3, a4, a5, a6, a7] [] lay M P else mG d 157 89 [a0, a1, a2, a3, a4, a5, a6, a7] [] lay M P := e_icmp_ne rfl rfl
set_option maxRecDepth 20000 in
theorem g157_81 {d : Nat} {a0 a1 a2 a4 a5 a6 a7 : Option Value} {x : Int32} {lay : List mShp} {M : mMem} {P : mPost} : mG (d) 157 81 [a0, a1, a2, some (.int x), a4, a5, a6, a7] [] lay M P = mG d 157 82 [a0, a1, a2, some (.int x), a4, a5, a6, a7] [.int x] lay M P := e_iload_n (i := 3) rfl rfl rfl
set_option maxRecDepth 20000 in
theorem g157_82 {d : Nat} {a0 a2 a3 a4 a5 a6 a7 : Option Value} {s0 : Int32} {x : Int32} {lay : List mShp} {M : mMem} {P : mPost} : mG (d) 157 82 [a0, some (.int x), a2, a3, a4, a5, a6, a7] [.int s0] lay M P = mG d 157 83 [a0, some (.int x), a2, a3, a4, a5, a6, a7] [.int x, .int s0] lay M P := e_iload_n (i := 1) rfl rfl rfl
set_option maxRecDepth 20000 in
theorem g157_83 {d : Nat} {a0 a1 a2 a3 a4 a5 a6 a7 : Option Value} {s0 : Int32} {s1 : Int32} {lay : List mShp} {M : mMem} {P : mPost} : mG (d) 157 83 [a0, a1, a2, a3, a4, a5, a6, a7] [.int s0, .int s1] lay M P = if s1 = s0 then mG d 157 86 [a0, a1, a2, a3, a4, a5, a6, a7] [] lay M P else mG d 157 89 [a0, a1, a2, a3, a4, a5, a6, a7] [] lay M P := e_icmp_ne rfl rfl
set_option maxRecDepth 20000 in
theorem g157_86 {d : Nat} {a0 a1 a2 a3 a4 a5 a6 a7 : Option Value} {lay : List mShp} {M : mMem} {P : mPost} : mG (d) 157 86 [a0, a1, a2, a3, a4, a5, a6, a7] [] lay M P = mG d 157 88 [a0, a1, a2, a3, a4, a5, a6, a7] [.int (Int32.ofInt (-2000000000))] lay M P := e_ldc rfl rfl
set_option maxRecDepth 20000 in
theorem g157_88 {d : Nat} {a0 a1 a2 a3 a4 a5 a6 a7 : Option Value} {s0 : Int32} {lay : List mShp} {M : mMem} {P : mPost} : mG (d) 157 88 [a0, a1, a2, a3, a4, a5, a6, a7] [.int s0] lay M P = P (some (.int s0)) lay M := e_ireturnI rfl rfl
set_option maxRecDepth 20000 in
theorem g157_89 {d : Nat} {a1 a2 a3 a4 a5 a6 a7 : Option Value} {x : Nat} {lay : List mShp} {M : mMem} {P : mPost} (hx : ¬ x = 0) : mG (d) 157 89 [some (.ref x), a1, a2, a3, a4, a5, a6, a7] [] lay M P = mG d 157 90 [some (.ref x), a1, a2, a3, a4, a5, a6, a7] [.ref x] lay M P := e_aload_nP hx (i := 0) rfl rfl rfl
set_option maxRecDepth 20000 in
theorem g157_90 {d : Nat} {a0 a1 a2 a3 a4 a5 a6 a7 : Option Value} {s0 : Nat} {lay : List mShp} {M : mMem} {P : mPost} (hs : mSh lay s0 = some (13, 44)) : mG (d) 157 90 [a0, a1, a2, a3, a4, a5, a6, a7] [.ref s0] lay M P = mG d 157 93 [a0, a1, a2, a3, a4, a5, a6, a7] [.ref (M.2.2 s0 0)] lay M P := mG_of_and (mIsO_of hs (by decide)) (e_getA (ci := 10) (j := 0) rfl rfl rfl)
set_option maxRecDepth 20000 in
theorem g157_93 {d : Nat} {a0 a1 a2 a3 a5 a6 a7 : Option Value} {s0 : Nat} {x : Int32} {lay : List mShp} {M : mMem} {P : mPost} : mG (d) 157 93 [a0, a1, a2, a3, some (.int x), a5, a6, a7] [.ref s0] lay M P = mG d 157 95 [a0, a1, a2, a3, some (.int x), a5, a6, a7] [.int x, .ref s0] lay M P := e_iload (i := 4) rfl rfl
set_option maxRecDepth 20000 in
theorem g157_95 {d : Nat} {a0 a1 a2 a3 a4 a5 a6 a7 : Option Value} {s0 : Int32} {s1 : Nat} {lay : List mShp} {M : mMem} {P : mPost} (hs : mSh lay s1 = some (0, 42)) : mG (d) 157 95 [a0, a1, a2, a3, a4, a5, a6, a7] [.int s0, .ref s1] lay M P = (mIdx s0 42 = true ∧ mG d 157 96 [a0, a1, a2, a3, a4, a5, a6, a7] [.int (M.1 s1 s0.toNatClampNeg)] lay M P) := e_iaload rfl hs
set_option maxRecDepth 20000 in
theorem g157_96 {d : Nat} {a0 a1 a2 a3 a4 a5 a6 a7 : Option Value} {s0 : Int32} {lay : List mShp} {M : mMem} {P : mPost} (h0 : mNoL a5 = true) : mG (d) 157 96 [a0, a1, a2, a3, a4, a5, a6, a7] [.int s0] lay M P = mG d 157 98 [a0, a1, a2, a3, a4, a5, some (.int s0), a7] [] lay M P := e_istore (i := 6) rfl (by simp) (mS1_6 h0)
set_option maxRecDepth 20000 in
theorem g157_98 {d : Nat} {a0 a1 a2 a3 a4 a5 a7 : Option Value} {x : Int32} {lay : List mShp} {M : mMem} {P : mPost} : mG (d) 157 98 [a0, a1, a2, a3, a4, a5, some (.int x), a7] [] lay M P = mG d 157 100 [a0, a1, a2, a3, a4, a5, some (.int x), a7] [.int x] lay M P := e_iload (i := 6) rfl rfl
set_option maxRecDepth 20000 in
theorem g157_100 {d : Nat} {a0 a1 a2 a4 a5 a6 a7 : Option Value} {s0 : Int32} {x : Int32} {lay : List mShp} {M : mMem} {P : mPost} : mG (d) 157 100 [a0, a1, a2, some (.int x), a4, a5, a6, a7] [.int s0] lay M P = mG d 157 101 [a0, a1, a2, some (.int x), a4, a5, a6, a7] [.int x, .int s0] lay M P := e_iload_n (i := 3) rfl rfl rfl
set_option maxRecDepth 20000 in
theorem g157_101 {d : Nat} {a0 a1 a2 a3 a4 a5 a6 a7 : Option Value} {s0 : Int32} {s1 : Int32} {lay : List mShp} {M : mMem} {P : mPost} : mG (d) 157 101 [a0, a1, a2, a3, a4, a5, a6, a7] [.int s0, .int s1] lay M P = if s1 = s0 then mG d 157 245 [a0, a1, a2, a3, a4, a5, a6, a7] [] lay M P else mG d 157 104 [a0, a1, a2, a3, a4, a5, a6, a7] [] lay M P := e_icmp_eq rfl rfl
set_option maxRecDepth 20000 in
theorem g157_104 {d : Nat} {a1 a2 a3 a4 a5 a6 a7 : Option Value} {x : Nat} {lay : List mShp} {M : mMem} {P : mPost} (hx : ¬ x = 0) : mG (d) 157 104 [some (.ref x), a1, a2, a3, a4, a5, a6, a7] [] lay M P = mG d 157 105 [some (.ref x), a1, a2, a3, a4, a5, a6, a7] [.ref x] lay M P := e_aload_nP hx (i := 0) rfl rfl rfl
set_option maxRecDepth 20000 in
theorem g157_105 {d : Nat} {a0 a1 a2 a3 a4 a5 a6 a7 : Option Value} {s0 : Nat} {lay : List mShp} {M : mMem} {P : mPost} (hs : mSh lay s0 = some (13, 44)) : mG (d) 157 105 [a0, a1, a2, a3, a4, a5, a6, a7] [.ref s0] lay M P = mG d 157 108 [a0, a1, a2, a3, a4, a5, a6, a7] [.ref (M.2.2 s0 0)] lay M P := mG_of_and (mIsO_of hs (by decide)) (e_getA (ci := 10) (j := 0) rfl rfl rfl)
set_option maxRecDepth 20000 in
theorem g157_108 {d : Nat} {a0 a1 a2 a3 a5 a6 a7 : Option Value} {s0 : Nat} {x : Int32} {lay : List mShp} {M : mMem} {P : mPost} : mG (d) 157 108 [a0, a1, a2, a3, some (.int x), a5, a6, a7] [.ref s0] lay M P = mG d 157 110 [a0, a1, a2, a3, some (.int x), a5, a6, a7] [.int x, .ref s0] lay M P := e_iload (i := 4) rfl rfl
set_option maxRecDepth 20000 in
theorem g157_110 {d : Nat} {a0 a1 a2 a4 a5 a6 a7 : Option Value} {s0 : Int32} {s1 : Nat} {x : Int32} {lay : List mShp} {M : mMem} {P : mPost} : mG (d) 157 110 [a0, a1, a2, some (.int x), a4, a5, a6, a7] [.int s0, .ref s1] lay M P = mG d 157 111 [a0, a1, a2, some (.int x), a4, a5, a6, a7] [.int x, .int s0, .ref s1] lay M P := e_iload_n (i := 3) rfl rfl rfl
set_option maxRecDepth 20000 in
theorem g157_111 {d : Nat} {a0 a1 a2 a3 a4 a5 a6 a7 : Option Value} {s0 : Int32} {s1 : Int32} {s2 : Nat} {lay : List mShp} {M : mMem} {P : mPost} (hs : mSh lay s2 = some (0, 42)) : mG (d) 157 111 [a0, a1, a2, a3, a4, a5, a6, a7] [.int s0, .int s1, .ref s2] lay M P = (mIdx s1 42 = true ∧ mG d 157 112 [a0, a1, a2, a3, a4, a5, a6, a7] [] lay (mSetI M s2 s1.toNatClampNeg s0) P) := e_iastore rfl hs
set_option maxRecDepth 20000 in
theorem g157_112 {d : Nat} {a1 a2 a3 a4 a5 a6 a7 : Option Value} {x : Nat} {lay : List mShp} {M : mMem} {P : mPost} (hx : ¬ x = 0) : mG (d) 157 112 [some (.ref x), a1, a2, a3, a4, a5, a6, a7] [] lay M P = mG d 157 113 [some (.ref x), a1, a2, a3, a4, a5, a6, a7] [.ref x] lay M P := e_aload_nP hx (i := 0) rfl rfl rfl
set_option maxRecDepth 20000 in
theorem g157_113 {d : Nat} {a0 a1 a2 a3 a4 a5 a6 a7 : Option Value} {s0 : Nat} {lay : List mShp} {M : mMem} {P : mPost} (hs : mSh lay s0 = some (13, 44)) : mG (d) 157 113 [a0, a1, a2, a3, a4, a5, a6, a7] [.ref s0] lay M P = mG d 157 116 [a0, a1, a2, a3, a4, a5, a6, a7] [.int (M.1 s0 6)] lay M P := mG_of_and (mIsO_of hs (by decide)) (e_getI (ci := 10) (j := 6) rfl rfl rfl)
set_option maxRecDepth 20000 in
theorem g157_116 {d : Nat} {a0 a1 a2 a3 a4 a5 a6 a7 : Option Value} {s0 : Int32} {lay : List mShp} {M : mMem} {P : mPost} : mG (d) 157 116 [a0, a1, a2, a3, a4, a5, a6, a7] [.int s0] lay M P = mG d 157 118 [a0, a1, a2, a3, a4, a5, a6, a7] [.int (Int32.ofInt 40), .int s0] lay M P := e_bipush rfl
set_option maxRecDepth 20000 in
theorem g157_118 {d : Nat} {a0 a1 a2 a3 a4 a5 a6 a7 : Option Value} {s0 : Int32} {s1 : Int32} {lay : List mShp} {M : mMem} {P : mPost} : mG (d) 157 118 [a0, a1, a2, a3, a4, a5, a6, a7] [.int s0, .int s1] lay M P = if s1 = s0 then mG d 157 121 [a0, a1, a2, a3, a4, a5, a6, a7] [] lay M P else mG d 157 195 [a0, a1, a2, a3, a4, a5, a6, a7] [] lay M P := e_icmp_ne rfl rfl
set_option maxRecDepth 20000 in
theorem g157_121 {d : Nat} {a0 a1 a2 a3 a4 a5 a6 a7 : Option Value} {lay : List mShp} {M : mMem} {P : mPost} : mG (d) 157 121 [a0, a1, a2, a3, a4, a5, a6, a7] [] lay M P = mG d 157 122 [a0, a1, a2, a3, a4, a5, a6, a7] [.int (Int32.ofInt 1)] lay M P := e_iconst rfl
set_option maxRecDepth 20000 in
theorem g157_122 {d : Nat} {a0 a1 a2 a3 a4 a5 a6 a7 : Option Value} {s0 : Int32} {lay : List mShp} {M : mMem} {P : mPost} (h0 : mNoL a6 = true) : mG (d) 157 122 [a0, a1, a2, a3, a4, a5, a6, a7] [.int s0] lay M P = mG d 157 124 [a0, a1, a2, a3, a4, a5, a6, some (.int s0)] [] lay M P := e_istore (i := 7) rfl (by simp) (mS1_7 h0)
set_option maxRecDepth 20000 in
theorem g157_124 {d : Nat} {a0 a1 a2 a3 a4 a5 a6 : Option Value} {x : Int32} {lay : List mShp} {M : mMem} {P : mPost} : mG (d) 157 124 [a0, a1, a2, a3, a4, a5, a6, some (.int x)] [] lay M P = mG d 157 126 [a0, a1, a2, a3, a4, a5, a6, some (.int x)] [.int x] lay M P := e_iload (i := 7) rfl rfl
set_option maxRecDepth 20000 in
theorem g157_126 {d : Nat} {a0 a1 a2 a3 a4 a5 a6 a7 : Option Value} {s0 : Int32} {lay : List mShp} {M : mMem} {P : mPost} : mG (d) 157 126 [a0, a1, a2, a3, a4, a5, a6, a7] [.int s0] lay M P = mG d 157 128 [a0, a1, a2, a3, a4, a5, a6, a7] [.int (Int32.ofInt 40), .int s0] lay M P := e_bipush rfl
set_option maxRecDepth 20000 in
theorem g157_128 {d : Nat} {a0 a1 a2 a3 a4 a5 a6 a7 : Option Value} {s0 : Int32} {s1 : Int32} {lay : List mShp} {M : mMem} {P : mPost} : mG (d) 157 128 [a0, a1, a2, a3, a4, a5, a6, a7] [.int s0, .int s1] lay M P = if s1 < s0 then mG d 157 131 [a0, a1, a2, a3, a4, a5, a6, a7] [] lay M P else mG d 157 185 [a0, a1, a2, a3, a4, a5, a6, a7] [] lay M P := e_icmp_ge rfl rfl
set_option maxRecDepth 20000 in
theorem g157_131 {d : Nat} {a1 a2 a3 a4 a5 a6 a7 : Option Value} {x : Nat} {lay : List mShp} {M : mMem} {P : mPost} (hx : ¬ x = 0) : mG (d) 157 131 [some (.ref x), a1, a2, a3, a4, a5, a6, a7] [] lay M P = mG d 157 132 [some (.ref x), a1, a2, a3, a4, a5, a6, a7] [.ref x] lay M P := e_aload_nP hx (i := 0) rfl rfl rfl
set_option maxRecDepth 20000 in
theorem g157_132 {d : Nat} {a0 a1 a2 a3 a4 a5 a6 a7 : Option Value} {s0 : Nat} {lay : List mShp} {M : mMem} {P : mPost} (hs : mSh lay s0 = some (13, 44)) : mG (d) 157 132 [a0, a1, a2, a3, a4, a5, a6, a7] [.ref s0] lay M P = mG d 157 135 [a0, a1, a2, a3, a4, a5, a6, a7] [.ref (M.2.2 s0 3)] lay M P := mG_of_and (mIsO_of hs (by decide)) (e_getA (ci := 10) (j := 3) rfl rfl rfl)
set_option maxRecDepth 20000 in
theorem g157_135 {d : Nat} {a0 a1 a2 a3 a4 a5 a6 : Option Value} {s0 : Nat} {x : Int32} {lay : List mShp} {M : mMem} {P : mPost} : mG (d) 157 135 [a0, a1, a2, a3, a4, a5, a6, some (.int x)] [.ref s0] lay M P = mG d 157 137 [a0, a1, a2, a3, a4, a5, a6, some (.int x)] [.int x, .ref s0] lay M P := e_iload (i := 7) rfl rfl
set_option maxRecDepth 20000 in
theorem g157_137 {d : Nat} {a0 a1 a2 a3 a4 a5 a6 a7 : Option Value} {s0 : Int32} {s1 : Nat} {lay : List mShp} {M : mMem} {P : mPost} : mG (d) 157 137 [a0, a1, a2, a3, a4, a5, a6, a7] [.int s0, .ref s1] lay M P = mG d 157 138 [a0, a1, a2, a3, a4, a5, a6, a7] [.int (Int32.ofInt 1), .int s0, .ref s1] lay M P := e_iconst rfl
set_option maxRecDepth 20000 in
theorem g157_138 {d : Nat} {a0 a1 a2 a3 a4 a5 a6 a7 : Option Value} {s0 : Int32} {s1 : Int32} {s2 : Nat} {lay : List mShp} {M : mMem} {P : mPost} : mG (d) 157 138 [a0, a1, a2, a3, a4, a5, a6, a7] [.int s0, .int s1, .ref s2] lay M P = mG d 157 139 [a0, a1, a2, a3, a4, a5, a6, a7] [.int (s1 - s0), .ref s2] lay M P := e_isub rfl
set_option maxRecDepth 20000 in
theorem g157_139 {d : Nat} {a1 a2 a3 a4 a5 a6 a7 : Option Value} {s0 : Int32} {s1 : Nat} {x : Nat} {lay : List mShp} {M : mMem} {P : mPost} (hx : ¬ x = 0) : mG (d) 157 139 [some (.ref x), a1, a2, a3, a4, a5, a6, a7] [.int s0, .ref s1] lay M P = mG d 157 140 [some (.ref x), a1, a2, a3, a4, a5, a6, a7] [.ref x, .int s0, .ref s1] lay M P := e_aload_nP hx (i := 0) rfl rfl rfl
set_option maxRecDepth 20000 in
theorem g157_140 {d : Nat} {a0 a1 a2 a3 a4 a5 a6 a7 : Option Value} {s0 : Nat} {s1 : Int32} {s2 : Nat} {lay : List mShp} {M : mMem} {P : mPost} (hs : mSh lay s0 = some (13, 44)) : mG (d) 157 140 [a0, a1, a2, a3, a4, a5, a6, a7] [.ref s0, .int s1, .ref s2] lay M P = mG d 157 143 [a0, a1, a2, a3, a4, a5, a6, a7] [.ref (M.2.2 s0 3), .int s1, .ref s2] lay M P := mG_of_and (mIsO_of hs (by decide)) (e_getA (ci := 10) (j := 3) rfl rfl rfl)
set_option maxRecDepth 20000 in
theorem g157_143 {d : Nat} {a0 a1 a2 a3 a4 a5 a6 : Option Value} {s0 : Nat} {s1 : Int32} {s2 : Nat} {x : Int32} {lay : List mShp} {M : mMem} {P : mPost} : mG (d) 157 143 [a0, a1, a2, a3, a4, a5, a6, some (.int x)] [.ref s0, .int s1, .ref s2] lay M P = mG d 157 145 [a0, a1, a2, a3, a4, a5, a6, some (.int x)] [.int x, .ref s0, .int s1, .ref s2] lay M P := e_iload (i := 7) rfl rfl
set_option maxRecDepth 20000 in
theorem g157_145 {d : Nat} {a0 a1 a2 a3 a4 a5 a6 a7 : Option Value} {s0 : Int32} {s1 : Nat} {s2 : Int32} {s3 : Nat} {lay : List mShp} {M : mMem} {P : mPost} (hs : mSh lay s1 = some (0, 40)) : mG (d) 157 145 [a0, a1, a2, a3, a4, a5, a6, a7] [.int s0, .ref s1, .int s2, .ref s3] lay M P = (mIdx s0 40 = true ∧ mG d 157 146 [a0, a1, a2, a3, a4, a5, a6, a7] [.int (M.1 s1 s0.toNatClampNeg), .int s2, .ref s3] lay M P) := e_iaload rfl hs
set_option maxRecDepth 20000 in
theorem g157_146 {d : Nat} {a0 a1 a2 a3 a4 a5 a6 a7 : Option Value} {s0 : Int32} {s1 : Int32} {s2 : Nat} {lay : List mShp} {M : mMem} {P : mPost} (hs : mSh lay s2 = some (0, 40)) : mG (d) 157 146 [a0, a1, a2, a3, a4, a5, a6, a7] [.int s0, .int s1, .ref s2] lay M P = (mIdx s1 40 = true ∧ mG d 157 147 [a0, a1, a2, a3, a4, a5, a6, a7] [] lay (mSetI M s2 s1.toNatClampNeg s0) P) := e_iastore rfl hs
set_option maxRecDepth 20000 in
theorem g157_147 {d : Nat} {a1 a2 a3 a4 a5 a6 a7 : Option Value} {x : Nat} {lay : List mShp} {M : mMem} {P : mPost} (hx : ¬ x = 0) : mG (d) 157 147 [some (.ref x), a1, a2, a3, a4, a5, a6, a7] [] lay M P = mG d 157 148 [some (.ref x), a1, a2, a3, a4, a5, a6, a7] [.ref x] lay M P := e_aload_nP hx (i := 0) rfl rfl rfl
set_option maxRecDepth 20000 in
theorem g157_148 {d : Nat} {a0 a1 a2 a3 a4 a5 a6 a7 : Option Value} {s0 : Nat} {lay : List mShp} {M : mMem} {P : mPost} (hs : mSh lay s0 = some (13, 44)) : mG (d) 157 148 [a0, a1, a2, a3, a4, a5, a6, a7] [.ref s0] lay M P = mG d 157 151 [a0, a1, a2, a3, a4, a5, a6, a7] [.ref (M.2.2 s0 4)] lay M P := mG_of_and (mIsO_of hs (by decide)) (e_getA (ci := 10) (j := 4) rfl rfl rfl)
set_option maxRecDepth 20000 in
theorem g157_151 {d : Nat} {a0 a1 a2 a3 a4 a5 a6 : Option Value} {s0 : Nat} {x : Int32} {lay : List mShp} {M : mMem} {P : mPost} : mG (d) 157 151 [a0, a1, a2, a3, a4, a5, a6, some (.int x)] [.ref s0] lay M P = mG d 157 153 [a0, a1, a2, a3, a4, a5, a6, some (.int x)] [.int x, .ref s0] lay M P := e_iload (i := 7) rfl rfl
set_option maxRecDepth 20000 in
theorem g157_153 {d : Nat} {a0 a1 a2 a3 a4 a5 a6 a7 : Option Value} {s0 : Int32} {s1 : Nat} {lay : List mShp} {M : mMem} {P : mPost} : mG (d) 157 153 [a0, a1, a2, a3, a4, a5, a6, a7] [.int s0, .ref s1] lay M P = mG d 157 154 [a0, a1, a2, a3, a4, a5, a6, a7] [.int (Int32.ofInt 1), .int s0, .ref s1] lay M P := e_iconst rfl
set_option maxRecDepth 20000 in
theorem g157_154 {d : Nat} {a0 a1 a2 a3 a4 a5 a6 a7 : Option Value} {s0 : Int32} {s1 : Int32} {s2 : Nat} {lay : List mShp} {M : mMem} {P : mPost} : mG (d) 157 154 [a0, a1, a2, a3, a4, a5, a6, a7] [.int s0, .int s1, .ref s2] lay M P = mG d 157 155 [a0, a1, a2, a3, a4, a5, a6, a7] [.int (s1 - s0), .ref s2] lay M P := e_isub rfl
set_option maxRecDepth 20000 in
theorem g157_155 {d : Nat} {a1 a2 a3 a4 a5 a6 a7 : Option Value} {s0 : Int32} {s1 : Nat} {x : Nat} {lay : List mShp} {M : mMem} {P : mPost} (hx : ¬ x = 0) : mG (d) 157 155 [some (.ref x), a1, a2, a3, a4, a5, a6, a7] [.int s0, .ref s1] lay M P = mG d 157 156 [some (.ref x), a1, a2, a3, a4, a5, a6, a7] [.ref x, .int s0, .ref s1] lay M P := e_aload_nP hx (i := 0) rfl rfl rfl
set_option maxRecDepth 20000 in
theorem g157_156 {d : Nat} {a0 a1 a2 a3 a4 a5 a6 a7 : Option Value} {s0 : Nat} {s1 : Int32} {s2 : Nat} {lay : List mShp} {M : mMem} {P : mPost} (hs : mSh lay s0 = some (13, 44)) : mG (d) 157 156 [a0, a1, a2, a3, a4, a5, a6, a7] [.ref s0, .int s1, .ref s2] lay M P = mG d 157 159 [a0, a1, a2, a3, a4, a5, a6, a7] [.ref (M.2.2 s0 4), .int s1, .ref s2] lay M P := mG_of_and (mIsO_of hs (by decide)) (e_getA (ci := 10) (j := 4) rfl rfl rfl)
set_option maxRecDepth 20000 in
theorem g157_159 {d : Nat} {a0 a1 a2 a3 a4 a5 a6 : Option Value} {s0 : Nat} {s1 : Int32} {s2 : Nat} {x : Int32} {lay : List mShp} {M : mMem} {P : mPost} : mG (d) 157 159 [a0, a1, a2, a3, a4, a5, a6, some (.int x)] [.ref s0, .int s1, .ref s2] lay M P = mG d 157 161 [a0, a1, a2, a3, a4, a5, a6, some (.int x)] [.int x, .ref s0, .int s1, .ref s2] lay M P := e_iload (i := 7) rfl rfl
set_option maxRecDepth 20000 in
theorem g157_161 {d : Nat} {a0 a1 a2 a3 a4 a5 a6 a7 : Option Value} {s0 : Int32} {s1 : Nat} {s2 : Int32} {s3 : Nat} {lay : List mShp} {M : mMem} {P : mPost} (hs : mSh lay s1 = some (0, 40)) : mG (d) 157 161 [a0, a1, a2, a3, a4, a5, a6, a7] [.int s0, .ref s1, .int s2, .ref s3] lay M P = (mIdx s0 40 = true ∧ mG d 157 162 [a0, a1, a2, a3, a4, a5, a6, a7] [.int (M.1 s1 s0.toNatClampNeg), .int s2, .ref s3] lay M P) := e_iaload rfl hs
set_option maxRecDepth 20000 in
theorem g157_162 {d : Nat} {a0 a1 a2 a3 a4 a5 a6 a7 : Option Value} {s0 : Int32} {s1 : Int32} {s2 : Nat} {lay : List mShp} {M : mMem} {P : mPost} (hs : mSh lay s2 = some (0, 40)) : mG (d) 157 162 [a0, a1, a2, a3, a4, a5, a6, a7] [.int s0, .int s1, .ref s2] lay M P = (mIdx s1 40 = true ∧ mG d 157 163 [a0, a1, a2, a3, a4, a5, a6, a7] [] lay (mSetI M s2 s1.toNatClampNeg s0) P) := e_iastore rfl hs
set_option maxRecDepth 20000 in
theorem g157_163 {d : Nat} {a1 a2 a3 a4 a5 a6 a7 : Option Value} {x : Nat} {lay : List mShp} {M : mMem} {P : mPost} (hx : ¬ x = 0) : mG (d) 157 163 [some (.ref x), a1, a2, a3, a4, a5, a6, a7] [] lay M P = mG d 157 164 [some (.ref x), a1, a2, a3, a4, a5, a6, a7] [.ref x] lay M P := e_aload_nP hx (i := 0) rfl rfl rfl
set_option maxRecDepth 20000 in
theorem g157_164 {d : Nat} {a0 a1 a2 a3 a4 a5 a6 a7 : Option Value} {s0 : Nat} {lay : List mShp} {M : mMem} {P : mPost} (hs : mSh lay s0 = some (13, 44)) : mG (d) 157 164 [a0, a1, a2, a3, a4, a5, a6, a7] [.ref s0] lay M P = mG d 157 167 [a0, a1, a2, a3, a4, a5, a6, a7] [.ref (M.2.2 s0 5)] lay M P := mG_of_and (mIsO_of hs (by decide)) (e_getA (ci := 10) (j := 5) rfl rfl rfl)
set_option maxRecDepth 20000 in
theorem g157_167 {d : Nat} {a0 a1 a2 a3 a4 a5 a6 : Option Value} {s0 : Nat} {x : Int32} {lay : List mShp} {M : mMem} {P : mPost} : mG (d) 157 167 [a0, a1, a2, a3, a4, a5, a6, some (.int x)] [.ref s0] lay M P = mG d 157 169 [a0, a1, a2, a3, a4, a5, a6, some (.int x)] [.int x, .ref s0] lay M P := e_iload (i := 7) rfl rfl
set_option maxRecDepth 20000 in
theorem g157_169 {d : Nat} {a0 a1 a2 a3 a4 a5 a6 a7 : Option Value} {s0 : Int32} {s1 : Nat} {lay : List mShp} {M : mMem} {P : mPost} : mG (d) 157 169 [a0, a1, a2, a3, a4, a5, a6, a7] [.int s0, .ref s1] lay M P = mG d 157 170 [a0, a1, a2, a3, a4, a5, a6, a7] [.int (Int32.ofInt 1), .int s0, .ref s1] lay M P := e_iconst rfl
set_option maxRecDepth 20000 in
theorem g157_170 {d : Nat} {a0 a1 a2 a3 a4 a5 a6 a7 : Option Value} {s0 : Int32} {s1 : Int32} {s2 : Nat} {lay : List mShp} {M : mMem} {P : mPost} : mG (d) 157 170 [a0, a1, a2, a3, a4, a5, a6, a7] [.int s0, .int s1, .ref s2] lay M P = mG d 157 171 [a0, a1, a2, a3, a4, a5, a6, a7] [.int (s1 - s0), .ref s2] lay M P := e_isub rfl
set_option maxRecDepth 20000 in
theorem g157_171 {d : Nat} {a1 a2 a3 a4 a5 a6 a7 : Option Value} {s0 : Int32} {s1 : Nat} {x : Nat} {lay : List mShp} {M : mMem} {P : mPost} (hx : ¬ x = 0) : mG (d) 157 171 [some (.ref x), a1, a2, a3, a4, a5, a6, a7] [.int s0, .ref s1] lay M P = mG d 157 172 [some (.ref x), a1, a2, a3, a4, a5, a6, a7] [.ref x, .int s0, .ref s1] lay M P := e_aload_nP hx (i := 0) rfl rfl rfl
set_option maxRecDepth 20000 in
theorem g157_172 {d : Nat} {a0 a1 a2 a3 a4 a5 a6 a7 : Option Value} {s0 : Nat} {s1 : Int32} {s2 : Nat} {lay : List mShp} {M : mMem} {P : mPost} (hs : mSh lay s0 = some (13, 44)) : mG (d) 157 172 [a0, a1, a2, a3, a4, a5, a6, a7] [.ref s0, .int s1, .ref s2] lay M P = mG d 157 175 [a0, a1, a2, a3, a4, a5, a6, a7] [.ref (M.2.2 s0 5), .int s1, .ref s2] lay M P := mG_of_and (mIsO_of hs (by decide)) (e_getA (ci := 10) (j := 5) rfl rfl rfl)
set_option maxRecDepth 20000 in
theorem g157_175 {d : Nat} {a0 a1 a2 a3 a4 a5 a6 : Option Value} {s0 : Nat} {s1 : Int32} {s2 : Nat} {x : Int32} {lay : List mShp} {M : mMem} {P : mPost} : mG (d) 157 175 [a0, a1, a2, a3, a4, a5, a6, some (.int x)] [.ref s0, .int s1, .ref s2] lay M P = mG d 157 177 [a0, a1, a2, a3, a4, a5, a6, some (.int x)] [.int x, .ref s0, .int s1, .ref s2] lay M P := e_iload (i := 7) rfl rfl
set_option maxRecDepth 20000 in
theorem g157_177 {d : Nat} {a0 a1 a2 a3 a4 a5 a6 a7 : Option Value} {s0 : Int32} {s1 : Nat} {s2 : Int32} {s3 : Nat} {lay : List mShp} {M : mMem} {P : mPost} (hs : mSh lay s1 = some (0, 40)) : mG (d) 157 177 [a0, a1, a2, a3, a4, a5, a6, a7] [.int s0, .ref s1, .int s2, .ref s3] lay M P = (mIdx s0 40 = true ∧ mG d 157 178 [a0, a1, a2, a3, a4, a5, a6, a7] [.int (M.1 s1 s0.toNatClampNeg), .int s2, .ref s3] lay M P) := e_iaload rfl hs
set_option maxRecDepth 20000 in
theorem g157_178 {d : Nat} {a0 a1 a2 a3 a4 a5 a6 a7 : Option Value} {s0 : Int32} {s1 : Int32} {s2 : Nat} {lay : List mShp} {M : mMem} {P : mPost} (hs : mSh lay s2 = some (0, 40)) : mG (d) 157 178 [a0, a1, a2, a3, a4, a5, a6, a7] [.int s0, .int s1, .ref s2] lay M P = (mIdx s1 40 = true ∧ mG d 157 179 [a0, a1, a2, a3, a4, a5, a6, a7] [] lay (mSetI M s2 s1.toNatClampNeg s0) P) := e_iastore rfl hs
set_option maxRecDepth 20000 in
theorem g157_179 {d : Nat} {a0 a1 a2 a3 a4 a5 a6 : Option Value} {x : Int32} {lay : List mShp} {M : mMem} {P : mPost} (h0 : mNoL a6 = true) : mG (d) 157 179 [a0, a1, a2, a3, a4, a5, a6, some (.int x)] [] lay M P = mG d 157 182 [a0, a1, a2, a3, a4, a5, a6, some (.int (x + Int32.ofInt 1))] [] lay M P := e_iinc (n := 7) rfl rfl (mS1_7 h0)
set_option maxRecDepth 20000 in
theorem g157_182 {d : Nat} {a0 a1 a2 a3 a4 a5 a6 a7 : Option Value} {lay : List mShp} {M : mMem} {P : mPost} : mG (d) 157 182 [a0, a1, a2, a3, a4, a5, a6, a7] [] lay M P = mG d 157 124 [a0, a1, a2, a3, a4, a5, a6, a7] [] lay M P := e_goto rfl rfl
set_option maxRecDepth 20000 in
theorem g157_185 {d : Nat} {a1 a2 a3 a4 a5 a6 a7 : Option Value} {x : Nat} {lay : List mShp} {M : mMem} {P : mPost} (hx : ¬ x = 0) : mG (d) 157 185 [some (.ref x), a1, a2, a3, a4, a5, a6, a7] [] lay M P = mG d 157 186 [some (.ref x), a1, a2, a3, a4, a5, a6, a7] [.ref x] lay M P := e_aload_nP hx (i := 0) rfl rfl rfl
set_option maxRecDepth 20000 in
theorem g157_186 {d : Nat} {a0 a1 a2 a3 a4 a5 a6 a7 : Option Value} {s0 : Nat} {lay : List mShp} {M : mMem} {P : mPost} : mG (d) 157 186 [a0, a1, a2, a3, a4, a5, a6, a7] [.ref s0] lay M P = mG d 157 187 [a0, a1, a2, a3, a4, a5, a6, a7] [.ref s0, .ref s0] lay M P := e_dupr rfl
set_option maxRecDepth 20000 in
theorem g157_187 {d : Nat} {a0 a1 a2 a3 a4 a5 a6 a7 : Option Value} {s0 : Nat} {s1 : Nat} {lay : List mShp} {M : mMem} {P : mPost} (hs : mSh lay s0 = some (13, 44)) : mG (d) 157 187 [a0, a1, a2, a3, a4, a5, a6, a7] [.ref s0, .ref s1] lay M P = mG d 157 190 [a0, a1, a2, a3, a4, a5, a6, a7] [.int (M.1 s0 6), .ref s1] lay M P := mG_of_and (mIsO_of hs (by decide)) (e_getI (ci := 10) (j := 6) rfl rfl rfl)
set_option maxRecDepth 20000 in
theorem g157_190 {d : Nat} {a0 a1 a2 a3 a4 a5 a6 a7 : Option Value} {s0 : Int32} {s1 : Nat} {lay : List mShp} {M : mMem} {P : mPost} : mG (d) 157 190 [a0, a1, a2, a3, a4, a5, a6, a7] [.int s0, .ref s1] lay M P = mG d 157 191 [a0, a1, a2, a3, a4, a5, a6, a7] [.int (Int32.ofInt 1), .int s0, .ref s1] lay M P := e_iconst rfl
set_option maxRecDepth 20000 in
theorem g157_191 {d : Nat} {a0 a1 a2 a3 a4 a5 a6 a7 : Option Value} {s0 : Int32} {s1 : Int32} {s2 : Nat} {lay : List mShp} {M : mMem} {P : mPost} : mG (d) 157 191 [a0, a1, a2, a3, a4, a5, a6, a7] [.int s0, .int s1, .ref s2] lay M P = mG d 157 192 [a0, a1, a2, a3, a4, a5, a6, a7] [.int (s1 - s0), .ref s2] lay M P := e_isub rfl
set_option maxRecDepth 20000 in
theorem g157_192 {d : Nat} {a0 a1 a2 a3 a4 a5 a6 a7 : Option Value} {s0 : Int32} {s1 : Nat} {lay : List mShp} {M : mMem} {P : mPost} (hs : mSh lay s1 = some (13, 44)) : mG (d) 157 192 [a0, a1, a2, a3, a4, a5, a6, a7] [.int s0, .ref s1] lay M P = mG d 157 195 [a0, a1, a2, a3, a4, a5, a6, a7] [] lay (mSetI M s1 6 s0) P := mG_of_and (mIsO_of hs (by decide)) (e_putI (ci := 10) (j := 6) rfl rfl (Or.inl rfl) rfl)
set_option maxRecDepth 20000 in
theorem g157_195 {d : Nat} {a1 a2 a3 a4 a5 a6 a7 : Option Value} {x : Nat} {lay : List mShp} {M : mMem} {P : mPost} (hx : ¬ x = 0) : mG (d) 157 195 [some (.ref x), a1, a2, a3, a4, a5, a6, a7] [] lay M P = mG d 157 196 [some (.ref x), a1, a2, a3, a4, a5, a6, a7] [.ref x] lay M P := e_aload_nP hx (i := 0) rfl rfl rfl
set_option maxRecDepth 20000 in
theorem g157_196 {d : Nat} {a0 a1 a2 a3 a4 a5 a6 a7 : Option Value} {s0 : Nat} {lay : List mShp} {M : mMem} {P : mPost} (hs : mSh lay s0 = some (13, 44)) : mG (d) 157 196 [a0, a1, a2, a3, a4, a5, a6, a7] [.ref s0] lay M P = mG d 157 199 [a0, a1, a2, a3, a4, a5, a6, a7] [.ref (M.2.2 s0 3)] lay M P := mG_of_and (mIsO_of hs (by decide)) (e_getA (ci := 10) (j := 3) rfl rfl rfl)
set_option maxRecDepth 20000 in
theorem g157_199 {d : Nat} {a1 a2 a3 a4 a5 a6 a7 : Option Value} {s0 : Nat} {x : Nat} {lay : List mShp} {M : mMem} {P : mPost} (hx : ¬ x = 0) : mG (d) 157 199 [some (.ref x), a1, a2, a3, a4, a5, a6, a7] [.ref s0] lay M P = mG d 157 200 [some (.ref x), a1, a2, a3, a4, a5, a6, a7] [.ref x, .ref s0] lay M P := e_aload_nP hx (i := 0) rfl rfl rfl
set_option maxRecDepth 20000 in
theorem g157_200 {d : Nat} {a0 a1 a2 a3 a4 a5 a6 a7 : Option Value} {s0 : Nat} {s1 : Nat} {lay : List mShp} {M : mMem} {P : mPost} (hs : mSh lay s0 = some (13, 44)) : mG (d) 157 200 [a0, a1, a2, a3, a4, a5, a6, a7] [.ref s0, .ref s1] lay M P = mG d 157 203 [a0, a1, a2, a3, a4, a5, a6, a7] [.int (M.1 s0 6), .ref s1] lay M P := mG_of_and (mIsO_of hs (by decide)) (e_getI (ci := 10) (j := 6) rfl rfl rfl)
set_option maxRecDepth 20000 in
theorem g157_203 {d : Nat} {a0 a1 a2 a3 a5 a6 a7 : Option Value} {s0 : Int32} {s1 : Nat} {x : Int32} {lay : List mShp} {M : mMem} {P : mPost} : mG (d) 157 203 [a0, a1, a2, a3, some (.int x), a5, a6, a7] [.int s0, .ref s1] lay M P = mG d 157 205 [a0, a1, a2, a3, some (.int x), a5, a6, a7] [.int x, .int s0, .ref s1] lay M P := e_iload (i := 4) rfl rfl
set_option maxRecDepth 20000 in
theorem g157_205 {d : Nat} {a0 a1 a2 a3 a4 a5 a6 a7 : Option Value} {s0 : Int32} {s1 : Int32} {s2 : Nat} {lay : List mShp} {M : mMem} {P : mPost} (hs : mSh lay s2 = some (0, 40)) : mG (d) 157 205 [a0, a1, a2, a3, a4, a5, a6, a7] [.int s0, .int s1, .ref s2] lay M P = (mIdx s1 40 = true ∧ mG d 157 206 [a0, a1, a2, a3, a4, a5, a6, a7] [] lay (mSetI M s2 s1.toNatClampNeg s0) P) := e_iastore rfl hs
set_option maxRecDepth 20000 in
theorem g157_206 {d : Nat} {a1 a2 a3 a4 a5 a6 a7 : Option Value} {x : Nat} {lay : List mShp} {M : mMem} {P : mPost} (hx : ¬ x = 0) : mG (d) 157 206 [some (.ref x), a1, a2, a3, a4, a5, a6, a7] [] lay M P = mG d 157 207 [some (.ref x), a1, a2, a3, a4, a5, a6, a7] [.ref x] lay M P := e_aload_nP hx (i := 0) rfl rfl rfl
set_option maxRecDepth 20000 in
theorem g157_207 {d : Nat} {a0 a1 a2 a3 a4 a5 a6 a7 : Option Value} {s0 : Nat} {lay : List mShp} {M : mMem} {P : mPost} (hs : mSh lay s0 = some (13, 44)) : mG (d) 157 207 [a0, a1, a2, a3, a4, a5, a6, a7] [.ref s0] lay M P = mG d 157 210 [a0, a1, a2, a3, a4, a5, a6, a7] [.ref (M.2.2 s0 4)] lay M P := mG_of_and (mIsO_of hs (by decide)) (e_getA (ci := 10) (j := 4) rfl rfl rfl)
set_option maxRecDepth 20000 in
theorem g157_210 {d : Nat} {a1 a2 a3 a4 a5 a6 a7 : Option Value} {s0 : Nat} {x : Nat} {lay : List mShp} {M : mMem} {P : mPost} (hx : ¬ x = 0) : mG (d) 157 210 [some (.ref x), a1, a2, a3, a4, a5, a6, a7] [.ref s0] lay M P = mG d 157 211 [some (.ref x), a1, a2, a3, a4, a5, a6, a7] [.ref x, .ref s0] lay M P := e_aload_nP hx (i := 0) rfl rfl rfl
set_option maxRecDepth 20000 in
theorem g157_211 {d : Nat} {a0 a1 a2 a3 a4 a5 a6 a7 : Option Value} {s0 : Nat} {s1 : Nat} {lay : List mShp} {M : mMem} {P : mPost} (hs : mSh lay s0 = some (13, 44)) : mG (d) 157 211 [a0, a1, a2, a3, a4, a5, a6, a7] [.ref s0, .ref s1] lay M P = mG d 157 214 [a0, a1, a2, a3, a4, a5, a6, a7] [.int (M.1 s0 6), .ref s1] lay M P := mG_of_and (mIsO_of hs (by decide)) (e_getI (ci := 10) (j := 6) rfl rfl rfl)
set_option maxRecDepth 20000 in
theorem g157_214 {d : Nat} {a0 a1 a2 a3 a4 a5 a7 : Option Value} {s0 : Int32} {s1 : Nat} {x : Int32} {lay : List mShp} {M : mMem} {P : mPost} : mG (d) 157 214 [a0, a1, a2, a3, a4, a5, some (.int x), a7] [.int s0, .ref s1] lay M P = mG d 157 216 [a0, a1, a2, a3, a4, a5, some (.int x), a7] [.int x, .int s0, .ref s1] lay M P := e_iload (i := 6) rfl rfl
set_option maxRecDepth 20000 in
theorem g157_216 {d : Nat} {a0 a1 a2 a3 a4 a5 a6 a7 : Option Value} {s0 : Int32} {s1 : Int32} {s2 : Nat} {lay : List mShp} {M : mMem} {P : mPost} (hs : mSh lay s2 = some (0, 40)) : mG (d) 157 216 [a0, a1, a2, a3, a4, a5, a6, a7] [.int s0, .int s1, .ref s2] lay M P = (mIdx s1 40 = true ∧ mG d 157 217 [a0, a1, a2, a3, a4, a5, a6, a7] [] lay (mSetI M s2 s1.toNatClampNeg s0) P) := e_iastore rfl hs
set_option maxRecDepth 20000 in
theorem g157_217 {d : Nat} {a1 a2 a3 a4 a5 a6 a7 : Option Value} {x : Nat} {lay : List mShp} {M : mMem} {P : mPost} (hx : ¬ x = 0) : mG (d) 157 217 [some (.ref x), a1, a2, a3, a4, a5, a6, a7] [] lay M P = mG d 157 218 [some (.ref x), a1, a2, a3, a4, a5, a6, a7] [.ref x] lay M P := e_aload_nP hx (i := 0) rfl rfl rfl
set_option maxRecDepth 20000 in
theorem g157_218 {d : Nat} {a0 a1 a2 a3 a4 a5 a6 a7 : Option Value} {s0 : Nat} {lay : List mShp} {M : mMem} {P : mPost} (hs : mSh lay s0 = some (13, 44)) : mG (d) 157 218 [a0, a1, a2, a3, a4, a5, a6, a7] [.ref s0] lay M P = mG d 157 221 [a0, a1, a2, a3, a4, a5, a6, a7] [.ref (M.2.2 s0 5)] lay M P := mG_of_and (mIsO_of hs (by decide)) (e_getA (ci := 10) (j := 5) rfl rfl rfl)
set_option maxRecDepth 20000 in
theorem g157_221 {d : Nat} {a1 a2 a3 a4 a5 a6 a7 : Option Value} {s0 : Nat} {x : Nat} {lay : List mShp} {M : mMem} {P : mPost} (hx : ¬ x = 0) : mG (d) 157 221 [some (.ref x), a1, a2, a3, a4, a5, a6, a7] [.ref s0] lay M P = mG d 157 222 [some (.ref x), a1, a2, a3, a4, a5, a6, a7] [.ref x, .ref s0] lay M P := e_aload_nP hx (i := 0) rfl rfl rfl
set_option maxRecDepth 20000 in
theorem g157_222 {d : Nat} {a0 a1 a2 a3 a4 a5 a6 a7 : Option Value} {s0 : Nat} {s1 : Nat} {lay : List mShp} {M : mMem} {P : mPost} (hs : mSh lay s0 = some (13, 44)) : mG (d) 157 222 [a0, a1, a2, a3, a4, a5, a6, a7] [.ref s0, .ref s1] lay M P = mG d 157 225 [a0, a1, a2, a3, a4, a5, a6, a7] [.int (M.1 s0 6), .ref s1] lay M P := mG_of_and (mIsO_of hs (by decide)) (e_getI (ci := 10) (j := 6) rfl rfl rfl)
set_option maxRecDepth 20000 in
theorem g157_225 {d : Nat} {a0 a1 a2 a4 a5 a6 a7 : Option Value} {s0 : Int32} {s1 : Nat} {x : Int32} {lay : List mShp} {M : mMem} {P : mPost} : mG (d) 157 225 [a0, a1, a2, some (.int x), a4, a5, a6, a7] [.int s0, .ref s1] lay M P = mG d 157 226 [a0, a1, a2, some (.int x), a4, a5, a6, a7] [.int x, .int s0, .ref s1] lay M P := e_iload_n (i := 3) rfl rfl rfl
set_option maxRecDepth 20000 in
theorem g157_226 {d : Nat} {a0 a1 a2 a3 a4 a5 a6 a7 : Option Value} {s0 : Int32} {s1 : Int32} {s2 : Nat} {lay : List mShp} {M : mMem} {P : mPost} (hs : mSh lay s2 = some (0, 40)) : mG (d) 157 226 [a0, a1, a2, a3, a4, a5, a6, a7] [.int s0, .int s1, .ref s2] lay M P = (mIdx s1 40 = true ∧ mG d 157 227 [a0, a1, a2, a3, a4, a5, a6, a7] [] lay (mSetI M s2 s1.toNatClampNeg s0) P) := e_iastore rfl hs
set_option maxRecDepth 20000 in
theorem g157_227 {d : Nat} {a1 a2 a3 a4 a5 a6 a7 : Option Value} {x : Nat} {lay : List mShp} {M : mMem} {P : mPost} (hx : ¬ x = 0) : mG (d) 157 227 [some (.ref x), a1, a2, a3, a4, a5, a6, a7] [] lay M P = mG d 157 228 [some (.ref x), a1, a2, a3, a4, a5, a6, a7] [.ref x] lay M P := e_aload_nP hx (i := 0) rfl rfl rfl
set_option maxRecDepth 20000 in
theorem g157_228 {d : Nat} {a0 a1 a2 a3 a4 a5 a6 a7 : Option Value} {s0 : Nat} {lay : List mShp} {M : mMem} {P : mPost} : mG (d) 157 228 [a0, a1, a2, a3, a4, a5, a6, a7] [.ref s0] lay M P = mG d 157 229 [a0, a1, a2, a3, a4, a5, a6, a7] [.ref s0, .ref s0] lay M P := e_dupr rfl
set_option maxRecDepth 20000 in
theorem g157_229 {d : Nat} {a0 a1 a2 a3 a4 a5 a6 a7 : Option Value} {s0 : Nat} {s1 : Nat} {lay : List mShp} {M : mMem} {P : mPost} (hs : mSh lay s0 = some (13, 44)) : mG (d) 157 229 [a0, a1, a2, a3, a4, a5, a6, a7] [.ref s0, .ref s1] lay M P = mG d 157 232 [a0, a1, a2, a3, a4, a5, a6, a7] [.int (M.1 s0 6), .ref s1] lay M P := mG_of_and (mIsO_of hs (by decide)) (e_getI (ci := 10) (j := 6) rfl rfl rfl)
set_option maxRecDepth 20000 in
theorem g157_232 {d : Nat} {a0 a1 a2 a3 a4 a5 a6 a7 : Option Value} {s0 : Int32} {s1 : Nat} {lay : List mShp} {M : mMem} {P : mPost} : mG (d) 157 232 [a0, a1, a2, a3, a4, a5, a6, a7] [.int s0, .ref s1] lay M P = mG d 157 233 [a0, a1, a2, a3, a4, a5, a6, a7] [.int (Int32.ofInt 1), .int s0, .ref s1] lay M P := e_iconst rfl
set_option maxRecDepth 20000 in
theorem g157_233 {d : Nat} {a0 a1 a2 a3 a4 a5 a6 a7 : Option Value} {s0 : Int32} {s1 : Int32} {s2 : Nat} {lay : List mShp} {M : mMem} {P : mPost} : mG (d) 157 233 [a0, a1, a2, a3, a4, a5, a6, a7] [.int s0, .int s1, .ref s2] lay M P = mG d 157 234 [a0, a1, a2, a3, a4, a5, a6, a7] [.int (s1 + s0), .ref s2] lay M P := e_iadd rfl
set_option maxRecDepth 20000 in
theorem g157_234 {d : Nat} {a0 a1 a2 a3 a4 a5 a6 a7 : Option Value} {s0 : Int32} {s1 : Nat} {lay : List mShp} {M : mMem} {P : mPost} (hs : mSh lay s1 = some (13, 44)) : mG (d) 157 234 [a0, a1, a2, a3, a4, a5, a6, a7] [.int s0, .ref s1] lay M P = mG d 157 237 [a0, a1, a2, a3, a4, a5, a6, a7] [] lay (mSetI M s1 6 s0) P := mG_of_and (mIsO_of hs (by decide)) (e_putI (ci := 10) (j := 6) rfl rfl (Or.inl rfl) rfl)
set_option maxRecDepth 20000 in
theorem g157_237 {d : Nat} {a1 a2 a3 a4 a5 a6 a7 : Option Value} {x : Nat} {lay : List mShp} {M : mMem} {P : mPost} (hx : ¬ x = 0) : mG (d) 157 237 [some (.ref x), a1, a2, a3, a4, a5, a6, a7] [] lay M P = mG d 157 238 [some (.ref x), a1, a2, a3, a4, a5, a6, a7] [.ref x] lay M P := e_aload_nP hx (i := 0) rfl rfl rfl
set_option maxRecDepth 20000 in
theorem g157_238 {d : Nat} {a1 a2 a3 a4 a5 a6 a7 : Option Value} {s0 : Nat} {x : Nat} {lay : List mShp} {M : mMem} {P : mPost} (hx : ¬ x = 0) : mG (d) 157 238 [some (.ref x), a1, a2, a3, a4, a5, a6, a7] [.ref s0] lay M P = mG d 157 239 [some (.ref x), a1, a2, a3, a4, a5, a6, a7] [.ref x, .ref s0] lay M P := e_aload_nP hx (i := 0) rfl rfl rfl
set_option maxRecDepth 20000 in
theorem g157_239 {d : Nat} {a0 a1 a2 a3 a4 a5 a6 a7 : Option Value} {s0 : Nat} {s1 : Nat} {lay : List mShp} {M : mMem} {P : mPost} (hs : mSh lay s0 = some (13, 44)) : mG (d) 157 239 [a0, a1, a2, a3, a4, a5, a6, a7] [.ref s0, .ref s1] lay M P = mG d 157 242 [a0, a1, a2, a3, a4, a5, a6, a7] [.int (M.1 s0 6), .ref s1] lay M P := mG_of_and (mIsO_of hs (by decide)) (e_getI (ci := 10) (j := 6) rfl rfl rfl)
set_option maxRecDepth 20000 in
theorem g157_242 {d : Nat} {a0 a1 a2 a3 a4 a5 a6 a7 : Option Value} {s0 : Int32} {s1 : Nat} {lay : List mShp} {M : mMem} {P : mPost} (hs : mSh lay s1 = some (13, 44)) : mG (d) 157 242 [a0, a1, a2, a3, a4, a5, a6, a7] [.int s0, .ref s1] lay M P = mG d 157 245 [a0, a1, a2, a3, a4, a5, a6, a7] [] lay (mSetI M s1 7 s0) P := mG_of_and (mIsO_of hs (by decide)) (e_putI (ci := 10) (j := 7) rfl rfl (Or.inl rfl) rfl)
set_option maxRecDepth 20000 in
theorem g157_245 {d : Nat} {a0 a1 a2 a3 a4 a5 a7 : Option Value} {x : Int32} {lay : List mShp} {M : mMem} {P : mPost} : mG (d) 157 245 [a0, a1, a2, a3, a4, a5, some (.int x), a7] [] lay M P = mG d 157 247 [a0, a1, a2, a3, a4, a5, some (.int x), a7] [.int x] lay M P := e_iload (i := 6) rfl rfl
set_option maxRecDepth 20000 in
theorem g157_247 {d : Nat} {a0 a1 a2 a3 a4 a5 a6 a7 : Option Value} {s0 : Int32} {lay : List mShp} {M : mMem} {P : mPost} : mG (d) 157 247 [a0, a1, a2, a3, a4, a5, a6, a7] [.int s0] lay M P = P (some (.int s0)) lay M := e_ireturnI rfl rfl
-- 158 X10_of
theorem g158_in {d : Nat} {x0 : Nat} {x1 : Int32} {x2 : Int32} {lay : List mShp} {M : mMem} {P : mPost} : mF d 158 [.ref x0, .int x1, .int x2] lay M P = mG d 158 0 [some (.ref x0), some (.int x1), some (.int x2), none] [] lay M P := mF_in rfl rfl
set_option maxRecDepth 20000 in
theorem g158_0 {d : Nat} {a1 a2 a3 : Option Value} {x : Nat} {lay : List mShp} {M : mMem} {P : mPost} (hx : ¬ x = 0) : mG (d) 158 0 [some (.ref x), a1, a2, a3] [] lay M P = mG d 158 1 [some (.ref x), a1, a2, a3] [.ref x] lay M P := e_aload_nP hx (i := 0) rfl rfl rfl
set_option maxRecDepth 20000 in
theorem g158_1 {d : Nat} {a0 a2 a3 : Option Value} {s0 : Nat} {x : Int32} {lay : List mShp} {M : mMem} {P : mPost} : mG (d) 158 1 [a0, some (.int x), a2, a3] [.ref s0] lay M P = mG d 158 2 [a0, some (.int x), a2, a3] [.int x, .ref s0] lay M P := e_iload_n (i := 1) rfl rfl rfl
set_option maxRecDepth 20000 in
theorem g158_2 {d : Nat} {a0 a1 a3 : Option Value} {s0 : Int32} {s1 : Nat} {x : Int32} {lay : List mShp} {M : mMem} {P : mPost} : mG (d) 158 2 [a0, a1, some (.int x), a3] [.int s0, .ref s1] lay M P = mG d 158 3 [a0, a1, some (.int x), a3] [.int x, .int s0, .ref s1] lay M P := e_iload_n (i := 2) rfl rfl rfl
set_option maxRecDepth 20000 in
theorem g158_3 {d : Nat} {a0 a1 a2 a3 : Option Value} {s0 : Int32} {s1 : Int32} {s2 : Nat} {lay : List mShp} {M : mMem} {P : mPost} (hs : mSh lay s2 = some (13, 44)) : mG (d + 1) 158 3 [a0, a1, a2, a3] [.int s0, .int s1, .ref s2] lay M P = mF d 156 [.ref s2, .int s1, .int s0] lay M (fun v lay1 M1 => mG (d + 1) 158 6 [a0, a1, a2, a3] (v.toList ++ []) lay1 M1 P) := e_virtP2 (j := 156) (c := 10) rfl rfl rfl rfl rfl rfl hs (Nat.le_of_ble_eq_true rfl)
set_option maxRecDepth 20000 in
theorem g158_6 {d : Nat} {a0 a1 a2 a3 : Option Value} {s0 : Int32} {lay : List mShp} {M : mMem} {P : mPost} (h0 : mNoL a2 = true) : mG (d) 158 6 [a0, a1, a2, a3] [.int s0] lay M P = mG d 158 7 [a0, a1, a2, some (.int s0)] [] lay M P := e_istore_n (i := 3) rfl rfl (by simp) (mS1_3 h0)
set_option maxRecDepth 20000 in
theorem g158_7 {d : Nat} {a0 a1 a2 : Option Value} {x : Int32} {lay : List mShp} {M : mMem} {P : mPost} : mG (d) 158 7 [a0, a1, a2, some (.int x)] [] lay M P = mG d 158 8 [a0, a1, a2, some (.int x)] [.int x] lay M P := e_iload_n (i := 3) rfl rfl rfl
set_option maxRecDepth 20000 in
theorem g158_8 {d : Nat} {a0 a1 a2 a3 : Option Value} {s0 : Int32} {lay : List mShp} {M : mMem} {P : mPost} : mG (d) 158 8 [a0, a1, a2, a3] [.int s0] lay M P = mG d 158 9 [a0, a1, a2, a3] [.int (Int32.ofInt (-1)), .int s0] lay M P := e_iconst rfl
set_option maxRecDepth 20000 in
theorem g158_9 {d : Nat} {a0 a1 a2 a3 : Option Value} {s0 : Int32} {s1 : Int32} {lay : List mShp} {M : mMem} {P : mPost} : mG (d) 158 9 [a0, a1, a2, a3] [.int s0, .int s1] lay M P = if s1 = s0 then mG d 158 12 [a0, a1, a2, a3] [] lay M P else mG d 158 17 [a0, a1, a2, a3] [] lay M P := e_icmp_ne rfl rfl
set_option maxRecDepth 20000 in
theorem g158_12 {d : Nat} {a0 a1 a2 a3 : Option Value} {lay : List mShp} {M : mMem} {P : mPost} : mG (d) 158 12 [a0, a1, a2, a3] [] lay M P = mG d 158 14 [a0, a1, a2, a3] [.int (Int32.ofInt (-2000000000))] lay M P := e_ldc rfl rfl
set_option maxRecDepth 20000 in
theorem g158_14 {d : Nat} {a0 a1 a2 a3 : Option Value} {s0 : Int32} {lay : List mShp} {M : mMem} {P : mPost} : mG (d) 158 14 [a0, a1, a2, a3] [.int s0] lay M P = mG d 158 23 [a0, a1, a2, a3] [.int s0] lay M P := e_goto rfl rfl
set_option maxRecDepth 20000 in
theorem g158_17 {d : Nat} {a1 a2 a3 : Option Value} {x : Nat} {lay : List mShp} {M : mMem} {P : mPost} (hx : ¬ x = 0) : mG (d) 158 17 [some (.ref x), a1, a2, a3] [] lay M P = mG d 158 18 [some (.ref x), a1, a2, a3] [.ref x] lay M P := e_aload_nP hx (i := 0) rfl rfl rfl
set_option maxRecDepth 20000 in
theorem g158_18 {d : Nat} {a0 a1 a2 a3 : Option Value} {s0 : Nat} {lay : List mShp} {M : mMem} {P : mPost} (hs : mSh lay s0 = some (13, 44)) : mG (d) 158 18 [a0, a1, a2, a3] [.ref s0] lay M P = mG d 158 21 [a0, a1, a2, a3] [.ref (M.2.2 s0 0)] lay M P := mG_of_and (mIsO_of hs (by decide)) (e_getA (ci := 10) (j := 0) rfl rfl rfl)
set_option maxRecDepth 20000 in
theorem g158_21 {d : Nat} {a0 a1 a2 : Option Value} {s0 : Nat} {x : Int32} {lay : List mShp} {M : mMem} {P : mPost} : mG (d) 158 21 [a0, a1, a2, some (.int x)] [.ref s0] lay M P = mG d 158 22 [a0, a1, a2, some (.int x)] [.int x, .ref s0] lay M P := e_iload_n (i := 3) rfl rfl rfl
set_option maxRecDepth 20000 in
theorem g158_22 {d : Nat} {a0 a1 a2 a3 : Option Value} {s0 : Int32} {s1 : Nat} {lay : List mShp} {M : mMem} {P : mPost} (hs : mSh lay s1 = some (0, 42)) : mG (d) 158 22 [a0, a1, a2, a3] [.int s0, .ref s1] lay M P = (mIdx s0 42 = true ∧ mG d 158 23 [a0, a1, a2, a3] [.int (M.1 s1 s0.toNatClampNeg)] lay M P) := e_iaload rfl hs
set_option maxRecDepth 20000 in
theorem g158_23 {d : Nat} {a0 a1 a2 a3 : Option Value} {s0 : Int32} {lay : List mShp} {M : mMem} {P : mPost} : mG (d) 158 23 [a0, a1, a2, a3] [.int s0] lay M P = P (some (.int s0)) lay M := e_ireturnI rfl rfl
-- 159 X10_undo
theorem g159_in {d : Nat} {x0 : Nat} {lay : List mShp} {M : mMem} {P : mPost} : mF d 159 [.ref x0] lay M P = mG d 159 0 [some (.ref x0)] [] lay M P := mF_in rfl rfl
set_option maxRecDepth 20000 in
theorem g159_0 {d : Nat}  {x : Nat} {lay : List mShp} {M : mMem} {P : mPost} (hx : ¬ x = 0) : mG (d) 159 0 [some (.ref x)] [] lay M P = mG d 159 1 [some (.ref x)] [.ref x] lay M P := e_aload_nP hx (i := 0) rfl rfl rfl
set_option maxRecDepth 20000 in
theorem g159_1 {d : Nat} {a0 : Option Value} {s0 : Nat} {lay : List mShp} {M : mMem} {P : mPost} (hs : mSh lay s0 = some (13, 44)) : mG (d) 159 1 [a0] [.ref s0] lay M P = mG d 159 4 [a0] [.int (M.1 s0 6)] lay M P := mG_of_and (mIsO_of hs (by decide)) (e_getI (ci := 10) (j := 6) rfl rfl rfl)
set_option maxRecDepth 20000 in
theorem g159_4 {d : Nat} {a0 : Option Value} {s0 : Int32} {lay : List mShp} {M : mMem} {P : mPost} : mG (d) 159 4 [a0] [.int s0] lay M P = if s0 = 0 then mG d 159 7 [a0] [] lay M P else mG d 159 10 [a0] [] lay M P := e_if_ne rfl rfl
set_option maxRecDepth 20000 in
theorem g159_7 {d : Nat} {a0 : Option Value} {lay : List mShp} {M : mMem} {P : mPost} : mG (d) 159 7 [a0] [] lay M P = mG d 159 9 [a0] [.int (Int32.ofInt (-5))] lay M P := e_bipush rfl
set_option maxRecDepth 20000 in
theorem g159_9 {d : Nat} {a0 : Option Value} {s0 : Int32} {lay : List mShp} {M : mMem} {P : mPost} : mG (d) 159 9 [a0] [.int s0] lay M P = P (some (.int s0)) lay M := e_ireturnI rfl rfl
set_option maxRecDepth 20000 in
theorem g159_10 {d : Nat}  {x : Nat} {lay : List mShp} {M : mMem} {P : mPost} (hx : ¬ x = 0) : mG (d) 159 10 [some (.ref x)] [] lay M P = mG d 159 11 [some (.ref x)] [.ref x] lay M P := e_aload_nP hx (i := 0) rfl rfl rfl
set_option maxRecDepth 20000 in
theorem g159_11 {d : Nat} {a0 : Option Value} {s0 : Nat} {lay : List mShp} {M : mMem} {P : mPost} : mG (d) 159 11 [a0] [.ref s0] lay M P = mG d 159 12 [a0] [.ref s0, .ref s0] lay M P := e_dupr rfl
set_option maxRecDepth 20000 in
theorem g159_12 {d : Nat} {a0 : Option Value} {s0 : Nat} {s1 : Nat} {lay : List mShp} {M : mMem} {P : mPost} (hs : mSh lay s0 = some (13, 44)) : mG (d) 159 12 [a0] [.ref s0, .ref s1] lay M P = mG d 159 15 [a0] [.int (M.1 s0 6), .ref s1] lay M P := mG_of_and (mIsO_of hs (by decide)) (e_getI (ci := 10) (j := 6) rfl rfl rfl)
set_option maxRecDepth 20000 in
theorem g159_15 {d : Nat} {a0 : Option Value} {s0 : Int32} {s1 : Nat} {lay : List mShp} {M : mMem} {P : mPost} : mG (d) 159 15 [a0] [.int s0, .ref s1] lay M P = mG d 159 16 [a0] [.int (Int32.ofInt 1), .int s0, .ref s1] lay M P := e_iconst rfl
set_option maxRecDepth 20000 in
theorem g159_16 {d : Nat} {a0 : Option Value} {s0 : Int32} {s1 : Int32} {s2 : Nat} {lay : List mShp} {M : mMem} {P : mPost} : mG (d) 159 16 [a0] [.int s0, .int s1, .ref s2] lay M P = mG d 159 17 [a0] [.int (s1 - s0), .ref s2] lay M P := e_isub rfl
set_option maxRecDepth 20000 in
theorem g159_17 {d : Nat} {a0 : Option Value} {s0 : Int32} {s1 : Nat} {lay : List mShp} {M : mMem} {P : mPost} (hs : mSh lay s1 = some (13, 44)) : mG (d) 159 17 [a0] [.int s0, .ref s1] lay M P = mG d 159 20 [a0] [] lay (mSetI M s1 6 s0) P := mG_of_and (mIsO_of hs (by decide)) (e_putI (ci := 10) (j := 6) rfl rfl (Or.inl rfl) rfl)
set_option maxRecDepth 20000 in
theorem g159_20 {d : Nat}  {x : Nat} {lay : List mShp} {M : mMem} {P : mPost} (hx : ¬ x = 0) : mG (d) 159 20 [some (.ref x)] [] lay M P = mG d 159 21 [some (.ref x)] [.ref x] lay M P := e_aload_nP hx (i := 0) rfl rfl rfl
set_option maxRecDepth 20000 in
theorem g159_21 {d : Nat} {a0 : Option Value} {s0 : Nat} {lay : List mShp} {M : mMem} {P : mPost} (hs : mSh lay s0 = some (13, 44)) : mG (d) 159 21 [a0] [.ref s0] lay M P = mG d 159 24 [a0] [.ref (M.2.2 s0 0)] lay M P := mG_of_and (mIsO_of hs (by decide)) (e_getA (ci := 10) (j := 0) rfl rfl rfl)
set_option maxRecDepth 20000 in
theorem g159_24 {d : Nat} {s0 : Nat} {x : Nat} {lay : List mShp} {M : mMem} {P : mPost} (hx : ¬ x = 0) : mG (d) 159 24 [some (.ref x)] [.ref s0] lay M P = mG d 159 25 [some (.ref x)] [.ref x, .ref s0] lay M P := e_aload_nP hx (i := 0) rfl rfl rfl
set_option maxRecDepth 20000 in
theorem g159_25 {d : Nat} {a0 : Option Value} {s0 : Nat} {s1 : Nat} {lay : List mShp} {M : mMem} {P : mPost} (hs : mSh lay s0 = some (13, 44)) : mG (d) 159 25 [a0] [.ref s0, .ref s1] lay M P = mG d 159 28 [a0] [.ref (M.2.2 s0 3), .ref s1] lay M P := mG_of_and (mIsO_of hs (by decide)) (e_getA (ci := 10) (j := 3) rfl rfl rfl)
set_option maxRecDepth 20000 in
theorem g159_28 {d : Nat} {s0 : Nat} {s1 : Nat} {x : Nat} {lay : List mShp} {M : mMem} {P : mPost} (hx : ¬ x = 0) : mG (d) 159 28 [some (.ref x)] [.ref s0, .ref s1] lay M P = mG d 159 29 [some (.ref x)] [.ref x, .ref s0, .ref s1] lay M P := e_aload_nP hx (i := 0) rfl rfl rfl
set_option maxRecDepth 20000 in
theorem g159_29 {d : Nat} {a0 : Option Value} {s0 : Nat} {s1 : Nat} {s2 : Nat} {lay : List mShp} {M : mMem} {P : mPost} (hs : mSh lay s0 = some (13, 44)) : mG (d) 159 29 [a0] [.ref s0, .ref s1, .ref s2] lay M P = mG d 159 32 [a0] [.int (M.1 s0 6), .ref s1, .ref s2] lay M P := mG_of_and (mIsO_of hs (by decide)) (e_getI (ci := 10) (j := 6) rfl rfl rfl)
set_option maxRecDepth 20000 in
theorem g159_32 {d : Nat} {a0 : Option Value} {s0 : Int32} {s1 : Nat} {s2 : Nat} {lay : List mShp} {M : mMem} {P : mPost} (hs : mSh lay s1 = some (0, 40)) : mG (d) 159 32 [a0] [.int s0, .ref s1, .ref s2] lay M P = (mIdx s0 40 = true ∧ mG d 159 33 [a0] [.int (M.1 s1 s0.toNatClampNeg), .ref s2] lay M P) := e_iaload rfl hs
set_option maxRecDepth 20000 in
theorem g159_33 {d : Nat} {s0 : Int32} {s1 : Nat} {x : Nat} {lay : List mShp} {M : mMem} {P : mPost} (hx : ¬ x = 0) : mG (d) 159 33 [some (.ref x)] [.int s0, .ref s1] lay M P = mG d 159 34 [some (.ref x)] [.ref x, .int s0, .ref s1] lay M P := e_aload_nP hx (i := 0) rfl rfl rfl
set_option maxRecDepth 20000 in
theorem g159_34 {d : Nat} {a0 : Option Value} {s0 : Nat} {s1 : Int32} {s2 : Nat} {lay : List mShp} {M : mMem} {P : mPost} (hs : mSh lay s0 = some (13, 44)) : mG (d) 159 34 [a0] [.ref s0, .int s1, .ref s2] lay M P = mG d 159 37 [a0] [.ref (M.2.2 s0 4), .int s1, .ref s2] lay M P := mG_of_and (mIsO_of hs (by decide)) (e_getA (ci := 10) (j := 4) rfl rfl rfl)
set_option maxRecDepth 20000 in
theorem g159_37 {d : Nat} {s0 : Nat} {s1 : Int32} {s2 : Nat} {x : Nat} {lay : List mShp} {M : mMem} {P : mPost} (hx : ¬ x = 0) : mG (d) 159 37 [some (.ref x)] [.ref s0, .int s1, .ref s2] lay M P = mG d 159 38 [some (.ref x)] [.ref x, .ref s0, .int s1, .ref s2] lay M P := e_aload_nP hx (i := 0) rfl rfl rfl
set_option maxRecDepth 20000 in
theorem g159_38 {d : Nat} {a0 : Option Value} {s0 : Nat} {s1 : Nat} {s2 : Int32} {s3 : Nat} {lay : List mShp} {M : mMem} {P : mPost} (hs : mSh lay s0 = some (13, 44)) : mG (d) 159 38 [a0] [.ref s0, .ref s1, .int s2, .ref s3] lay M P = mG d 159 41 [a0] [.int (M.1 s0 6), .ref s1, .int s2, .ref s3] lay M P := mG_of_and (mIsO_of hs (by decide)) (e_getI (ci := 10) (j := 6) rfl rfl rfl)
set_option maxRecDepth 20000 in
theorem g159_41 {d : Nat} {a0 : Option Value} {s0 : Int32} {s1 : Nat} {s2 : Int32} {s3 : Nat} {lay : List mShp} {M : mMem} {P : mPost} (hs : mSh lay s1 = some (0, 40)) : mG (d) 159 41 [a0] [.int s0, .ref s1, .int s2, .ref s3] lay M P = (mIdx s0 40 = true ∧ mG d 159 42 [a0] [.int (M.1 s1 s0.toNatClampNeg), .int s2, .ref s3] lay M P) := e_iaload rfl hs
set_option maxRecDepth 20000 in
theorem g159_42 {d : Nat} {a0 : Option Value} {s0 : Int32} {s1 : Int32} {s2 : Nat} {lay : List mShp} {M : mMem} {P : mPost} (hs : mSh lay s2 = some (0, 42)) : mG (d) 159 42 [a0] [.int s0, .int s1, .ref s2] lay M P = (mIdx s1 42 = true ∧ mG d 159 43 [a0] [] lay (mSetI M s2 s1.toNatClampNeg s0) P) := e_iastore rfl hs
set_option maxRecDepth 20000 in
theorem g159_43 {d : Nat}  {x : Nat} {lay : List mShp} {M : mMem} {P : mPost} (hx : ¬ x = 0) : mG (d) 159 43 [some (.ref x)] [] lay M P = mG d 159 44 [some (.ref x)] [.ref x] lay M P := e_aload_nP hx (i := 0) rfl rfl rfl
set_option maxRecDepth 20000 in
theorem g159_44 {d : Nat} {a0 : Option Value} {s0 : Nat} {lay : List mShp} {M : mMem} {P : mPost} (hs : mSh lay s0 = some (13, 44)) : mG (d) 159 44 [a0] [.ref s0] lay M P = mG d 159 47 [a0] [.int (M.1 s0 6)] lay M P := mG_of_and (mIsO_of hs (by decide)) (e_getI (ci := 10) (j := 6) rfl rfl rfl)
set_option maxRecDepth 20000 in
theorem g159_47 {d : Nat} {a0 : Option Value} {s0 : Int32} {lay : List mShp} {M : mMem} {P : mPost} : mG (d) 159 47 [a0] [.int s0] lay M P = P (some (.int s0)) lay M := e_ireturnI rfl rfl
-- 160 X10_redo
theorem g160_in {d : Nat} {x0 : Nat} {lay : List mShp} {M : mMem} {P : mPost} : mF d 160 [.ref x0] lay M P = mG d 160 0 [some (.ref x0)] [] lay M P := mF_in rfl rfl
set_option maxRecDepth 20000 in
theorem g160_0 {d : Nat}  {x : Nat} {lay : List mShp} {M : mMem} {P : mPost} (hx : ¬ x = 0) : mG (d) 160 0 [some (.ref x)] [] lay M P = mG d 160 1 [some (.ref x)] [.ref x] lay M P := e_aload_nP hx (i := 0) rfl rfl rfl
set_option maxRecDepth 20000 in
theorem g160_1 {d : Nat} {a0 : Option Value} {s0 : Nat} {lay : List mShp} {M : mMem} {P : mPost} (hs : mSh lay s0 = some (13, 44)) : mG (d) 160 1 [a0] [.ref s0] lay M P = mG d 160 4 [a0] [.int (M.1 s0 6)] lay M P := mG_of_and (mIsO_of hs (by decide)) (e_getI (ci := 10) (j := 6) rfl rfl rfl)
set_option maxRecDepth 20000 in
theorem g160_4 {d : Nat} {s0 : Int32} {x : Nat} {lay : List mShp} {M : mMem} {P : mPost} (hx : ¬ x = 0) : mG (d) 160 4 [some (.ref x)] [.int s0] lay M P = mG d 160 5 [some (.ref x)] [.ref x, .int s0] lay M P := e_aload_nP hx (i := 0) rfl rfl rfl
set_option maxRecDepth 20000 in
theorem g160_5 {d : Nat} {a0 : Option Value} {s0 : Nat} {s1 : Int32} {lay : List mShp} {M : mMem} {P : mPost} (hs : mSh lay s0 = some (13, 44)) : mG (d) 160 5 [a0] [.ref s0, .int s1] lay M P = mG d 160 8 [a0] [.int (M.1 s0 7), .int s1] lay M P := mG_of_and (mIsO_of hs (by decide)) (e_getI (ci := 10) (j := 7) rfl rfl rfl)
set_option maxRecDepth 20000 in
theorem g160_8 {d : Nat} {a0 : Option Value} {s0 : Int32} {s1 : Int32} {lay : List mShp} {M : mMem} {P : mPost} : mG (d) 160 8 [a0] [.int s0, .int s1] lay M P = if s1 = s0 then mG d 160 11 [a0] [] lay M P else mG d 160 14 [a0] [] lay M P := e_icmp_ne rfl rfl
set_option maxRecDepth 20000 in
theorem g160_11 {d : Nat} {a0 : Option Value} {lay : List mShp} {M : mMem} {P : mPost} : mG (d) 160 11 [a0] [] lay M P = mG d 160 13 [a0] [.int (Int32.ofInt (-5))] lay M P := e_bipush rfl
set_option maxRecDepth 20000 in
theorem g160_13 {d : Nat} {a0 : Option Value} {s0 : Int32} {lay : List mShp} {M : mMem} {P : mPost} : mG (d) 160 13 [a0] [.int s0] lay M P = P (some (.int s0)) lay M := e_ireturnI rfl rfl
set_option maxRecDepth 20000 in
theorem g160_14 {d : Nat}  {x : Nat} {lay : List mShp} {M : mMem} {P : mPost} (hx : ¬ x = 0) : mG (d) 160 14 [some (.ref x)] [] lay M P = mG d 160 15 [some (.ref x)] [.ref x] lay M P := e_aload_nP hx (i := 0) rfl rfl rfl
set_option maxRecDepth 20000 in
theorem g160_15 {d : Nat} {a0 : Option Value} {s0 : Nat} {lay : List mShp} {M : mMem} {P : mPost} (hs : mSh lay s0 = some (13, 44)) : mG (d) 160 15 [a0] [.ref s0] lay M P = mG d 160 18 [a0] [.ref (M.2.2 s0 0)] lay M P := mG_of_and (mIsO_of hs (by decide)) (e_getA (ci := 10) (j := 0) rfl rfl rfl)
set_option maxRecDepth 20000 in
theorem g160_18 {d : Nat} {s0 : Nat} {x : Nat} {lay : List mShp} {M : mMem} {P : mPost} (hx : ¬ x = 0) : mG (d) 160 18 [some (.ref x)] [.ref s0] lay M P = mG d 160 19 [some (.ref x)] [.ref x, .ref s0] lay M P := e_aload_nP hx (i := 0) rfl rfl rfl
set_option maxRecDepth 20000 in
theorem g160_19 {d : Nat} {a0 : Option Value} {s0 : Nat} {s1 : Nat} {lay : List mShp} {M : mMem} {P : mPost} (hs : mSh lay s0 = some (13, 44)) : mG (d) 160 19 [a0] [.ref s0, .ref s1] lay M P = mG d 160 22 [a0] [.ref (M.2.2 s0 3), .ref s1] lay M P := mG_of_and (mIsO_of hs (by decide)) (e_getA (ci := 10) (j := 3) rfl rfl rfl)
set_option maxRecDepth 20000 in
theorem g160_22 {d : Nat} {s0 : Nat} {s1 : Nat} {x : Nat} {lay : List mShp} {M : mMem} {P : mPost} (hx : ¬ x = 0) : mG (d) 160 22 [some (.ref x)] [.ref s0, .ref s1] lay M P = mG d 160 23 [some (.ref x)] [.ref x, .ref s0, .ref s1] lay M P := e_aload_nP hx (i := 0) rfl rfl rfl
set_option maxRecDepth 20000 in
theorem g160_23 {d : Nat} {a0 : Option Value} {s0 : Nat} {s1 : Nat} {s2 : Nat} {lay : List mShp} {M : mMem} {P : mPost} (hs : mSh lay s0 = some (13, 44)) : mG (d) 160 23 [a0] [.ref s0, .ref s1, .ref s2] lay M P = mG d 160 26 [a0] [.int (M.1 s0 6), .ref s1, .ref s2] lay M P := mG_of_and (mIsO_of hs (by decide)) (e_getI (ci := 10) (j := 6) rfl rfl rfl)
set_option maxRecDepth 20000 in
theorem g160_26 {d : Nat} {a0 : Option Value} {s0 : Int32} {s1 : Nat} {s2 : Nat} {lay : List mShp} {M : mMem} {P : mPost} (hs : mSh lay s1 = some (0, 40)) : mG (d) 160 26 [a0] [.int s0, .ref s1, .ref s2] lay M P = (mIdx s0 40 = true ∧ mG d 160 27 [a0] [.int (M.1 s1 s0.toNatClampNeg), .ref s2] lay M P) := e_iaload rfl hs
set_option maxRecDepth 20000 in
theorem g160_27 {d : Nat} {s0 : Int32} {s1 : Nat} {x : Nat} {lay : List mShp} {M : mMem} {P : mPost} (hx : ¬ x = 0) : mG (d) 160 27 [some (.ref x)] [.int s0, .ref s1] lay M P = mG d 160 28 [some (.ref x)] [.ref x, .int s0, .ref s1] lay M P := e_aload_nP hx (i := 0) rfl rfl rfl
set_option maxRecDepth 20000 in
theorem g160_28 {d : Nat} {a0 : Option Value} {s0 : Nat} {s1 : Int32} {s2 : Nat} {lay : List mShp} {M : mMem} {P : mPost} (hs : mSh lay s0 = some (13, 44)) : mG (d) 160 28 [a0] [.ref s0, .int s1, .ref s2] lay M P = mG d 160 31 [a0] [.ref (M.2.2 s0 5), .int s1, .ref s2] lay M P := mG_of_and (mIsO_of hs (by decide)) (e_getA (ci := 10) (j := 5) rfl rfl rfl)
set_option maxRecDepth 20000 in
theorem g160_31 {d : Nat} {s0 : Nat} {s1 : Int32} {s2 : Nat} {x : Nat} {lay : List mShp} {M : mMem} {P : mPost} (hx : ¬ x = 0) : mG (d) 160 31 [some (.ref x)] [.ref s0, .int s1, .ref s2] lay M P = mG d 160 32 [some (.ref x)] [.ref x, .ref s0, .int s1, .ref s2] lay M P := e_aload_nP hx (i := 0) rfl rfl rfl
set_option maxRecDepth 20000 in
theorem g160_32 {d : Nat} {a0 : Option Value} {s0 : Nat} {s1 : Nat} {s2 : Int32} {s3 : Nat} {lay : List mShp} {M : mMem} {P : mPost} (hs : mSh lay s0 = some (13, 44)) : mG (d) 160 32 [a0] [.ref s0, .ref s1, .int s2, .ref s3] lay M P = mG d 160 35 [a0] [.int (M.1 s0 6), .ref s1, .int s2, .ref s3] lay M P := mG_of_and (mIsO_of hs (by decide)) (e_getI (ci := 10) (j := 6) rfl rfl rfl)
set_option maxRecDepth 20000 in
theorem g160_35 {d : Nat} {a0 : Option Value} {s0 : Int32} {s1 : Nat} {s2 : Int32} {s3 : Nat} {lay : List mShp} {M : mMem} {P : mPost} (hs : mSh lay s1 = some (0, 40)) : mG (d) 160 35 [a0] [.int s0, .ref s1, .int s2, .ref s3] lay M P = (mIdx s0 40 = true ∧ mG d 160 36 [a0] [.int (M.1 s1 s0.toNatClampNeg), .int s2, .ref s3] lay M P) := e_iaload rfl hs
set_option maxRecDepth 20000 in
theorem g160_36 {d : Nat} {a0 : Option Value} {s0 : Int32} {s1 : Int32} {s2 : Nat} {lay : List mShp} {M : mMem} {P : mPost} (hs : mSh lay s2 = some (0, 42)) : mG (d) 160 36 [a0] [.int s0, .int s1, .ref s2] lay M P = (mIdx s1 42 = true ∧ mG d 160 37 [a0] [] lay (mSetI M s2 s1.toNatClampNeg s0) P) := e_iastore rfl hs
set_option maxRecDepth 20000 in
theorem g160_37 {d : Nat}  {x : Nat} {lay : List mShp} {M : mMem} {P : mPost} (hx : ¬ x = 0) : mG (d) 160 37 [some (.ref x)] [] lay M P = mG d 160 38 [some (.ref x)] [.ref x] lay M P := e_aload_nP hx (i := 0) rfl rfl rfl
set_option maxRecDepth 20000 in
theorem g160_38 {d : Nat} {a0 : Option Value} {s0 : Nat} {lay : List mShp} {M : mMem} {P : mPost} : mG (d) 160 38 [a0] [.ref s0] lay M P = mG d 160 39 [a0] [.ref s0, .ref s0] lay M P := e_dupr rfl
set_option maxRecDepth 20000 in
theorem g160_39 {d : Nat} {a0 : Option Value} {s0 : Nat} {s1 : Nat} {lay : List mShp} {M : mMem} {P : mPost} (hs : mSh lay s0 = some (13, 44)) : mG (d) 160 39 [a0] [.ref s0, .ref s1] lay M P = mG d 160 42 [a0] [.int (M.1 s0 6), .ref s1] lay M P := mG_of_and (mIsO_of hs (by decide)) (e_getI (ci := 10) (j := 6) rfl rfl rfl)
set_option maxRecDepth 20000 in
theorem g160_42 {d : Nat} {a0 : Option Value} {s0 : Int32} {s1 : Nat} {lay : List mShp} {M : mMem} {P : mPost} : mG (d) 160 42 [a0] [.int s0, .ref s1] lay M P = mG d 160 43 [a0] [.int (Int32.ofInt 1), .int s0, .ref s1] lay M P := e_iconst rfl
set_option maxRecDepth 20000 in
theorem g160_43 {d : Nat} {a0 : Option Value} {s0 : Int32} {s1 : Int32} {s2 : Nat} {lay : List mShp} {M : mMem} {P : mPost} : mG (d) 160 43 [a0] [.int s0, .int s1, .ref s2] lay M P = mG d 160 44 [a0] [.int (s1 + s0), .ref s2] lay M P := e_iadd rfl
set_option maxRecDepth 20000 in
theorem g160_44 {d : Nat} {a0 : Option Value} {s0 : Int32} {s1 : Nat} {lay : List mShp} {M : mMem} {P : mPost} (hs : mSh lay s1 = some (13, 44)) : mG (d) 160 44 [a0] [.int s0, .ref s1] lay M P = mG d 160 47 [a0] [] lay (mSetI M s1 6 s0) P := mG_of_and (mIsO_of hs (by decide)) (e_putI (ci := 10) (j := 6) rfl rfl (Or.inl rfl) rfl)
set_option maxRecDepth 20000 in
theorem g160_47 {d : Nat}  {x : Nat} {lay : List mShp} {M : mMem} {P : mPost} (hx : ¬ x = 0) : mG (d) 160 47 [some (.ref x)] [] lay M P = mG d 160 48 [some (.ref x)] [.ref x] lay M P := e_aload_nP hx (i := 0) rfl rfl rfl
set_option maxRecDepth 20000 in
theorem g160_48 {d : Nat} {a0 : Option Value} {s0 : Nat} {lay : List mShp} {M : mMem} {P : mPost} (hs : mSh lay s0 = some (13, 44)) : mG (d) 160 48 [a0] [.ref s0] lay M P = mG d 160 51 [a0] [.int (M.1 s0 7)] lay M P := mG_of_and (mIsO_of hs (by decide)) (e_getI (ci := 10) (j := 7) rfl rfl rfl)
set_option maxRecDepth 20000 in
theorem g160_51 {d : Nat} {s0 : Int32} {x : Nat} {lay : List mShp} {M : mMem} {P : mPost} (hx : ¬ x = 0) : mG (d) 160 51 [some (.ref x)] [.int s0] lay M P = mG d 160 52 [some (.ref x)] [.ref x, .int s0] lay M P := e_aload_nP hx (i := 0) rfl rfl rfl
set_option maxRecDepth 20000 in
theorem g160_52 {d : Nat} {a0 : Option Value} {s0 : Nat} {s1 : Int32} {lay : List mShp} {M : mMem} {P : mPost} (hs : mSh lay s0 = some (13, 44)) : mG (d) 160 52 [a0] [.ref s0, .int s1] lay M P = mG d 160 55 [a0] [.int (M.1 s0 6), .int s1] lay M P := mG_of_and (mIsO_of hs (by decide)) (e_getI (ci := 10) (j := 6) rfl rfl rfl)
set_option maxRecDepth 20000 in
theorem g160_55 {d : Nat} {a0 : Option Value} {s0 : Int32} {s1 : Int32} {lay : List mShp} {M : mMem} {P : mPost} : mG (d) 160 55 [a0] [.int s0, .int s1] lay M P = mG d 160 56 [a0] [.int (s1 - s0)] lay M P := e_isub rfl
set_option maxRecDepth 20000 in
theorem g160_56 {d : Nat} {a0 : Option Value} {s0 : Int32} {lay : List mShp} {M : mMem} {P : mPost} : mG (d) 160 56 [a0] [.int s0] lay M P = P (some (.int s0)) lay M := e_ireturnI rfl rfl
-- 161 X10_feed
theorem g161_in {d : Nat} {x0 : Nat} {x1 : Int32} {lay : List mShp} {M : mMem} {P : mPost} : mF d 161 [.ref x0, .int x1] lay M P = mG d 161 0 [some (.ref x0), some (.int x1)] [] lay M P := mF_in rfl rfl
set_option maxRecDepth 20000 in
theorem g161_0 {d : Nat} {a0 : Option Value} {x : Int32} {lay : List mShp} {M : mMem} {P : mPost} : mG (d) 161 0 [a0, some (.int x)] [] lay M P = mG d 161 1 [a0, some (.int x)] [.int x] lay M P := e_iload_n (i := 1) rfl rfl rfl
set_option maxRecDepth 20000 in
theorem g161_1 {d : Nat} {a0 a1 : Option Value} {s0 : Int32} {lay : List mShp} {M : mMem} {P : mPost} : mG (d) 161 1 [a0, a1] [.int s0] lay M P = mG d 161 2 [a0, a1] [.int (Int32.ofInt 0), .int s0] lay M P := e_iconst rfl
set_option maxRecDepth 20000 in
theorem g161_2 {d : Nat} {a0 a1 : Option Value} {s0 : Int32} {s1 : Int32} {lay : List mShp} {M : mMem} {P : mPost} : mG (d) 161 2 [a0, a1] [.int s0, .int s1] lay M P = mG d 161 5 [a0, a1] [.int (Int32.ofInt 255), .int s0, .int s1] lay M P := e_sipush rfl
set_option maxRecDepth 20000 in
theorem g161_5 {d : Nat} {a0 a1 : Option Value} {s0 : Int32} {s1 : Int32} {s2 : Int32} {lay : List mShp} {M : mMem} {P : mPost} : mG (d + 1) 161 5 [a0, a1] [.int s0, .int s1, .int s2] lay M P = mF d 146 [.int s2, .int s1, .int s0] lay M (fun v lay1 M1 => mG (d + 1) 161 8 [a0, a1] (v.toList ++ []) lay1 M1 P) := e_static3 (j := 146) rfl rfl rfl rfl rfl (Nat.le_of_ble_eq_true rfl)
set_option maxRecDepth 20000 in
theorem g161_8 {d : Nat} {a0 a1 : Option Value} {s0 : Int32} {lay : List mShp} {M : mMem} {P : mPost} : mG (d) 161 8 [a0, a1] [.int s0] lay M P = if s0 = 0 then mG d 161 11 [a0, a1] [] lay M P else mG d 161 13 [a0, a1] [] lay M P := e_if_ne rfl rfl
set_option maxRecDepth 20000 in
theorem g161_11 {d : Nat} {a0 a1 : Option Value} {lay : List mShp} {M : mMem} {P : mPost} : mG (d) 161 11 [a0, a1] [] lay M P = mG d 161 12 [a0, a1] [.int (Int32.ofInt (-1))] lay M P := e_iconst rfl
set_option maxRecDepth 20000 in
theorem g161_12 {d : Nat} {a0 a1 : Option Value} {s0 : Int32} {lay : List mShp} {M : mMem} {P : mPost} : mG (d) 161 12 [a0, a1] [.int s0] lay M P = P (some (.int s0)) lay M := e_ireturnI rfl rfl
set_option maxRecDepth 20000 in
theorem g161_13 {d : Nat} {a1 : Option Value} {x : Nat} {lay : List mShp} {M : mMem} {P : mPost} (hx : ¬ x = 0) : mG (d) 161 13 [some (.ref x), a1] [] lay M P = mG d 161 14 [some (.ref x), a1] [.ref x] lay M P := e_aload_nP hx (i := 0) rfl rfl rfl
set_option maxRecDepth 20000 in
theorem g161_14 {d : Nat} {a0 a1 : Option Value} {s0 : Nat} {lay : List mShp} {M : mMem} {P : mPost} (hs : mSh lay s0 = some (13, 44)) : mG (d) 161 14 [a0, a1] [.ref s0] lay M P = mG d 161 17 [a0, a1] [.int (M.1 s0 9)] lay M P := mG_of_and (mIsO_of hs (by decide)) (e_getI (ci := 10) (j := 9) rfl rfl rfl)
set_option maxRecDepth 20000 in
theorem g161_17 {d : Nat} {a0 a1 : Option Value} {s0 : Int32} {lay : List mShp} {M : mMem} {P : mPost} : mG (d) 161 17 [a0, a1] [.int s0] lay M P = mG d 161 19 [a0, a1] [.int (Int32.ofInt 120), .int s0] lay M P := e_bipush rfl
set_option maxRecDepth 20000 in
theorem g161_19 {d : Nat} {a0 a1 : Option Value} {s0 : Int32} {s1 : Int32} {lay : List mShp} {M : mMem} {P : mPost} : mG (d) 161 19 [a0, a1] [.int s0, .int s1] lay M P = if s1 = s0 then mG d 161 22 [a0, a1] [] lay M P else mG d 161 25 [a0, a1] [] lay M P := e_icmp_ne rfl rfl
set_option maxRecDepth 20000 in
theorem g161_22 {d : Nat} {a0 a1 : Option Value} {lay : List mShp} {M : mMem} {P : mPost} : mG (d) 161 22 [a0, a1] [] lay M P = mG d 161 24 [a0, a1] [.int (Int32.ofInt (-3))] lay M P := e_bipush rfl
set_option maxRecDepth 20000 in
theorem g161_24 {d : Nat} {a0 a1 : Option Value} {s0 : Int32} {lay : List mShp} {M : mMem} {P : mPost} : mG (d) 161 24 [a0, a1] [.int s0] lay M P = P (some (.int s0)) lay M := e_ireturnI rfl rfl
set_option maxRecDepth 20000 in
theorem g161_25 {d : Nat} {a1 : Option Value} {x : Nat} {lay : List mShp} {M : mMem} {P : mPost} (hx : ¬ x = 0) : mG (d) 161 25 [some (.ref x), a1] [] lay M P = mG d 161 26 [some (.ref x), a1] [.ref x] lay M P := e_aload_nP hx (i := 0) rfl rfl rfl
set_option maxRecDepth 20000 in
theorem g161_26 {d : Nat} {a0 a1 : Option Value} {s0 : Nat} {lay : List mShp} {M : mMem} {P : mPost} (hs : mSh lay s0 = some (13, 44)) : mG (d) 161 26 [a0, a1] [.ref s0] lay M P = mG d 161 29 [a0, a1] [.ref (M.2.2 s0 8)] lay M P := mG_of_and (mIsO_of hs (by decide)) (e_getA (ci := 10) (j := 8) rfl rfl rfl)
set_option maxRecDepth 20000 in
theorem g161_29 {d : Nat} {a1 : Option Value} {s0 : Nat} {x : Nat} {lay : List mShp} {M : mMem} {P : mPost} (hx : ¬ x = 0) : mG (d) 161 29 [some (.ref x), a1] [.ref s0] lay M P = mG d 161 30 [some (.ref x), a1] [.ref x, .ref s0] lay M P := e_aload_nP hx (i := 0) rfl rfl rfl
set_option maxRecDepth 20000 in
theorem g161_30 {d : Nat} {a0 a1 : Option Value} {s0 : Nat} {s1 : Nat} {lay : List mShp} {M : mMem} {P : mPost} (hs : mSh lay s0 = some (13, 44)) : mG (d) 161 30 [a0, a1] [.ref s0, .ref s1] lay M P = mG d 161 33 [a0, a1] [.int (M.1 s0 9), .ref s1] lay M P := mG_of_and (mIsO_of hs (by decide)) (e_getI (ci := 10) (j := 9) rfl rfl rfl)
set_option maxRecDepth 20000 in
theorem g161_33 {d : Nat} {a0 : Option Value} {s0 : Int32} {s1 : Nat} {x : Int32} {lay : List mShp} {M : mMem} {P : mPost} : mG (d) 161 33 [a0, some (.int x)] [.int s0, .ref s1] lay M P = mG d 161 34 [a0, some (.int x)] [.int x, .int s0, .ref s1] lay M P := e_iload_n (i := 1) rfl rfl rfl
set_option maxRecDepth 20000 in
theorem g161_34 {d : Nat} {a0 a1 : Option Value} {s0 : Int32} {s1 : Int32} {s2 : Nat} {lay : List mShp} {M : mMem} {P : mPost} (hs : mSh lay s2 = some (0, 120)) : mG (d) 161 34 [a0, a1] [.int s0, .int s1, .ref s2] lay M P = (mIdx s1 120 = true ∧ mG d 161 35 [a0, a1] [] lay (mSetI M s2 s1.toNatClampNeg s0) P) := e_iastore rfl hs
set_option maxRecDepth 20000 in
theorem g161_35 {d : Nat} {a1 : Option Value} {x : Nat} {lay : List mShp} {M : mMem} {P : mPost} (hx : ¬ x = 0) : mG (d) 161 35 [some (.ref x), a1] [] lay M P = mG d 161 36 [some (.ref x), a1] [.ref x] lay M P := e_aload_nP hx (i := 0) rfl rfl rfl
set_option maxRecDepth 20000 in
theorem g161_36 {d : Nat} {a0 a1 : Option Value} {s0 : Nat} {lay : List mShp} {M : mMem} {P : mPost} : mG (d) 161 36 [a0, a1] [.ref s0] lay M P = mG d 161 37 [a0, a1] [.ref s0, .ref s0] lay M P := e_dupr rfl
set_option maxRecDepth 20000 in
theorem g161_37 {d : Nat} {a0 a1 : Option Value} {s0 : Nat} {s1 : Nat} {lay : List mShp} {M : mMem} {P : mPost} (hs : mSh lay s0 = some (13, 44)) : mG (d) 161 37 [a0, a1] [.ref s0, .ref s1] lay M P = mG d 161 40 [a0, a1] [.int (M.1 s0 9), .ref s1] lay M P := mG_of_and (mIsO_of hs (by decide)) (e_getI (ci := 10) (j := 9) rfl rfl rfl)
set_option maxRecDepth 20000 in
theorem g161_40 {d : Nat} {a0 a1 : Option Value} {s0 : Int32} {s1 : Nat} {lay : List mShp} {M : mMem} {P : mPost} : mG (d) 161 40 [a0, a1] [.int s0, .ref s1] lay M P = mG d 161 41 [a0, a1] [.int (Int32.ofInt 1), .int s0, .ref s1] lay M P := e_iconst rfl
set_option maxRecDepth 20000 in
theorem g161_41 {d : Nat} {a0 a1 : Option Value} {s0 : Int32} {s1 : Int32} {s2 : Nat} {lay : List mShp} {M : mMem} {P : mPost} : mG (d) 161 41 [a0, a1] [.int s0, .int s1, .ref s2] lay M P = mG d 161 42 [a0, a1] [.int (s1 + s0), .ref s2] lay M P := e_iadd rfl
set_option maxRecDepth 20000 in
theorem g161_42 {d : Nat} {a0 a1 : Option Value} {s0 : Int32} {s1 : Nat} {lay : List mShp} {M : mMem} {P : mPost} (hs : mSh lay s1 = some (13, 44)) : mG (d) 161 42 [a0, a1] [.int s0, .ref s1] lay M P = mG d 161 45 [a0, a1] [] lay (mSetI M s1 9 s0) P := mG_of_and (mIsO_of hs (by decide)) (e_putI (ci := 10) (j := 9) rfl rfl (Or.inl rfl) rfl)
set_option maxRecDepth 20000 in
theorem g161_45 {d : Nat} {a1 : Option Value} {x : Nat} {lay : List mShp} {M : mMem} {P : mPost} (hx : ¬ x = 0) : mG (d) 161 45 [some (.ref x), a1] [] lay M P = mG d 161 46 [some (.ref x), a1] [.ref x] lay M P := e_aload_nP hx (i := 0) rfl rfl rfl
set_option maxRecDepth 20000 in
theorem g161_46 {d : Nat} {a0 a1 : Option Value} {s0 : Nat} {lay : List mShp} {M : mMem} {P : mPost} (hs : mSh lay s0 = some (13, 44)) : mG (d) 161 46 [a0, a1] [.ref s0] lay M P = mG d 161 49 [a0, a1] [.int (M.1 s0 9)] lay M P := mG_of_and (mIsO_of hs (by decide)) (e_getI (ci := 10) (j := 9) rfl rfl rfl)
set_option maxRecDepth 20000 in
theorem g161_49 {d : Nat} {a0 a1 : Option Value} {s0 : Int32} {lay : List mShp} {M : mMem} {P : mPost} : mG (d) 161 49 [a0, a1] [.int s0] lay M P = P (some (.int s0)) lay M := e_ireturnI rfl rfl
-- 162 X10_isAt
theorem g162_in {d : Nat} {x0 : Nat} {x1 : Int32} {lay : List mShp} {M : mMem} {P : mPost} : mF d 162 [.ref x0, .int x1] lay M P = mG d 162 0 [some (.ref x0), some (.int x1)] [] lay M P := mF_in rfl rfl
set_option maxRecDepth 20000 in
theorem g162_0 {d : Nat} {a1 : Option Value} {x : Nat} {lay : List mShp} {M : mMem} {P : mPost} (hx : ¬ x = 0) : mG (d) 162 0 [some (.ref x), a1] [] lay M P = mG d 162 1 [some (.ref x), a1] [.ref x] lay M P := e_aload_nP hx (i := 0) rfl rfl rfl
set_option maxRecDepth 20000 in
theorem g162_1 {d : Nat} {a0 a1 : Option Value} {s0 : Nat} {lay : List mShp} {M : mMem} {P : mPost} (hs : mSh lay s0 = some (13, 44)) : mG (d) 162 1 [a0, a1] [.ref s0] lay M P = mG d 162 4 [a0, a1] [.int (M.1 s0 16)] lay M P := mG_of_and (mIsO_of hs (by decide)) (e_getZ (ci := 10) (j := 16) rfl rfl rfl)
set_option maxRecDepth 20000 in
theorem g162_4 {d : Nat} {a0 a1 : Option Value} {s0 : Int32} {lay : List mShp} {M : mMem} {P : mPost} : mG (d) 162 4 [a0, a1] [.int s0] lay M P = if s0 = 0 then mG d 162 35 [a0, a1] [] lay M P else mG d 162 7 [a0, a1] [] lay M P := e_if_eq rfl rfl
set_option maxRecDepth 20000 in
theorem g162_7 {d : Nat} {a1 : Option Value} {x : Nat} {lay : List mShp} {M : mMem} {P : mPost} (hx : ¬ x = 0) : mG (d) 162 7 [some (.ref x), a1] [] lay M P = mG d 162 8 [some (.ref x), a1] [.ref x] lay M P := e_aload_nP hx (i := 0) rfl rfl rfl
set_option maxRecDepth 20000 in
theorem g162_8 {d : Nat} {a0 a1 : Option Value} {s0 : Nat} {lay : List mShp} {M : mMem} {P : mPost} (hs : mSh lay s0 = some (13, 44)) : mG (d) 162 8 [a0, a1] [.ref s0] lay M P = mG d 162 11 [a0, a1] [.int (M.1 s0 15)] lay M P := mG_of_and (mIsO_of hs (by decide)) (e_getI (ci := 10) (j := 15) rfl rfl rfl)
set_option maxRecDepth 20000 in
theorem g162_11 {d : Nat} {a1 : Option Value} {s0 : Int32} {x : Nat} {lay : List mShp} {M : mMem} {P : mPost} (hx : ¬ x = 0) : mG (d) 162 11 [some (.ref x), a1] [.int s0] lay M P = mG d 162 12 [some (.ref x), a1] [.ref x, .int s0] lay M P := e_aload_nP hx (i := 0) rfl rfl rfl
set_option maxRecDepth 20000 in
theorem g162_12 {d : Nat} {a0 a1 : Option Value} {s0 : Nat} {s1 : Int32} {lay : List mShp} {M : mMem} {P : mPost} (hs : mSh lay s0 = some (13, 44)) : mG (d) 162 12 [a0, a1] [.ref s0, .int s1] lay M P = mG d 162 15 [a0, a1] [.int (M.1 s0 14), .int s1] lay M P := mG_of_and (mIsO_of hs (by decide)) (e_getI (ci := 10) (j := 14) rfl rfl rfl)
set_option maxRecDepth 20000 in
theorem g162_15 {d : Nat} {a0 a1 : Option Value} {s0 : Int32} {s1 : Int32} {lay : List mShp} {M : mMem} {P : mPost} : mG (d) 162 15 [a0, a1] [.int s0, .int s1] lay M P = if s1 < s0 then mG d 162 18 [a0, a1] [] lay M P else mG d 162 35 [a0, a1] [] lay M P := e_icmp_ge rfl rfl
set_option maxRecDepth 20000 in
theorem g162_18 {d : Nat} {a1 : Option Value} {x : Nat} {lay : List mShp} {M : mMem} {P : mPost} (hx : ¬ x = 0) : mG (d) 162 18 [some (.ref x), a1] [] lay M P = mG d 162 19 [some (.ref x), a1] [.ref x] lay M P := e_aload_nP hx (i := 0) rfl rfl rfl
set_option maxRecDepth 20000 in
theorem g162_19 {d : Nat} {a0 a1 : Option Value} {s0 : Nat} {lay : List mShp} {M : mMem} {P : mPost} (hs : mSh lay s0 = some (13, 44)) : mG (d) 162 19 [a0, a1] [.ref s0] lay M P = mG d 162 22 [a0, a1] [.ref (M.2.2 s0 13)] lay M P := mG_of_and (mIsO_of hs (by decide)) (e_getA (ci := 10) (j := 13) rfl rfl rfl)
set_option maxRecDepth 20000 in
theorem g162_22 {d : Nat} {a1 : Option Value} {s0 : Nat} {x : Nat} {lay : List mShp} {M : mMem} {P : mPost} (hx : ¬ x = 0) : mG (d) 162 22 [some (.ref x), a1] [.ref s0] lay M P = mG d 162 23 [some (.ref x), a1] [.ref x, .ref s0] lay M P := e_aload_nP hx (i := 0) rfl rfl rfl
set_option maxRecDepth 20000 in
theorem g162_23 {d : Nat} {a0 a1 : Option Value} {s0 : Nat} {s1 : Nat} {lay : List mShp} {M : mMem} {P : mPost} (hs : mSh lay s0 = some (13, 44)) : mG (d) 162 23 [a0, a1] [.ref s0, .ref s1] lay M P = mG d 162 26 [a0, a1] [.int (M.1 s0 15), .ref s1] lay M P := mG_of_and (mIsO_of hs (by decide)) (e_getI (ci := 10) (j := 15) rfl rfl rfl)
set_option maxRecDepth 20000 in
theorem g162_26 {d : Nat} {a0 a1 : Option Value} {s0 : Int32} {s1 : Nat} {lay : List mShp} {M : mMem} {P : mPost} (hs : mSh lay s1 = some (0, 120)) : mG (d) 162 26 [a0, a1] [.int s0, .ref s1] lay M P = (mIdx s0 120 = true ∧ mG d 162 27 [a0, a1] [.int (M.1 s1 s0.toNatClampNeg)] lay M P) := e_iaload rfl hs
set_option maxRecDepth 20000 in
theorem g162_27 {d : Nat} {a0 : Option Value} {s0 : Int32} {x : Int32} {lay : List mShp} {M : mMem} {P : mPost} : mG (d) 162 27 [a0, some (.int x)] [.int s0] lay M P = mG d 162 28 [a0, some (.int x)] [.int x, .int s0] lay M P := e_iload_n (i := 1) rfl rfl rfl
set_option maxRecDepth 20000 in
theorem g162_28 {d : Nat} {a0 a1 : Option Value} {s0 : Int32} {s1 : Int32} {lay : List mShp} {M : mMem} {P : mPost} : mG (d) 162 28 [a0, a1] [.int s0, .int s1] lay M P = if s1 = s0 then mG d 162 31 [a0, a1] [] lay M P else mG d 162 35 [a0, a1] [] lay M P := e_icmp_ne rfl rfl
set_option maxRecDepth 20000 in
theorem g162_31 {d : Nat} {a0 a1 : Option Value} {lay : List mShp} {M : mMem} {P : mPost} : mG (d) 162 31 [a0, a1] [] lay M P = mG d 162 32 [a0, a1] [.int (Int32.ofInt 1)] lay M P := e_iconst rfl
set_option maxRecDepth 20000 in
theorem g162_32 {d : Nat} {a0 a1 : Option Value} {s0 : Int32} {lay : List mShp} {M : mMem} {P : mPost} : mG (d) 162 32 [a0, a1] [.int s0] lay M P = mG d 162 36 [a0, a1] [.int s0] lay M P := e_goto rfl rfl
set_option maxRecDepth 20000 in
theorem g162_35 {d : Nat} {a0 a1 : Option Value} {lay : List mShp} {M : mMem} {P : mPost} : mG (d) 162 35 [a0, a1] [] lay M P = mG d 162 36 [a0, a1] [.int (Int32.ofInt 0)] lay M P := e_iconst rfl
set_option maxRecDepth 20000 in
theorem g162_36 {d : Nat} {a0 a1 : Option Value} {s0 : Int32} {lay : List mShp} {M : mMem} {P : mPost} : mG (d) 162 36 [a0, a1] [.int s0] lay M P = ((s0 = 0 ∨ s0 = 1) ∧ P (some (.int s0)) lay M) := e_ireturnZ rfl rfl
-- 163 X10_isDigit
theorem g163_in {d : Nat} {x0 : Nat} {lay : List mShp} {M : mMem} {P : mPost} : mF d 163 [.ref x0] lay M P = mG d 163 0 [some (.ref x0)] [] lay M P := mF_in rfl rfl
set_option maxRecDepth 20000 in
theorem g163_0 {d : Nat}  {x : Nat} {lay : List mShp} {M : mMem} {P : mPost} (hx : ¬ x = 0) : mG (d) 163 0 [some (.ref x)] [] lay M P = mG d 163 1 [some (.ref x)] [.ref x] lay M P := e_aload_nP hx (i := 0) rfl rfl rfl
set_option maxRecDepth 20000 in
theorem g163_1 {d : Nat} {a0 : Option Value} {s0 : Nat} {lay : List mShp} {M : mMem} {P : mPost} (hs : mSh lay s0 = some (13, 44)) : mG (d) 163 1 [a0] [.ref s0] lay M P = mG d 163 4 [a0] [.int (M.1 s0 16)] lay M P := mG_of_and (mIsO_of hs (by decide)) (e_getZ (ci := 10) (j := 16) rfl rfl rfl)
set_option maxRecDepth 20000 in
theorem g163_4 {d : Nat} {a0 : Option Value} {s0 : Int32} {lay : List mShp} {M : mMem} {P : mPost} : mG (d) 163 4 [a0] [.int s0] lay M P = if s0 = 0 then mG d 163 41 [a0] [] lay M P else mG d 163 7 [a0] [] lay M P := e_if_eq rfl rfl
set_option maxRecDepth 20000 in
theorem g163_7 {d : Nat}  {x : Nat} {lay : List mShp} {M : mMem} {P : mPost} (hx : ¬ x = 0) : mG (d) 163 7 [some (.ref x)] [] lay M P = mG d 163 8 [some (.ref x)] [.ref x] lay M P := e_aload_nP hx (i := 0) rfl rfl rfl
set_option maxRecDepth 20000 in
theorem g163_8 {d : Nat} {a0 : Option Value} {s0 : Nat} {lay : List mShp} {M : mMem} {P : mPost} (hs : mSh lay s0 = some (13, 44)) : mG (d) 163 8 [a0] [.ref s0] lay M P = mG d 163 11 [a0] [.int (M.1 s0 15)] lay M P := mG_of_and (mIsO_of hs (by decide)) (e_getI (ci := 10) (j := 15) rfl rfl rfl)
set_option maxRecDepth 20000 in
theorem g163_11 {d : Nat} {s0 : Int32} {x : Nat} {lay : List mShp} {M : mMem} {P : mPost} (hx : ¬ x = 0) : mG (d) 163 11 [some (.ref x)] [.int s0] lay M P = mG d 163 12 [some (.ref x)] [.ref x, .int s0] lay M P := e_aload_nP hx (i := 0) rfl rfl rfl
set_option maxRecDepth 20000 in
theorem g163_12 {d : Nat} {a0 : Option Value} {s0 : Nat} {s1 : Int32} {lay : List mShp} {M : mMem} {P : mPost} (hs : mSh lay s0 = some (13, 44)) : mG (d) 163 12 [a0] [.ref s0, .int s1] lay M P = mG d 163 15 [a0] [.int (M.1 s0 14), .int s1] lay M P := mG_of_and (mIsO_of hs (by decide)) (e_getI (ci := 10) (j := 14) rfl rfl rfl)
set_option maxRecDepth 20000 in
theorem g163_15 {d : Nat} {a0 : Option Value} {s0 : Int32} {s1 : Int32} {lay : List mShp} {M : mMem} {P : mPost} : mG (d) 163 15 [a0] [.int s0, .int s1] lay M P = if s1 < s0 then mG d 163 18 [a0] [] lay M P else mG d 163 41 [a0] [] lay M P := e_icmp_ge rfl rfl
set_option maxRecDepth 20000 in
theorem g163_18 {d : Nat}  {x : Nat} {lay : List mShp} {M : mMem} {P : mPost} (hx : ¬ x = 0) : mG (d) 163 18 [some (.ref x)] [] lay M P = mG d 163 19 [some (.ref x)] [.ref x] lay M P := e_aload_nP hx (i := 0) rfl rfl rfl
set_option maxRecDepth 20000 in
theorem g163_19 {d : Nat} {a0 : Option Value} {s0 : Nat} {lay : List mShp} {M : mMem} {P : mPost} (hs : mSh lay s0 = some (13, 44)) : mG (d) 163 19 [a0] [.ref s0] lay M P = mG d 163 22 [a0] [.ref (M.2.2 s0 13)] lay M P := mG_of_and (mIsO_of hs (by decide)) (e_getA (ci := 10) (j := 13) rfl rfl rfl)
set_option maxRecDepth 20000 in
theorem g163_22 {d : Nat} {s0 : Nat} {x : Nat} {lay : List mShp} {M : mMem} {P : mPost} (hx : ¬ x = 0) : mG (d) 163 22 [some (.ref x)] [.ref s0] lay M P = mG d 163 23 [some (.ref x)] [.ref x, .ref s0] lay M P := e_aload_nP hx (i := 0) rfl rfl rfl
set_option maxRecDepth 20000 in
theorem g163_23 {d : Nat} {a0 : Option Value} {s0 : Nat} {s1 : Nat} {lay : List mShp} {M : mMem} {P : mPost} (hs : mSh lay s0 = some (13, 44)) : mG (d) 163 23 [a0] [.ref s0, .ref s1] lay M P = mG d 163 26 [a0] [.int (M.1 s0 15), .ref s1] lay M P := mG_of_and (mIsO_of hs (by decide)) (e_getI (ci := 10) (j := 15) rfl rfl rfl)
set_option maxRecDepth 20000 in
theorem g163_26 {d : Nat} {a0 : Option Value} {s0 : Int32} {s1 : Nat} {lay : List mShp} {M : mMem} {P : mPost} (hs : mSh lay s1 = some (0, 120)) : mG (d) 163 26 [a0] [.int s0, .ref s1] lay M P = (mIdx s0 120 = true ∧ mG d 163 27 [a0] [.int (M.1 s1 s0.toNatClampNeg)] lay M P) := e_iaload rfl hs
set_option maxRecDepth 20000 in
theorem g163_27 {d : Nat} {a0 : Option Value} {s0 : Int32} {lay : List mShp} {M : mMem} {P : mPost} : mG (d) 163 27 [a0] [.int s0] lay M P = mG d 163 29 [a0] [.int (Int32.ofInt 48), .int s0] lay M P := e_bipush rfl
set_option maxRecDepth 20000 in
theorem g163_29 {d : Nat} {a0 : Option Value} {s0 : Int32} {s1 : Int32} {lay : List mShp} {M : mMem} {P : mPost} : mG (d) 163 29 [a0] [.int s0, .int s1] lay M P = mG d 163 31 [a0] [.int (Int32.ofInt 57), .int s0, .int s1] lay M P := e_bipush rfl
set_option maxRecDepth 20000 in
theorem g163_31 {d : Nat} {a0 : Option Value} {s0 : Int32} {s1 : Int32} {s2 : Int32} {lay : List mShp} {M : mMem} {P : mPost} : mG (d + 1) 163 31 [a0] [.int s0, .int s1, .int s2] lay M P = mF d 146 [.int s2, .int s1, .int s0] lay M (fun v lay1 M1 => mG (d + 1) 163 34 [a0] (v.toList ++ []) lay1 M1 P) := e_static3 (j := 146) rfl rfl rfl rfl rfl (Nat.le_of_ble_eq_true rfl)
set_option maxRecDepth 20000 in
theorem g163_34 {d : Nat} {a0 : Option Value} {s0 : Int32} {lay : List mShp} {M : mMem} {P : mPost} : mG (d) 163 34 [a0] [.int s0] lay M P = if s0 = 0 then mG d 163 41 [a0] [] lay M P else mG d 163 37 [a0] [] lay M P := e_if_eq rfl rfl
set_option maxRecDepth 20000 in
theorem g163_37 {d : Nat} {a0 : Option Value} {lay : List mShp} {M : mMem} {P : mPost} : mG (d) 163 37 [a0] [] lay M P = mG d 163 38 [a0] [.int (Int32.ofInt 1)] lay M P := e_iconst rfl
set_option maxRecDepth 20000 in
theorem g163_38 {d : Nat} {a0 : Option Value} {s0 : Int32} {lay : List mShp} {M : mMem} {P : mPost} : mG (d) 163 38 [a0] [.int s0] lay M P = mG d 163 42 [a0] [.int s0] lay M P := e_goto rfl rfl
set_option maxRecDepth 20000 in
theorem g163_41 {d : Nat} {a0 : Option Value} {lay : List mShp} {M : mMem} {P : mPost} : mG (d) 163 41 [a0] [] lay M P = mG d 163 42 [a0] [.int (Int32.ofInt 0)] lay M P := e_iconst rfl
set_option maxRecDepth 20000 in
theorem g163_42 {d : Nat} {a0 : Option Value} {s0 : Int32} {lay : List mShp} {M : mMem} {P : mPost} : mG (d) 163 42 [a0] [.int s0] lay M P = ((s0 = 0 ∨ s0 = 1) ∧ P (some (.int s0)) lay M) := e_ireturnZ rfl rfl
-- 164 X10_number_
theorem g164_in {d : Nat} {x0 : Nat} {lay : List mShp} {M : mMem} {P : mPost} : mF d 164 [.ref x0] lay M P = mG d 164 0 [some (.ref x0), none, none] [] lay M P := mF_in rfl rfl
set_option maxRecDepth 20000 in
theorem g164_0 {d : Nat} {a0 a1 a2 : Option Value} {lay : List mShp} {M : mMem} {P : mPost} : mG (d) 164 0 [a0, a1, a2] [] lay M P = mG d 164 1 [a0, a1, a2] [.int (Int32.ofInt 0)] lay M P := e_iconst rfl
set_option maxRecDepth 20000 in
theorem g164_1 {d : Nat} {a0 a1 a2 : Option Value} {s0 : Int32} {lay : List mShp} {M : mMem} {P : mPost} (h0 : mNoL a0 = true) : mG (d) 164 1 [a0, a1, a2] [.int s0] lay M P = mG d 164 2 [a0, some (.int s0), a2] [] lay M P := e_istore_n (i := 1) rfl rfl (by simp) (mS1_1 h0)
set_option maxRecDepth 20000 in
theorem g164_2 {d : Nat} {a0 a1 a2 : Option Value} {lay : List mShp} {M : mMem} {P : mPost} : mG (d) 164 2 [a0, a1, a2] [] lay M P = mG d 164 3 [a0, a1, a2] [.int (Int32.ofInt 0)] lay M P := e_iconst rfl
set_option maxRecDepth 20000 in
theorem g164_3 {d : Nat} {a0 a1 a2 : Option Value} {s0 : Int32} {lay : List mShp} {M : mMem} {P : mPost} (h0 : mNoL a1 = true) : mG (d) 164 3 [a0, a1, a2] [.int s0] lay M P = mG d 164 4 [a0, a1, some (.int s0)] [] lay M P := e_istore_n (i := 2) rfl rfl (by simp) (mS1_2 h0)
set_option maxRecDepth 20000 in
theorem g164_4 {d : Nat} {a0 a1 : Option Value} {x : Int32} {lay : List mShp} {M : mMem} {P : mPost} : mG (d) 164 4 [a0, a1, some (.int x)] [] lay M P = mG d 164 5 [a0, a1, some (.int x)] [.int x] lay M P := e_iload_n (i := 2) rfl rfl rfl
set_option maxRecDepth 20000 in
theorem g164_5 {d : Nat} {a0 a1 a2 : Option Value} {s0 : Int32} {lay : List mShp} {M : mMem} {P : mPost} : mG (d) 164 5 [a0, a1, a2] [.int s0] lay M P = mG d 164 6 [a0, a1, a2] [.int (Int32.ofInt 4), .int s0] lay M P := e_iconst rfl
set_option maxRecDepth 20000 in
theorem g164_6 {d : Nat} {a0 a1 a2 : Option Value} {s0 : Int32} {s1 : Int32} {lay : List mShp} {M : mMem} {P : mPost} : mG (d) 164 6 [a0, a1, a2] [.int s0, .int s1] lay M P = if s1 < s0 then mG d 164 9 [a0, a1, a2] [] lay M P else mG d 164 50 [a0, a1, a2] [] lay M P := e_icmp_ge rfl rfl
set_option maxRecDepth 20000 in
theorem g164_9 {d : Nat} {a1 a2 : Option Value} {x : Nat} {lay : List mShp} {M : mMem} {P : mPost} (hx : ¬ x = 0) : mG (d) 164 9 [some (.ref x), a1, a2] [] lay M P = mG d 164 10 [some (.ref x), a1, a2] [.ref x] lay M P := e_aload_nP hx (i := 0) rfl rfl rfl
set_option maxRecDepth 20000 in
theorem g164_10 {d : Nat} {a0 a1 a2 : Option Value} {s0 : Nat} {lay : List mShp} {M : mMem} {P : mPost} (hs : mSh lay s0 = some (13, 44)) : mG (d + 1) 164 10 [a0, a1, a2] [.ref s0] lay M P = mF d 163 [.ref s0] lay M (fun v lay1 M1 => mG (d + 1) 164 13 [a0, a1, a2] (v.toList ++ []) lay1 M1 P) := e_virtP0 (j := 163) (c := 10) rfl rfl rfl rfl rfl rfl hs (Nat.le_of_ble_eq_true rfl)
set_option maxRecDepth 20000 in
theorem g164_13 {d : Nat} {a0 a1 a2 : Option Value} {s0 : Int32} {lay : List mShp} {M : mMem} {P : mPost} : mG (d) 164 13 [a0, a1, a2] [.int s0] lay M P = if s0 = 0 then mG d 164 50 [a0, a1, a2] [] lay M P else mG d 164 16 [a0, a1, a2] [] lay M P := e_if_eq rfl rfl
set_option maxRecDepth 20000 in
theorem g164_16 {d : Nat} {a0 a1 a2 : Option Value} {lay : List mShp} {M : mMem} {P : mPost} : mG (d) 164 16 [a0, a1, a2] [] lay M P = mG d 164 18 [a0, a1, a2] [.int (Int32.ofInt 10)] lay M P := e_bipush rfl
set_option maxRecDepth 20000 in
theorem g164_18 {d : Nat} {a0 a2 : Option Value} {s0 : Int32} {x : Int32} {lay : List mShp} {M : mMem} {P : mPost} : mG (d) 164 18 [a0, some (.int x), a2] [.int s0] lay M P = mG d 164 19 [a0, some (.int x), a2] [.int x, .int s0] lay M P := e_iload_n (i := 1) rfl rfl rfl
set_option maxRecDepth 20000 in
theorem g164_19 {d : Nat} {a0 a1 a2 : Option Value} {s0 : Int32} {s1 : Int32} {lay : List mShp} {M : mMem} {P : mPost} : mG (d) 164 19 [a0, a1, a2] [.int s0, .int s1] lay M P = mG d 164 20 [a0, a1, a2] [.int (s1 * s0)] lay M P := e_imul rfl
set_option maxRecDepth 20000 in
theorem g164_20 {d : Nat} {a1 a2 : Option Value} {s0 : Int32} {x : Nat} {lay : List mShp} {M : mMem} {P : mPost} (hx : ¬ x = 0) : mG (d) 164 20 [some (.ref x), a1, a2] [.int s0] lay M P = mG d 164 21 [some (.ref x), a1, a2] [.ref x, .int s0] lay M P := e_aload_nP hx (i := 0) rfl rfl rfl
set_option maxRecDepth 20000 in
theorem g164_21 {d : Nat} {a0 a1 a2 : Option Value} {s0 : Nat} {s1 : Int32} {lay : List mShp} {M : mMem} {P : mPost} (hs : mSh lay s0 = some (13, 44)) : mG (d) 164 21 [a0, a1, a2] [.ref s0, .int s1] lay M P = mG d 164 24 [a0, a1, a2] [.ref (M.2.2 s0 13), .int s1] lay M P := mG_of_and (mIsO_of hs (by decide)) (e_getA (ci := 10) (j := 13) rfl rfl rfl)
set_option maxRecDepth 20000 in
theorem g164_24 {d : Nat} {a1 a2 : Option Value} {s0 : Nat} {s1 : Int32} {x : Nat} {lay : List mShp} {M : mMem} {P : mPost} (hx : ¬ x = 0) : mG (d) 164 24 [some (.ref x), a1, a2] [.ref s0, .int s1] lay M P = mG d 164 25 [some (.ref x), a1, a2] [.ref x, .ref s0, .int s1] lay M P := e_aload_nP hx (i := 0) rfl rfl rfl
set_option maxRecDepth 20000 in
theorem g164_25 {d : Nat} {a0 a1 a2 : Option Value} {s0 : Nat} {s1 : Nat} {s2 : Int32} {lay : List mShp} {M : mMem} {P : mPost} (hs : mSh lay s0 = some (13, 44)) : mG (d) 164 25 [a0, a1, a2] [.ref s0, .ref s1, .int s2] lay M P = mG d 164 28 [a0, a1, a2] [.int (M.1 s0 15), .ref s1, .int s2] lay M P := mG_of_and (mIsO_of hs (by decide)) (e_getI (ci := 10) (j := 15) rfl rfl rfl)
set_option maxRecDepth 20000 in
theorem g164_28 {d : Nat} {a0 a1 a2 : Option Value} {s0 : Int32} {s1 : Nat} {s2 : Int32} {lay : List mShp} {M : mMem} {P : mPost} (hs : mSh lay s1 = some (0, 120)) : mG (d) 164 28 [a0, a1, a2] [.int s0, .ref s1, .int s2] lay M P = (mIdx s0 120 = true ∧ mG d 164 29 [a0, a1, a2] [.int (M.1 s1 s0.toNatClampNeg), .int s2] lay M P) := e_iaload rfl hs
set_option maxRecDepth 20000 in
theorem g164_29 {d : Nat} {a0 a1 a2 : Option Value} {s0 : Int32} {s1 : Int32} {lay : List mShp} {M : mMem} {P : mPost} : mG (d) 164 29 [a0, a1, a2] [.int s0, .int s1] lay M P = mG d 164 30 [a0, a1, a2] [.int (s1 + s0)] lay M P := e_iadd rfl
set_option maxRecDepth 20000 in
theorem g164_30 {d : Nat} {a0 a1 a2 : Option Value} {s0 : Int32} {lay : List mShp} {M : mMem} {P : mPost} : mG (d) 164 30 [a0, a1, a2] [.int s0] lay M P = mG d 164 32 [a0, a1, a2] [.int (Int32.ofInt 48), .int s0] lay M P := e_bipush rfl
set_option maxRecDepth 20000 in
theorem g164_32 {d : Nat} {a0 a1 a2 : Option Value} {s0 : Int32} {s1 : Int32} {lay : List mShp} {M : mMem} {P : mPost} : mG (d) 164 32 [a0, a1, a2] [.int s0, .int s1] lay M P = mG d 164 33 [a0, a1, a2] [.int (s1 - s0)] lay M P := e_isub rfl
set_option maxRecDepth 20000 in
theorem g164_33 {d : Nat} {a0 a1 a2 : Option Value} {s0 : Int32} {lay : List mShp} {M : mMem} {P : mPost} (h0 : mNoL a0 = true) : mG (d) 164 33 [a0, a1, a2] [.int s0] lay M P = mG d 164 34 [a0, some (.int s0), a2] [] lay M P := e_istore_n (i := 1) rfl rfl (by simp) (mS1_1 h0)
set_option maxRecDepth 20000 in
theorem g164_34 {d : Nat} {a1 a2 : Option Value} {x : Nat} {lay : List mShp} {M : mMem} {P : mPost} (hx : ¬ x = 0) : mG (d) 164 34 [some (.ref x), a1, a2] [] lay M P = mG d 164 35 [some (.ref x), a1, a2] [.ref x] lay M P := e_aload_nP hx (i := 0) rfl rfl rfl
set_option maxRecDepth 20000 in
theorem g164_35 {d : Nat} {a0 a1 a2 : Option Value} {s0 : Nat} {lay : List mShp} {M : mMem} {P : mPost} : mG (d) 164 35 [a0, a1, a2] [.ref s0] lay M P = mG d 164 36 [a0, a1, a2] [.ref s0, .ref s0] lay M P := e_dupr rfl
set_option maxRecDepth 20000 in
theorem g164_36 {d : Nat} {a0 a1 a2 : Option Value} {s0 : Nat} {s1 : Nat} {lay : List mShp} {M : mMem} {P : mPost} (hs : mSh lay s0 = some (13, 44)) : mG (d) 164 36 [a0, a1, a2] [.ref s0, .ref s1] lay M P = mG d 164 39 [a0, a1, a2] [.int (M.1 s0 15), .ref s1] lay M P := mG_of_and (mIsO_of hs (by decide)) (e_getI (ci := 10) (j := 15) rfl rfl rfl)
set_option maxRecDepth 20000 in
theorem g164_39 {d : Nat} {a0 a1 a2 : Option Value} {s0 : Int32} {s1 : Nat} {lay : List mShp} {M : mMem} {P : mPost} : mG (d) 164 39 [a0, a1, a2] [.int s0, .ref s1] lay M P = mG d 164 40 [a0, a1, a2] [.int (Int32.ofInt 1), .int s0, .ref s1] lay M P := e_iconst rfl
set_option maxRecDepth 20000 in
theorem g164_40 {d : Nat} {a0 a1 a2 : Option Value} {s0 : Int32} {s1 : Int32} {s2 : Nat} {lay : List mShp} {M : mMem} {P : mPost} : mG (d) 164 40 [a0, a1, a2] [.int s0, .int s1, .ref s2] lay M P = mG d 164 41 [a0, a1, a2] [.int (s1 + s0), .ref s2] lay M P := e_iadd rfl
set_option maxRecDepth 20000 in
theorem g164_41 {d : Nat} {a0 a1 a2 : Option Value} {s0 : Int32} {s1 : Nat} {lay : List mShp} {M : mMem} {P : mPost} (hs : mSh lay s1 = some (13, 44)) : mG (d) 164 41 [a0, a1, a2] [.int s0, .ref s1] lay M P = mG d 164 44 [a0, a1, a2] [] lay (mSetI M s1 15 s0) P := mG_of_and (mIsO_of hs (by decide)) (e_putI (ci := 10) (j := 15) rfl rfl (Or.inl rfl) rfl)
set_option maxRecDepth 20000 in
theorem g164_44 {d : Nat} {a0 a1 : Option Value} {x : Int32} {lay : List mShp} {M : mMem} {P : mPost} (h0 : mNoL a1 = true) : mG (d) 164 44 [a0, a1, some (.int x)] [] lay M P = mG d 164 47 [a0, a1, some (.int (x + Int32.ofInt 1))] [] lay M P := e_iinc (n := 2) rfl rfl (mS1_2 h0)
set_option maxRecDepth 20000 in
theorem g164_47 {d : Nat} {a0 a1 a2 : Option Value} {lay : List mShp} {M : mMem} {P : mPost} : mG (d) 164 47 [a0, a1, a2] [] lay M P = mG d 164 4 [a0, a1, a2] [] lay M P := e_goto rfl rfl
set_option maxRecDepth 20000 in
theorem g164_50 {d : Nat} {a0 a2 : Option Value} {x : Int32} {lay : List mShp} {M : mMem} {P : mPost} : mG (d) 164 50 [a0, some (.int x), a2] [] lay M P = mG d 164 51 [a0, some (.int x), a2] [.int x] lay M P := e_iload_n (i := 1) rfl rfl rfl
set_option maxRecDepth 20000 in
theorem g164_51 {d : Nat} {a0 a1 a2 : Option Value} {s0 : Int32} {lay : List mShp} {M : mMem} {P : mPost} : mG (d) 164 51 [a0, a1, a2] [.int s0] lay M P = P (some (.int s0)) lay M := e_ireturnI rfl rfl
-- 165 X10_opens
theorem g165_in {d : Nat} {x0 : Nat} {lay : List mShp} {M : mMem} {P : mPost} : mF d 165 [.ref x0] lay M P = mG d 165 0 [some (.ref x0)] [] lay M P := mF_in rfl rfl
set_option maxRecDepth 20000 in
theorem g165_0 {d : Nat}  {x : Nat} {lay : List mShp} {M : mMem} {P : mPost} (hx : ¬ x = 0) : mG (d) 165 0 [some (.ref x)] [] lay M P = mG d 165 1 [some (.ref x)] [.ref x] lay M P := e_aload_nP hx (i := 0) rfl rfl rfl
set_option maxRecDepth 20000 in
theorem g165_1 {d : Nat} {s0 : Nat} {x : Nat} {lay : List mShp} {M : mMem} {P : mPost} (hx : ¬ x = 0) : mG (d) 165 1 [some (.ref x)] [.ref s0] lay M P = mG d 165 2 [some (.ref x)] [.ref x, .ref s0] lay M P := e_aload_nP hx (i := 0) rfl rfl rfl
set_option maxRecDepth 20000 in
theorem g165_2 {d : Nat} {a0 : Option Value} {s0 : Nat} {s1 : Nat} {lay : List mShp} {M : mMem} {P : mPost} (hs : mSh lay s0 = some (13, 44)) : mG (d) 165 2 [a0] [.ref s0, .ref s1] lay M P = mG d 165 5 [a0] [.int (M.1 s0 17), .ref s1] lay M P := mG_of_and (mIsO_of hs (by decide)) (e_getI (ci := 10) (j := 17) rfl rfl rfl)
set_option maxRecDepth 20000 in
theorem g165_5 {d : Nat} {a0 : Option Value} {s0 : Int32} {s1 : Nat} {lay : List mShp} {M : mMem} {P : mPost} : mG (d) 165 5 [a0] [.int s0, .ref s1] lay M P = mG d 165 7 [a0] [.int (Int32.ofInt 6), .int s0, .ref s1] lay M P := e_bipush rfl
set_option maxRecDepth 20000 in
theorem g165_7 {d : Nat} {a0 : Option Value} {s0 : Int32} {s1 : Int32} {s2 : Nat} {lay : List mShp} {M : mMem} {P : mPost} : mG (d) 165 7 [a0] [.int s0, .int s1, .ref s2] lay M P = if s1 < s0 then mG d 165 10 [a0] [.ref s2] lay M P else mG d 165 14 [a0] [.ref s2] lay M P := e_icmp_ge rfl rfl
set_option maxRecDepth 20000 in
theorem g165_10 {d : Nat} {a0 : Option Value} {s0 : Nat} {lay : List mShp} {M : mMem} {P : mPost} : mG (d) 165 10 [a0] [.ref s0] lay M P = mG d 165 11 [a0] [.int (Int32.ofInt 1), .ref s0] lay M P := e_iconst rfl
set_option maxRecDepth 20000 in
theorem g165_11 {d : Nat} {a0 : Option Value} {s0 : Int32} {s1 : Nat} {lay : List mShp} {M : mMem} {P : mPost} : mG (d) 165 11 [a0] [.int s0, .ref s1] lay M P = mG d 165 15 [a0] [.int s0, .ref s1] lay M P := e_goto rfl rfl
set_option maxRecDepth 20000 in
theorem g165_14 {d : Nat} {a0 : Option Value} {s0 : Nat} {lay : List mShp} {M : mMem} {P : mPost} : mG (d) 165 14 [a0] [.ref s0] lay M P = mG d 165 15 [a0] [.int (Int32.ofInt 0), .ref s0] lay M P := e_iconst rfl
set_option maxRecDepth 20000 in
theorem g165_15 {d : Nat} {a0 : Option Value} {s0 : Int32} {s1 : Nat} {lay : List mShp} {M : mMem} {P : mPost} (hs : mSh lay s1 = some (13, 44)) : mG (d) 165 15 [a0] [.int s0, .ref s1] lay M P = ((s0 = 0 ∨ s0 = 1) ∧ mG d 165 18 [a0] [] lay (mSetI M s1 16 s0) P) := mG_of_and (mIsO_of hs (by decide)) (e_putZ (ci := 10) (j := 16) rfl rfl (Or.inl rfl) rfl)
set_option maxRecDepth 20000 in
theorem g165_18 {d : Nat}  {x : Nat} {lay : List mShp} {M : mMem} {P : mPost} (hx : ¬ x = 0) : mG (d) 165 18 [some (.ref x)] [] lay M P = mG d 165 19 [some (.ref x)] [.ref x] lay M P := e_aload_nP hx (i := 0) rfl rfl rfl
set_option maxRecDepth 20000 in
theorem g165_19 {d : Nat} {a0 : Option Value} {s0 : Nat} {lay : List mShp} {M : mMem} {P : mPost} (hs : mSh lay s0 = some (13, 44)) : mG (d) 165 19 [a0] [.ref s0] lay M P = mG d 165 22 [a0] [.int (M.1 s0 16)] lay M P := mG_of_and (mIsO_of hs (by decide)) (e_getZ (ci := 10) (j := 16) rfl rfl rfl)
set_option maxRecDepth 20000 in
theorem g165_22 {d : Nat} {a0 : Option Value} {s0 : Int32} {lay : List mShp} {M : mMem} {P : mPost} : mG (d) 165 22 [a0] [.int s0] lay M P = if s0 = 0 then mG d 165 45 [a0] [] lay M P else mG d 165 25 [a0] [] lay M P := e_if_eq rfl rfl
set_option maxRecDepth 20000 in
theorem g165_25 {d : Nat}  {x : Nat} {lay : List mShp} {M : mMem} {P : mPost} (hx : ¬ x = 0) : mG (d) 165 25 [some (.ref x)] [] lay M P = mG d 165 26 [some (.ref x)] [.ref x] lay M P := e_aload_nP hx (i := 0) rfl rfl rfl
set_option maxRecDepth 20000 in
theorem g165_26 {d : Nat} {a0 : Option Value} {s0 : Nat} {lay : List mShp} {M : mMem} {P : mPost} : mG (d) 165 26 [a0] [.ref s0] lay M P = mG d 165 27 [a0] [.ref s0, .ref s0] lay M P := e_dupr rfl
set_option maxRecDepth 20000 in
theorem g165_27 {d : Nat} {a0 : Option Value} {s0 : Nat} {s1 : Nat} {lay : List mShp} {M : mMem} {P : mPost} (hs : mSh lay s0 = some (13, 44)) : mG (d) 165 27 [a0] [.ref s0, .ref s1] lay M P = mG d 165 30 [a0] [.int (M.1 s0 17), .ref s1] lay M P := mG_of_and (mIsO_of hs (by decide)) (e_getI (ci := 10) (j := 17) rfl rfl rfl)
set_option maxRecDepth 20000 in
theorem g165_30 {d : Nat} {a0 : Option Value} {s0 : Int32} {s1 : Nat} {lay : List mShp} {M : mMem} {P : mPost} : mG (d) 165 30 [a0] [.int s0, .ref s1] lay M P = mG d 165 31 [a0] [.int (Int32.ofInt 1), .int s0, .ref s1] lay M P := e_iconst rfl
set_option maxRecDepth 20000 in
theorem g165_31 {d : Nat} {a0 : Option Value} {s0 : Int32} {s1 : Int32} {s2 : Nat} {lay : List mShp} {M : mMem} {P : mPost} : mG (d) 165 31 [a0] [.int s0, .int s1, .ref s2] lay M P = mG d 165 32 [a0] [.int (s1 + s0), .ref s2] lay M P := e_iadd rfl
set_option maxRecDepth 20000 in
theorem g165_32 {d : Nat} {a0 : Option Value} {s0 : Int32} {s1 : Nat} {lay : List mShp} {M : mMem} {P : mPost} (hs : mSh lay s1 = some (13, 44)) : mG (d) 165 32 [a0] [.int s0, .ref s1] lay M P = mG d 165 35 [a0] [] lay (mSetI M s1 17 s0) P := mG_of_and (mIsO_of hs (by decide)) (e_putI (ci := 10) (j := 17) rfl rfl (Or.inl rfl) rfl)
set_option maxRecDepth 20000 in
theorem g165_35 {d : Nat}  {x : Nat} {lay : List mShp} {M : mMem} {P : mPost} (hx : ¬ x = 0) : mG (d) 165 35 [some (.ref x)] [] lay M P = mG d 165 36 [some (.ref x)] [.ref x] lay M P := e_aload_nP hx (i := 0) rfl rfl rfl
set_option maxRecDepth 20000 in
theorem g165_36 {d : Nat} {a0 : Option Value} {s0 : Nat} {lay : List mShp} {M : mMem} {P : mPost} : mG (d) 165 36 [a0] [.ref s0] lay M P = mG d 165 37 [a0] [.ref s0, .ref s0] lay M P := e_dupr rfl
set_option maxRecDepth 20000 in
theorem g165_37 {d : Nat} {a0 : Option Value} {s0 : Nat} {s1 : Nat} {lay : List mShp} {M : mMem} {P : mPost} (hs : mSh lay s0 = some (13, 44)) : mG (d) 165 37 [a0] [.ref s0, .ref s1] lay M P = mG d 165 40 [a0] [.int (M.1 s0 15), .ref s1] lay M P := mG_of_and (mIsO_of hs (by decide)) (e_getI (ci := 10) (j := 15) rfl rfl rfl)
set_option maxRecDepth 20000 in
theorem g165_40 {d : Nat} {a0 : Option Value} {s0 : Int32} {s1 : Nat} {lay : List mShp} {M : mMem} {P : mPost} : mG (d) 165 40 [a0] [.int s0, .ref s1] lay M P = mG d 165 41 [a0] [.int (Int32.ofInt 1), .int s0, .ref s1] lay M P := e_iconst rfl
set_option maxRecDepth 20000 in
theorem g165_41 {d : Nat} {a0 : Option Value} {s0 : Int32} {s1 : Int32} {s2 : Nat} {lay : List mShp} {M : mMem} {P : mPost} : mG (d) 165 41 [a0] [.int s0, .int s1, .ref s2] lay M P = mG d 165 42 [a0] [.int (s1 + s0), .ref s2] lay M P := e_iadd rfl
set_option maxRecDepth 20000 in
theorem g165_42 {d : Nat} {a0 : Option Value} {s0 : Int32} {s1 : Nat} {lay : List mShp} {M : mMem} {P : mPost} (hs : mSh lay s1 = some (13, 44)) : mG (d) 165 42 [a0] [.int s0, .ref s1] lay M P = mG d 165 45 [a0] [] lay (mSetI M s1 15 s0) P := mG_of_and (mIsO_of hs (by decide)) (e_putI (ci := 10) (j := 15) rfl rfl (Or.inl rfl) rfl)
set_option maxRecDepth 20000 in
theorem g165_45 {d : Nat}  {x : Nat} {lay : List mShp} {M : mMem} {P : mPost} (hx : ¬ x = 0) : mG (d) 165 45 [some (.ref x)] [] lay M P = mG d 165 46 [some (.ref x)] [.ref x] lay M P := e_aload_nP hx (i := 0) rfl rfl rfl
set_option maxRecDepth 20000 in
theorem g165_46 {d : Nat} {a0 : Option Value} {s0 : Nat} {lay : List mShp} {M : mMem} {P : mPost} (hs : mSh lay s0 = some (13, 44)) : mG (d) 165 46 [a0] [.ref s0] lay M P = mG d 165 49 [a0] [.int (M.1 s0 16)] lay M P := mG_of_and (mIsO_of hs (by decide)) (e_getZ (ci := 10) (j := 16) rfl rfl rfl)
set_option maxRecDepth 20000 in
theorem g165_49 {d : Nat} {a0 : Option Value} {s0 : Int32} {lay : List mShp} {M : mMem} {P : mPost} : mG (d) 165 49 [a0] [.int s0] lay M P = ((s0 = 0 ∨ s0 = 1) ∧ P (some (.int s0)) lay M) := e_ireturnZ rfl rfl
-- 166 X10_one
theorem g166_in {d : Nat} {x0 : Nat} {lay : List mShp} {M : mMem} {P : mPost} : mF d 166 [.ref x0] lay M P = mG d 166 0 [some (.ref x0), none, none, none] [] lay M P := mF_in rfl rfl
set_option maxRecDepth 20000 in
theorem g166_0 {d : Nat} {a0 a1 a2 a3 : Option Value} {lay : List mShp} {M : mMem} {P : mPost} : mG (d) 166 0 [a0, a1, a2, a3] [] lay M P = mG d 166 1 [a0, a1, a2, a3] [.int (Int32.ofInt 0)] lay M P := e_iconst rfl
set_option maxRecDepth 20000 in
theorem g166_1 {d : Nat} {a0 a1 a2 a3 : Option Value} {s0 : Int32} {lay : List mShp} {M : mMem} {P : mPost} (h0 : mNoL a0 = true) : mG (d) 166 1 [a0, a1, a2, a3] [.int s0] lay M P = mG d 166 2 [a0, some (.int s0), a2, a3] [] lay M P := e_istore_n (i := 1) rfl rfl (by simp) (mS1_1 h0)
set_option maxRecDepth 20000 in
theorem g166_2 {d : Nat} {a1 a2 a3 : Option Value} {x : Nat} {lay : List mShp} {M : mMem} {P : mPost} (hx : ¬ x = 0) : mG (d) 166 2 [some (.ref x), a1, a2, a3] [] lay M P = mG d 166 3 [some (.ref x), a1, a2, a3] [.ref x] lay M P := e_aload_nP hx (i := 0) rfl rfl rfl
set_option maxRecDepth 20000 in
theorem g166_3 {d : Nat} {a0 a1 a2 a3 : Option Value} {s0 : Nat} {lay : List mShp} {M : mMem} {P : mPost} (hs : mSh lay s0 = some (13, 44)) : mG (d + 1) 166 3 [a0, a1, a2, a3] [.ref s0] lay M P = mF d 163 [.ref s0] lay M (fun v lay1 M1 => mG (d + 1) 166 6 [a0, a1, a2, a3] (v.toList ++ []) lay1 M1 P) := e_virtP0 (j := 163) (c := 10) rfl rfl rfl rfl rfl rfl hs (Nat.le_of_ble_eq_true rfl)
set_option maxRecDepth 20000 in
theorem g166_6 {d : Nat} {a0 a1 a2 a3 : Option Value} {s0 : Int32} {lay : List mShp} {M : mMem} {P : mPost} : mG (d) 166 6 [a0, a1, a2, a3] [.int s0] lay M P = if s0 = 0 then mG d 166 14 [a0, a1, a2, a3] [] lay M P else mG d 166 9 [a0, a1, a2, a3] [] lay M P := e_if_eq rfl rfl
set_option maxRecDepth 20000 in
theorem g166_9 {d : Nat} {a1 a2 a3 : Option Value} {x : Nat} {lay : List mShp} {M : mMem} {P : mPost} (hx : ¬ x = 0) : mG (d) 166 9 [some (.ref x), a1, a2, a3] [] lay M P = mG d 166 10 [some (.ref x), a1, a2, a3] [.ref x] lay M P := e_aload_nP hx (i := 0) rfl rfl rfl
set_option maxRecDepth 20000 in
theorem g166_10 {d : Nat} {a0 a1 a2 a3 : Option Value} {s0 : Nat} {lay : List mShp} {M : mMem} {P : mPost} (hs : mSh lay s0 = some (13, 44)) : mG (d + 1) 166 10 [a0, a1, a2, a3] [.ref s0] lay M P = mF d 164 [.ref s0] lay M (fun v lay1 M1 => mG (d + 1) 166 13 [a0, a1, a2, a3] (v.toList ++ []) lay1 M1 P) := e_virtP0 (j := 164) (c := 10) rfl rfl rfl rfl rfl rfl hs (Nat.le_of_ble_eq_true rfl)
set_option maxRecDepth 20000 in
theorem g166_13 {d : Nat} {a0 a1 a2 a3 : Option Value} {s0 : Int32} {lay : List mShp} {M : mMem} {P : mPost} : mG (d) 166 13 [a0, a1, a2, a3] [.int s0] lay M P = P (some (.int s0)) lay M := e_ireturnI rfl rfl
set_option maxRecDepth 20000 in
theorem g166_14 {d : Nat} {a1 a2 a3 : Option Value} {x : Nat} {lay : List mShp} {M : mMem} {P : mPost} (hx : ¬ x = 0) : mG (d) 166 14 [some (.ref x), a1, a2, a3] [] lay M P = mG d 166 15 [some (.ref x), a1, a2, a3] [.ref x] lay M P := e_aload_nP hx (i := 0) rfl rfl rfl
set_option maxRecDepth 20000 in
theorem g166_15 {d : Nat} {a0 a1 a2 a3 : Option Value} {s0 : Nat} {lay : List mShp} {M : mMem} {P : mPost} : mG (d) 166 15 [a0, a1, a2, a3] [.ref s0] lay M P = mG d 166 17 [a0, a1, a2, a3] [.int (Int32.ofInt 33), .ref s0] lay M P := e_bipush rfl
set_option maxRecDepth 20000 in
theorem g166_17 {d : Nat} {a0 a1 a2 a3 : Option Value} {s0 : Int32} {s1 : Nat} {lay : List mShp} {M : mMem} {P : mPost} (hs : mSh lay s1 = some (13, 44)) : mG (d + 1) 166 17 [a0, a1, a2, a3] [.int s0, .ref s1] lay M P = mF d 162 [.ref s1, .int s0] lay M (fun v lay1 M1 => mG (d + 1) 166 20 [a0, a1, a2, a3] (v.toList ++ []) lay1 M1 P) := e_virtP1 (j := 162) (c := 10) rfl rfl rfl rfl rfl rfl hs (Nat.le_of_ble_eq_true rfl)
set_option maxRecDepth 20000 in
theorem g166_20 {d : Nat} {a0 a1 a2 a3 : Option Value} {s0 : Int32} {lay : List mShp} {M : mMem} {P : mPost} : mG (d) 166 20 [a0, a1, a2, a3] [.int s0] lay M P = if s0 = 0 then mG d 166 23 [a0, a1, a2, a3] [] lay M P else mG d 166 32 [a0, a1, a2, a3] [] lay M P := e_if_ne rfl rfl
set_option maxRecDepth 20000 in
theorem g166_23 {d : Nat} {a1 a2 a3 : Option Value} {x : Nat} {lay : List mShp} {M : mMem} {P : mPost} (hx : ¬ x = 0) : mG (d) 166 23 [some (.ref x), a1, a2, a3] [] lay M P = mG d 166 24 [some (.ref x), a1, a2, a3] [.ref x] lay M P := e_aload_nP hx (i := 0) rfl rfl rfl
set_option maxRecDepth 20000 in
theorem g166_24 {d : Nat} {a0 a1 a2 a3 : Option Value} {s0 : Nat} {lay : List mShp} {M : mMem} {P : mPost} : mG (d) 166 24 [a0, a1, a2, a3] [.ref s0] lay M P = mG d 166 26 [a0, a1, a2, a3] [.int (Int32.ofInt 45), .ref s0] lay M P := e_bipush rfl
set_option maxRecDepth 20000 in
theorem g166_26 {d : Nat} {a0 a1 a2 a3 : Option Value} {s0 : Int32} {s1 : Nat} {lay : List mShp} {M : mMem} {P : mPost} (hs : mSh lay s1 = some (13, 44)) : mG (d + 1) 166 26 [a0, a1, a2, a3] [.int s0, .ref s1] lay M P = mF d 162 [.ref s1, .int s0] lay M (fun v lay1 M1 => mG (d + 1) 166 29 [a0, a1, a2, a3] (v.toList ++ []) lay1 M1 P) := e_virtP1 (j := 162) (c := 10) rfl rfl rfl rfl rfl rfl hs (Nat.le_of_ble_eq_true rfl)
set_option maxRecDepth 20000 in
theorem g166_29 {d : Nat} {a0 a1 a2 a3 : Option Value} {s0 : Int32} {lay : List mShp} {M : mMem} {P : mPost} : mG (d) 166 29 [a0, a1, a2, a3] [.int s0] lay M P = if s0 = 0 then mG d 166 82 [a0, a1, a2, a3] [] lay M P else mG d 166 32 [a0, a1, a2, a3] [] lay M P := e_if_eq rfl rfl
set_option maxRecDepth 20000 in
theorem g166_32 {d : Nat} {a1 a2 a3 : Option Value} {x : Nat} {lay : List mShp} {M : mMem} {P : mPost} (hx : ¬ x = 0) : mG (d) 166 32 [some (.ref x), a1, a2, a3] [] lay M P = mG d 166 33 [some (.ref x), a1, a2, a3] [.ref x] lay M P := e_aload_nP hx (i := 0) rfl rfl rfl
set_option maxRecDepth 20000 in
theorem g166_33 {d : Nat} {a0 a1 a2 a3 : Option Value} {s0 : Nat} {lay : List mShp} {M : mMem} {P : mPost} : mG (d) 166 33 [a0, a1, a2, a3] [.ref s0] lay M P = mG d 166 35 [a0, a1, a2, a3] [.int (Int32.ofInt 33), .ref s0] lay M P := e_bipush rfl
set_option maxRecDepth 20000 in
theorem g166_35 {d : Nat} {a0 a1 a2 a3 : Option Value} {s0 : Int32} {s1 : Nat} {lay : List mShp} {M : mMem} {P : mPost} (hs : mSh lay s1 = some (13, 44)) : mG (d + 1) 166 35 [a0, a1, a2, a3] [.int s0, .ref s1] lay M P = mF d 162 [.ref s1, .int s0] lay M (fun v lay1 M1 => mG (d + 1) 166 38 [a0, a1, a2, a3] (v.toList ++ []) lay1 M1 P) := e_virtP1 (j := 162) (c := 10) rfl rfl rfl rfl rfl rfl hs (Nat.le_of_ble_eq_true rfl)
set_option maxRecDepth 20000 in
theorem g166_38 {d : Nat} {a0 a1 a2 a3 : Option Value} {s0 : Int32} {lay : List mShp} {M : mMem} {P : mPost} (h0 : mNoL a1 = true) : mG (d) 166 38 [a0, a1, a2, a3] [.int s0] lay M P = mG d 166 39 [a0, a1, some (.int s0), a3] [] lay M P := e_istore_n (i := 2) rfl rfl (by simp) (mS1_2 h0)
set_option maxRecDepth 20000 in
theorem g166_39 {d : Nat} {a1 a2 a3 : Option Value} {x : Nat} {lay : List mShp} {M : mMem} {P : mPost} (hx : ¬ x = 0) : mG (d) 166 39 [some (.ref x), a1, a2, a3] [] lay M P = mG d 166 40 [some (.ref x), a1, a2, a3] [.ref x] lay M P := e_aload_nP hx (i := 0) rfl rfl rfl
set_option maxRecDepth 20000 in
theorem g166_40 {d : Nat} {a0 a1 a2 a3 : Option Value} {s0 : Nat} {lay : List mShp} {M : mMem} {P : mPost} (hs : mSh lay s0 = some (13, 44)) : mG (d + 1) 166 40 [a0, a1, a2, a3] [.ref s0] lay M P = mF d 165 [.ref s0] lay M (fun v lay1 M1 => mG (d + 1) 166 43 [a0, a1, a2, a3] (v.toList ++ []) lay1 M1 P) := e_virtP0 (j := 165) (c := 10) rfl rfl rfl rfl rfl rfl hs (Nat.le_of_ble_eq_true rfl)
set_option maxRecDepth 20000 in
theorem g166_43 {d : Nat} {a0 a1 a2 a3 : Option Value} {s0 : Int32} {lay : List mShp} {M : mMem} {P : mPost} : mG (d) 166 43 [a0, a1, a2, a3] [.int s0] lay M P = if s0 = 0 then mG d 166 80 [a0, a1, a2, a3] [] lay M P else mG d 166 46 [a0, a1, a2, a3] [] lay M P := e_if_eq rfl rfl
set_option maxRecDepth 20000 in
theorem g166_46 {d : Nat} {a1 a2 a3 : Option Value} {x : Nat} {lay : List mShp} {M : mMem} {P : mPost} (hx : ¬ x = 0) : mG (d) 166 46 [some (.ref x), a1, a2, a3] [] lay M P = mG d 166 47 [some (.ref x), a1, a2, a3] [.ref x] lay M P := e_aload_nP hx (i := 0) rfl rfl rfl
set_option maxRecDepth 20000 in
theorem g166_47 {d : Nat} {a0 a1 a2 a3 : Option Value} {s0 : Nat} {lay : List mShp} {M : mMem} {P : mPost} (hs : mSh lay s0 = some (13, 44)) : mG (d + 1) 166 47 [a0, a1, a2, a3] [.ref s0] lay M P = mF d 166 [.ref s0] lay M (fun v lay1 M1 => mG (d + 1) 166 50 [a0, a1, a2, a3] (v.toList ++ []) lay1 M1 P) := e_virtP0 (j := 166) (c := 10) rfl rfl rfl rfl rfl rfl hs (Nat.le_of_ble_eq_true rfl)
set_option maxRecDepth 20000 in
theorem g166_50 {d : Nat} {a0 a1 a2 a3 : Option Value} {s0 : Int32} {lay : List mShp} {M : mMem} {P : mPost} (h0 : mNoL a2 = true) : mG (d) 166 50 [a0, a1, a2, a3] [.int s0] lay M P = mG d 166 51 [a0, a1, a2, some (.int s0)] [] lay M P := e_istore_n (i := 3) rfl rfl (by simp) (mS1_3 h0)
set_option maxRecDepth 20000 in
theorem g166_51 {d : Nat} {a0 a1 a3 : Option Value} {x : Int32} {lay : List mShp} {M : mMem} {P : mPost} : mG (d) 166 51 [a0, a1, some (.int x), a3] [] lay M P = mG d 166 52 [a0, a1, some (.int x), a3] [.int x] lay M P := e_iload_n (i := 2) rfl rfl rfl
set_option maxRecDepth 20000 in
theorem g166_52 {d : Nat} {a0 a1 a2 a3 : Option Value} {s0 : Int32} {lay : List mShp} {M : mMem} {P : mPost} : mG (d) 166 52 [a0, a1, a2, a3] [.int s0] lay M P = if s0 = 0 then mG d 166 67 [a0, a1, a2, a3] [] lay M P else mG d 166 55 [a0, a1, a2, a3] [] lay M P := e_if_eq rfl rfl
