set_option maxRecDepth 20000 in
theorem g185_71 {d : Nat} {a0 a1 a2 a3 a4 : Option Value} {s0 : Int32} {s1 : Int32} {lay : List mShp} {M : mMem} {P : mPost} : mG (d) 185 71 [a0, a1, a2, a3, a4] [.int s0, .int s1] lay M P = mG d 185 72 [a0, a1, a2, a3, a4] [.int (s1 &&& s0)] lay M P := e_iand rfl
set_option maxRecDepth 20000 in
theorem g185_72 {d : Nat} {a0 a1 a2 a3 a4 : Option Value} {s0 : Int32} {lay : List mShp} {M : mMem} {P : mPost} : mG (d) 185 72 [a0, a1, a2, a3, a4] [.int s0] lay M P = mG d 185 73 [a0, a1, a2, a3, a4] [.int (Int32.ofInt 1), .int s0] lay M P := e_iconst rfl
set_option maxRecDepth 20000 in
theorem g185_73 {d : Nat} {a0 a1 a2 a3 a4 : Option Value} {s0 : Int32} {s1 : Int32} {lay : List mShp} {M : mMem} {P : mPost} : mG (d) 185 73 [a0, a1, a2, a3, a4] [.int s0, .int s1] lay M P = if s1 = s0 then mG d 185 76 [a0, a1, a2, a3, a4] [] lay M P else mG d 185 80 [a0, a1, a2, a3, a4] [] lay M P := e_icmp_ne rfl rfl
set_option maxRecDepth 20000 in
theorem g185_76 {d : Nat} {a0 a1 a2 a4 : Option Value} {x : Int32} {lay : List mShp} {M : mMem} {P : mPost} : mG (d) 185 76 [a0, a1, a2, some (.int x), a4] [] lay M P = mG d 185 77 [a0, a1, a2, some (.int x), a4] [.int x] lay M P := e_iload_n (i := 3) rfl rfl rfl
set_option maxRecDepth 20000 in
theorem g185_77 {d : Nat} {a0 a1 a2 a3 a4 : Option Value} {s0 : Int32} {lay : List mShp} {M : mMem} {P : mPost} : mG (d) 185 77 [a0, a1, a2, a3, a4] [.int s0] lay M P = mG d 185 82 [a0, a1, a2, a3, a4] [.int s0] lay M P := e_goto rfl rfl
set_option maxRecDepth 20000 in
theorem g185_80 {d : Nat} {a0 a1 a2 a3 a4 : Option Value} {lay : List mShp} {M : mMem} {P : mPost} : mG (d) 185 80 [a0, a1, a2, a3, a4] [] lay M P = mG d 185 82 [a0, a1, a2, a3, a4] [.int (Int32.ofInt (-2))] lay M P := e_bipush rfl
set_option maxRecDepth 20000 in
theorem g185_82 {d : Nat} {a0 a1 a2 a3 a4 : Option Value} {s0 : Int32} {lay : List mShp} {M : mMem} {P : mPost} (h0 : mNoL a1 = true) : mG (d) 185 82 [a0, a1, a2, a3, a4] [.int s0] lay M P = mG d 185 83 [a0, a1, some (.int s0), a3, a4] [] lay M P := e_istore_n (i := 2) rfl rfl (by simp) (mS1_2 h0)
set_option maxRecDepth 20000 in
theorem g185_83 {d : Nat} {a1 a2 a3 a4 : Option Value} {x : Nat} {lay : List mShp} {M : mMem} {P : mPost} (hx : ¬ x = 0) : mG (d) 185 83 [some (.ref x), a1, a2, a3, a4] [] lay M P = mG d 185 84 [some (.ref x), a1, a2, a3, a4] [.ref x] lay M P := e_aload_nP hx (i := 0) rfl rfl rfl
set_option maxRecDepth 20000 in
theorem g185_84 {d : Nat} {a0 a1 a2 a3 a4 : Option Value} {s0 : Nat} {lay : List mShp} {M : mMem} {P : mPost} (hs : mSh lay s0 = some (13, 44)) : mG (d + 1) 185 84 [a0, a1, a2, a3, a4] [.ref s0] lay M P = mF d 179 [.ref s0] lay M (fun v lay1 M1 => mG (d + 1) 185 87 [a0, a1, a2, a3, a4] (v.toList ++ []) lay1 M1 P) := e_virtP0 (j := 179) (c := 10) rfl rfl rfl rfl rfl rfl hs (Nat.le_of_ble_eq_true rfl)
set_option maxRecDepth 20000 in
theorem g185_87 {d : Nat} {a0 a1 a2 a4 : Option Value} {x : Int32} {lay : List mShp} {M : mMem} {P : mPost} (h0 : mNoL a2 = true) : mG (d) 185 87 [a0, a1, a2, some (.int x), a4] [] lay M P = mG d 185 90 [a0, a1, a2, some (.int (x + Int32.ofInt 1)), a4] [] lay M P := e_iinc (n := 3) rfl rfl (mS1_3 h0)
set_option maxRecDepth 20000 in
theorem g185_90 {d : Nat} {a0 a1 a2 a3 a4 : Option Value} {lay : List mShp} {M : mMem} {P : mPost} : mG (d) 185 90 [a0, a1, a2, a3, a4] [] lay M P = mG d 185 25 [a0, a1, a2, a3, a4] [] lay M P := e_goto rfl rfl
set_option maxRecDepth 20000 in
theorem g185_93 {d : Nat} {a1 a2 a3 a4 : Option Value} {x : Nat} {lay : List mShp} {M : mMem} {P : mPost} (hx : ¬ x = 0) : mG (d) 185 93 [some (.ref x), a1, a2, a3, a4] [] lay M P = mG d 185 94 [some (.ref x), a1, a2, a3, a4] [.ref x] lay M P := e_aload_nP hx (i := 0) rfl rfl rfl
set_option maxRecDepth 20000 in
theorem g185_94 {d : Nat} {a0 a1 a2 a3 a4 : Option Value} {s0 : Nat} {lay : List mShp} {M : mMem} {P : mPost} : mG (d) 185 94 [a0, a1, a2, a3, a4] [.ref s0] lay M P = mG d 185 95 [a0, a1, a2, a3, a4] [.int (Int32.ofInt 0), .ref s0] lay M P := e_iconst rfl
set_option maxRecDepth 20000 in
theorem g185_95 {d : Nat} {a0 a1 a2 a3 a4 : Option Value} {s0 : Int32} {s1 : Nat} {lay : List mShp} {M : mMem} {P : mPost} (hs : mSh lay s1 = some (13, 44)) : mG (d + 1) 185 95 [a0, a1, a2, a3, a4] [.int s0, .ref s1] lay M P = mF d 150 [.ref s1, .int s0] lay M (fun v lay1 M1 => mG (d + 1) 185 98 [a0, a1, a2, a3, a4] (v.toList ++ []) lay1 M1 P) := e_virtP1 (j := 150) (c := 10) rfl rfl rfl rfl rfl rfl hs (Nat.le_of_ble_eq_true rfl)
set_option maxRecDepth 20000 in
theorem g185_98 {d : Nat} {a0 a1 a3 a4 : Option Value} {x : Int32} {lay : List mShp} {M : mMem} {P : mPost} : mG (d) 185 98 [a0, a1, some (.int x), a3, a4] [] lay M P = mG d 185 99 [a0, a1, some (.int x), a3, a4] [.int x] lay M P := e_iload_n (i := 2) rfl rfl rfl
set_option maxRecDepth 20000 in
theorem g185_99 {d : Nat} {a0 a1 a2 a3 a4 : Option Value} {s0 : Int32} {lay : List mShp} {M : mMem} {P : mPost} : mG (d) 185 99 [a0, a1, a2, a3, a4] [.int s0] lay M P = P (some (.int s0)) lay M := e_ireturnI rfl rfl
-- 186 X10_care
theorem g186_in {d : Nat} {x0 : Nat} {x1 : Int32} {x2 : Int32} {lay : List mShp} {M : mMem} {P : mPost} : mF d 186 [.ref x0, .int x1, .int x2] lay M P = mG d 186 0 [some (.ref x0), some (.int x1), some (.int x2), none, none, none] [] lay M P := mF_in rfl rfl
set_option maxRecDepth 20000 in
theorem g186_0 {d : Nat} {a1 a2 a3 a4 a5 : Option Value} {x : Nat} {lay : List mShp} {M : mMem} {P : mPost} (hx : ¬ x = 0) : mG (d) 186 0 [some (.ref x), a1, a2, a3, a4, a5] [] lay M P = mG d 186 1 [some (.ref x), a1, a2, a3, a4, a5] [.ref x] lay M P := e_aload_nP hx (i := 0) rfl rfl rfl
set_option maxRecDepth 20000 in
theorem g186_1 {d : Nat} {a0 a2 a3 a4 a5 : Option Value} {s0 : Nat} {x : Int32} {lay : List mShp} {M : mMem} {P : mPost} : mG (d) 186 1 [a0, some (.int x), a2, a3, a4, a5] [.ref s0] lay M P = mG d 186 2 [a0, some (.int x), a2, a3, a4, a5] [.int x, .ref s0] lay M P := e_iload_n (i := 1) rfl rfl rfl
set_option maxRecDepth 20000 in
theorem g186_2 {d : Nat} {a0 a1 a2 a3 a4 a5 : Option Value} {s0 : Int32} {s1 : Nat} {lay : List mShp} {M : mMem} {P : mPost} (hs : mSh lay s1 = some (13, 44)) : mG (d + 1) 186 2 [a0, a1, a2, a3, a4, a5] [.int s0, .ref s1] lay M P = mF d 151 [.ref s1, .int s0] lay M (fun v lay1 M1 => mG (d + 1) 186 5 [a0, a1, a2, a3, a4, a5] (v.toList ++ []) lay1 M1 P) := e_virtP1 (j := 151) (c := 10) rfl rfl rfl rfl rfl rfl hs (Nat.le_of_ble_eq_true rfl)
set_option maxRecDepth 20000 in
theorem g186_5 {d : Nat} {a0 a1 a2 a3 a4 a5 : Option Value} {s0 : Int32} {lay : List mShp} {M : mMem} {P : mPost} : mG (d) 186 5 [a0, a1, a2, a3, a4, a5] [.int s0] lay M P = if s0 = 0 then mG d 186 17 [a0, a1, a2, a3, a4, a5] [] lay M P else mG d 186 8 [a0, a1, a2, a3, a4, a5] [] lay M P := e_if_eq rfl rfl
set_option maxRecDepth 20000 in
theorem g186_8 {d : Nat} {a0 a1 a3 a4 a5 : Option Value} {x : Int32} {lay : List mShp} {M : mMem} {P : mPost} : mG (d) 186 8 [a0, a1, some (.int x), a3, a4, a5] [] lay M P = mG d 186 9 [a0, a1, some (.int x), a3, a4, a5] [.int x] lay M P := e_iload_n (i := 2) rfl rfl rfl
set_option maxRecDepth 20000 in
theorem g186_9 {d : Nat} {a0 a1 a2 a3 a4 a5 : Option Value} {s0 : Int32} {lay : List mShp} {M : mMem} {P : mPost} : mG (d) 186 9 [a0, a1, a2, a3, a4, a5] [.int s0] lay M P = mG d 186 10 [a0, a1, a2, a3, a4, a5] [.int (Int32.ofInt 0), .int s0] lay M P := e_iconst rfl
set_option maxRecDepth 20000 in
theorem g186_10 {d : Nat} {a0 a1 a2 a3 a4 a5 : Option Value} {s0 : Int32} {s1 : Int32} {lay : List mShp} {M : mMem} {P : mPost} : mG (d) 186 10 [a0, a1, a2, a3, a4, a5] [.int s0, .int s1] lay M P = mG d 186 11 [a0, a1, a2, a3, a4, a5] [.int (Int32.ofInt 1), .int s0, .int s1] lay M P := e_iconst rfl
set_option maxRecDepth 20000 in
theorem g186_11 {d : Nat} {a0 a1 a2 a3 a4 a5 : Option Value} {s0 : Int32} {s1 : Int32} {s2 : Int32} {lay : List mShp} {M : mMem} {P : mPost} : mG (d + 1) 186 11 [a0, a1, a2, a3, a4, a5] [.int s0, .int s1, .int s2] lay M P = mF d 146 [.int s2, .int s1, .int s0] lay M (fun v lay1 M1 => mG (d + 1) 186 14 [a0, a1, a2, a3, a4, a5] (v.toList ++ []) lay1 M1 P) := e_static3 (j := 146) rfl rfl rfl rfl rfl (Nat.le_of_ble_eq_true rfl)
set_option maxRecDepth 20000 in
theorem g186_14 {d : Nat} {a0 a1 a2 a3 a4 a5 : Option Value} {s0 : Int32} {lay : List mShp} {M : mMem} {P : mPost} : mG (d) 186 14 [a0, a1, a2, a3, a4, a5] [.int s0] lay M P = if s0 = 0 then mG d 186 17 [a0, a1, a2, a3, a4, a5] [] lay M P else mG d 186 19 [a0, a1, a2, a3, a4, a5] [] lay M P := e_if_ne rfl rfl
set_option maxRecDepth 20000 in
theorem g186_17 {d : Nat} {a0 a1 a2 a3 a4 a5 : Option Value} {lay : List mShp} {M : mMem} {P : mPost} : mG (d) 186 17 [a0, a1, a2, a3, a4, a5] [] lay M P = mG d 186 18 [a0, a1, a2, a3, a4, a5] [.int (Int32.ofInt (-1))] lay M P := e_iconst rfl
set_option maxRecDepth 20000 in
theorem g186_18 {d : Nat} {a0 a1 a2 a3 a4 a5 : Option Value} {s0 : Int32} {lay : List mShp} {M : mMem} {P : mPost} : mG (d) 186 18 [a0, a1, a2, a3, a4, a5] [.int s0] lay M P = P (some (.int s0)) lay M := e_ireturnI rfl rfl
set_option maxRecDepth 20000 in
theorem g186_19 {d : Nat} {a0 a2 a3 a4 a5 : Option Value} {x : Int32} {lay : List mShp} {M : mMem} {P : mPost} : mG (d) 186 19 [a0, some (.int x), a2, a3, a4, a5] [] lay M P = mG d 186 20 [a0, some (.int x), a2, a3, a4, a5] [.int x] lay M P := e_iload_n (i := 1) rfl rfl rfl
set_option maxRecDepth 20000 in
theorem g186_20 {d : Nat} {a0 a1 a2 a3 a4 a5 : Option Value} {s0 : Int32} {lay : List mShp} {M : mMem} {P : mPost} (h0 : mNoL a2 = true) : mG (d) 186 20 [a0, a1, a2, a3, a4, a5] [.int s0] lay M P = mG d 186 21 [a0, a1, a2, some (.int s0), a4, a5] [] lay M P := e_istore_n (i := 3) rfl rfl (by simp) (mS1_3 h0)
set_option maxRecDepth 20000 in
theorem g186_21 {d : Nat} {a0 a1 a2 a3 a4 a5 : Option Value} {lay : List mShp} {M : mMem} {P : mPost} : mG (d) 186 21 [a0, a1, a2, a3, a4, a5] [] lay M P = mG d 186 22 [a0, a1, a2, a3, a4, a5] [.int (Int32.ofInt 0)] lay M P := e_iconst rfl
set_option maxRecDepth 20000 in
theorem g186_22 {d : Nat} {a0 a1 a2 a3 a4 a5 : Option Value} {s0 : Int32} {lay : List mShp} {M : mMem} {P : mPost} (h0 : mNoL a3 = true) : mG (d) 186 22 [a0, a1, a2, a3, a4, a5] [.int s0] lay M P = mG d 186 24 [a0, a1, a2, a3, some (.int s0), a5] [] lay M P := e_istore (i := 4) rfl (by simp) (mS1_4 h0)
set_option maxRecDepth 20000 in
theorem g186_24 {d : Nat} {a0 a1 a2 a3 a5 : Option Value} {x : Int32} {lay : List mShp} {M : mMem} {P : mPost} : mG (d) 186 24 [a0, a1, a2, a3, some (.int x), a5] [] lay M P = mG d 186 26 [a0, a1, a2, a3, some (.int x), a5] [.int x] lay M P := e_iload (i := 4) rfl rfl
set_option maxRecDepth 20000 in
theorem g186_26 {d : Nat} {a0 a1 a2 a3 a4 a5 : Option Value} {s0 : Int32} {lay : List mShp} {M : mMem} {P : mPost} : mG (d) 186 26 [a0, a1, a2, a3, a4, a5] [.int s0] lay M P = mG d 186 28 [a0, a1, a2, a3, a4, a5] [.int (Int32.ofInt 8), .int s0] lay M P := e_bipush rfl
set_option maxRecDepth 20000 in
theorem g186_28 {d : Nat} {a0 a1 a2 a3 a4 a5 : Option Value} {s0 : Int32} {s1 : Int32} {lay : List mShp} {M : mMem} {P : mPost} : mG (d) 186 28 [a0, a1, a2, a3, a4, a5] [.int s0, .int s1] lay M P = if s1 < s0 then mG d 186 31 [a0, a1, a2, a3, a4, a5] [] lay M P else mG d 186 86 [a0, a1, a2, a3, a4, a5] [] lay M P := e_icmp_ge rfl rfl
set_option maxRecDepth 20000 in
theorem g186_31 {d : Nat} {a1 a2 a3 a4 a5 : Option Value} {x : Nat} {lay : List mShp} {M : mMem} {P : mPost} (hx : ¬ x = 0) : mG (d) 186 31 [some (.ref x), a1, a2, a3, a4, a5] [] lay M P = mG d 186 32 [some (.ref x), a1, a2, a3, a4, a5] [.ref x] lay M P := e_aload_nP hx (i := 0) rfl rfl rfl
set_option maxRecDepth 20000 in
theorem g186_32 {d : Nat} {a0 a1 a2 a4 a5 : Option Value} {s0 : Nat} {x : Int32} {lay : List mShp} {M : mMem} {P : mPost} : mG (d) 186 32 [a0, a1, a2, some (.int x), a4, a5] [.ref s0] lay M P = mG d 186 33 [a0, a1, a2, some (.int x), a4, a5] [.int x, .ref s0] lay M P := e_iload_n (i := 3) rfl rfl rfl
set_option maxRecDepth 20000 in
theorem g186_33 {d : Nat} {a0 a1 a2 a3 a4 a5 : Option Value} {s0 : Int32} {s1 : Nat} {lay : List mShp} {M : mMem} {P : mPost} : mG (d) 186 33 [a0, a1, a2, a3, a4, a5] [.int s0, .ref s1] lay M P = mG d 186 34 [a0, a1, a2, a3, a4, a5] [.int (Int32.ofInt 4), .int s0, .ref s1] lay M P := e_iconst rfl
set_option maxRecDepth 20000 in
theorem g186_34 {d : Nat} {a0 a1 a2 a3 a4 a5 : Option Value} {s0 : Int32} {s1 : Int32} {s2 : Nat} {lay : List mShp} {M : mMem} {P : mPost} (hs : mSh lay s2 = some (13, 44)) : mG (d + 1) 186 34 [a0, a1, a2, a3, a4, a5] [.int s0, .int s1, .ref s2] lay M P = mF d 152 [.ref s2, .int s1, .int s0] lay M (fun v lay1 M1 => mG (d + 1) 186 37 [a0, a1, a2, a3, a4, a5] (v.toList ++ []) lay1 M1 P) := e_virtP2 (j := 152) (c := 10) rfl rfl rfl rfl rfl rfl hs (Nat.le_of_ble_eq_true rfl)
set_option maxRecDepth 20000 in
theorem g186_37 {d : Nat} {a0 a1 a2 a3 a4 a5 : Option Value} {s0 : Int32} {lay : List mShp} {M : mMem} {P : mPost} (h0 : mNoL a4 = true) : mG (d) 186 37 [a0, a1, a2, a3, a4, a5] [.int s0] lay M P = mG d 186 39 [a0, a1, a2, a3, a4, some (.int s0)] [] lay M P := e_istore (i := 5) rfl (by simp) (mS1_5 h0)
set_option maxRecDepth 20000 in
theorem g186_39 {d : Nat} {a0 a1 a3 a4 a5 : Option Value} {x : Int32} {lay : List mShp} {M : mMem} {P : mPost} : mG (d) 186 39 [a0, a1, some (.int x), a3, a4, a5] [] lay M P = mG d 186 40 [a0, a1, some (.int x), a3, a4, a5] [.int x] lay M P := e_iload_n (i := 2) rfl rfl rfl
set_option maxRecDepth 20000 in
theorem g186_40 {d : Nat} {a0 a1 a2 a3 a4 a5 : Option Value} {s0 : Int32} {lay : List mShp} {M : mMem} {P : mPost} : mG (d) 186 40 [a0, a1, a2, a3, a4, a5] [.int s0] lay M P = if s0 = 0 then mG d 186 43 [a0, a1, a2, a3, a4, a5] [] lay M P else mG d 186 51 [a0, a1, a2, a3, a4, a5] [] lay M P := e_if_ne rfl rfl
set_option maxRecDepth 20000 in
theorem g186_43 {d : Nat} {a0 a1 a2 a3 a4 : Option Value} {x : Int32} {lay : List mShp} {M : mMem} {P : mPost} : mG (d) 186 43 [a0, a1, a2, a3, a4, some (.int x)] [] lay M P = mG d 186 45 [a0, a1, a2, a3, a4, some (.int x)] [.int x] lay M P := e_iload (i := 5) rfl rfl
set_option maxRecDepth 20000 in
theorem g186_45 {d : Nat} {a0 a1 a2 a3 a4 a5 : Option Value} {s0 : Int32} {lay : List mShp} {M : mMem} {P : mPost} : mG (d) 186 45 [a0, a1, a2, a3, a4, a5] [.int s0] lay M P = mG d 186 46 [a0, a1, a2, a3, a4, a5] [.int (Int32.ofInt (-1)), .int s0] lay M P := e_iconst rfl
set_option maxRecDepth 20000 in
theorem g186_46 {d : Nat} {a0 a1 a2 a3 a4 a5 : Option Value} {s0 : Int32} {s1 : Int32} {lay : List mShp} {M : mMem} {P : mPost} : mG (d) 186 46 [a0, a1, a2, a3, a4, a5] [.int s0, .int s1] lay M P = if s1 = s0 then mG d 186 49 [a0, a1, a2, a3, a4, a5] [] lay M P else mG d 186 51 [a0, a1, a2, a3, a4, a5] [] lay M P := e_icmp_ne rfl rfl
set_option maxRecDepth 20000 in
theorem g186_49 {d : Nat} {a0 a1 a2 a4 a5 : Option Value} {x : Int32} {lay : List mShp} {M : mMem} {P : mPost} : mG (d) 186 49 [a0, a1, a2, some (.int x), a4, a5] [] lay M P = mG d 186 50 [a0, a1, a2, some (.int x), a4, a5] [.int x] lay M P := e_iload_n (i := 3) rfl rfl rfl
set_option maxRecDepth 20000 in
theorem g186_50 {d : Nat} {a0 a1 a2 a3 a4 a5 : Option Value} {s0 : Int32} {lay : List mShp} {M : mMem} {P : mPost} : mG (d) 186 50 [a0, a1, a2, a3, a4, a5] [.int s0] lay M P = P (some (.int s0)) lay M := e_ireturnI rfl rfl
set_option maxRecDepth 20000 in
theorem g186_51 {d : Nat} {a0 a1 a3 a4 a5 : Option Value} {x : Int32} {lay : List mShp} {M : mMem} {P : mPost} : mG (d) 186 51 [a0, a1, some (.int x), a3, a4, a5] [] lay M P = mG d 186 52 [a0, a1, some (.int x), a3, a4, a5] [.int x] lay M P := e_iload_n (i := 2) rfl rfl rfl
set_option maxRecDepth 20000 in
theorem g186_52 {d : Nat} {a0 a1 a2 a3 a4 a5 : Option Value} {s0 : Int32} {lay : List mShp} {M : mMem} {P : mPost} : mG (d) 186 52 [a0, a1, a2, a3, a4, a5] [.int s0] lay M P = mG d 186 53 [a0, a1, a2, a3, a4, a5] [.int (Int32.ofInt 1), .int s0] lay M P := e_iconst rfl
set_option maxRecDepth 20000 in
theorem g186_53 {d : Nat} {a0 a1 a2 a3 a4 a5 : Option Value} {s0 : Int32} {s1 : Int32} {lay : List mShp} {M : mMem} {P : mPost} : mG (d) 186 53 [a0, a1, a2, a3, a4, a5] [.int s0, .int s1] lay M P = if s1 = s0 then mG d 186 56 [a0, a1, a2, a3, a4, a5] [] lay M P else mG d 186 67 [a0, a1, a2, a3, a4, a5] [] lay M P := e_icmp_ne rfl rfl
set_option maxRecDepth 20000 in
theorem g186_56 {d : Nat} {a0 a1 a2 a3 a4 : Option Value} {x : Int32} {lay : List mShp} {M : mMem} {P : mPost} : mG (d) 186 56 [a0, a1, a2, a3, a4, some (.int x)] [] lay M P = mG d 186 58 [a0, a1, a2, a3, a4, some (.int x)] [.int x] lay M P := e_iload (i := 5) rfl rfl
set_option maxRecDepth 20000 in
theorem g186_58 {d : Nat} {a0 a2 a3 a4 a5 : Option Value} {s0 : Int32} {x : Int32} {lay : List mShp} {M : mMem} {P : mPost} : mG (d) 186 58 [a0, some (.int x), a2, a3, a4, a5] [.int s0] lay M P = mG d 186 59 [a0, some (.int x), a2, a3, a4, a5] [.int x, .int s0] lay M P := e_iload_n (i := 1) rfl rfl rfl
set_option maxRecDepth 20000 in
theorem g186_59 {d : Nat} {a0 a1 a2 a3 a4 a5 : Option Value} {s0 : Int32} {s1 : Int32} {lay : List mShp} {M : mMem} {P : mPost} : mG (d) 186 59 [a0, a1, a2, a3, a4, a5] [.int s0, .int s1] lay M P = if s1 = s0 then mG d 186 62 [a0, a1, a2, a3, a4, a5] [] lay M P else mG d 186 67 [a0, a1, a2, a3, a4, a5] [] lay M P := e_icmp_ne rfl rfl
set_option maxRecDepth 20000 in
theorem g186_62 {d : Nat} {a0 a1 a2 a3 a5 : Option Value} {x : Int32} {lay : List mShp} {M : mMem} {P : mPost} : mG (d) 186 62 [a0, a1, a2, a3, some (.int x), a5] [] lay M P = mG d 186 64 [a0, a1, a2, a3, some (.int x), a5] [.int x] lay M P := e_iload (i := 4) rfl rfl
set_option maxRecDepth 20000 in
theorem g186_64 {d : Nat} {a0 a1 a2 a3 a4 a5 : Option Value} {s0 : Int32} {lay : List mShp} {M : mMem} {P : mPost} : mG (d) 186 64 [a0, a1, a2, a3, a4, a5] [.int s0] lay M P = mG d 186 65 [a0, a1, a2, a3, a4, a5] [.int (Int32.ofInt 1), .int s0] lay M P := e_iconst rfl
set_option maxRecDepth 20000 in
theorem g186_65 {d : Nat} {a0 a1 a2 a3 a4 a5 : Option Value} {s0 : Int32} {s1 : Int32} {lay : List mShp} {M : mMem} {P : mPost} : mG (d) 186 65 [a0, a1, a2, a3, a4, a5] [.int s0, .int s1] lay M P = mG d 186 66 [a0, a1, a2, a3, a4, a5] [.int (s1 + s0)] lay M P := e_iadd rfl
set_option maxRecDepth 20000 in
theorem g186_66 {d : Nat} {a0 a1 a2 a3 a4 a5 : Option Value} {s0 : Int32} {lay : List mShp} {M : mMem} {P : mPost} : mG (d) 186 66 [a0, a1, a2, a3, a4, a5] [.int s0] lay M P = P (some (.int s0)) lay M := e_ireturnI rfl rfl
set_option maxRecDepth 20000 in
theorem g186_67 {d : Nat} {a0 a1 a2 a3 a4 : Option Value} {x : Int32} {lay : List mShp} {M : mMem} {P : mPost} : mG (d) 186 67 [a0, a1, a2, a3, a4, some (.int x)] [] lay M P = mG d 186 69 [a0, a1, a2, a3, a4, some (.int x)] [.int x] lay M P := e_iload (i := 5) rfl rfl
set_option maxRecDepth 20000 in
theorem g186_69 {d : Nat} {a0 a1 a2 a3 a4 a5 : Option Value} {s0 : Int32} {lay : List mShp} {M : mMem} {P : mPost} : mG (d) 186 69 [a0, a1, a2, a3, a4, a5] [.int s0] lay M P = mG d 186 70 [a0, a1, a2, a3, a4, a5] [.int (Int32.ofInt (-1)), .int s0] lay M P := e_iconst rfl
set_option maxRecDepth 20000 in
theorem g186_70 {d : Nat} {a0 a1 a2 a3 a4 a5 : Option Value} {s0 : Int32} {s1 : Int32} {lay : List mShp} {M : mMem} {P : mPost} : mG (d) 186 70 [a0, a1, a2, a3, a4, a5] [.int s0, .int s1] lay M P = if s1 = s0 then mG d 186 73 [a0, a1, a2, a3, a4, a5] [] lay M P else mG d 186 77 [a0, a1, a2, a3, a4, a5] [] lay M P := e_icmp_ne rfl rfl
set_option maxRecDepth 20000 in
theorem g186_73 {d : Nat} {a0 a1 a2 a4 a5 : Option Value} {x : Int32} {lay : List mShp} {M : mMem} {P : mPost} : mG (d) 186 73 [a0, a1, a2, some (.int x), a4, a5] [] lay M P = mG d 186 74 [a0, a1, a2, some (.int x), a4, a5] [.int x] lay M P := e_iload_n (i := 3) rfl rfl rfl
set_option maxRecDepth 20000 in
theorem g186_74 {d : Nat} {a0 a1 a2 a3 a4 a5 : Option Value} {s0 : Int32} {lay : List mShp} {M : mMem} {P : mPost} : mG (d) 186 74 [a0, a1, a2, a3, a4, a5] [.int s0] lay M P = mG d 186 79 [a0, a1, a2, a3, a4, a5] [.int s0] lay M P := e_goto rfl rfl
set_option maxRecDepth 20000 in
theorem g186_77 {d : Nat} {a0 a1 a2 a3 a4 : Option Value} {x : Int32} {lay : List mShp} {M : mMem} {P : mPost} : mG (d) 186 77 [a0, a1, a2, a3, a4, some (.int x)] [] lay M P = mG d 186 79 [a0, a1, a2, a3, a4, some (.int x)] [.int x] lay M P := e_iload (i := 5) rfl rfl
set_option maxRecDepth 20000 in
theorem g186_79 {d : Nat} {a0 a1 a2 a3 a4 a5 : Option Value} {s0 : Int32} {lay : List mShp} {M : mMem} {P : mPost} (h0 : mNoL a2 = true) : mG (d) 186 79 [a0, a1, a2, a3, a4, a5] [.int s0] lay M P = mG d 186 80 [a0, a1, a2, some (.int s0), a4, a5] [] lay M P := e_istore_n (i := 3) rfl rfl (by simp) (mS1_3 h0)
set_option maxRecDepth 20000 in
theorem g186_80 {d : Nat} {a0 a1 a2 a3 a5 : Option Value} {x : Int32} {lay : List mShp} {M : mMem} {P : mPost} (h0 : mNoL a3 = true) : mG (d) 186 80 [a0, a1, a2, a3, some (.int x), a5] [] lay M P = mG d 186 83 [a0, a1, a2, a3, some (.int (x + Int32.ofInt 1)), a5] [] lay M P := e_iinc (n := 4) rfl rfl (mS1_4 h0)
set_option maxRecDepth 20000 in
theorem g186_83 {d : Nat} {a0 a1 a2 a3 a4 a5 : Option Value} {lay : List mShp} {M : mMem} {P : mPost} : mG (d) 186 83 [a0, a1, a2, a3, a4, a5] [] lay M P = mG d 186 24 [a0, a1, a2, a3, a4, a5] [] lay M P := e_goto rfl rfl
set_option maxRecDepth 20000 in
theorem g186_86 {d : Nat} {a0 a1 a3 a4 a5 : Option Value} {x : Int32} {lay : List mShp} {M : mMem} {P : mPost} : mG (d) 186 86 [a0, a1, some (.int x), a3, a4, a5] [] lay M P = mG d 186 87 [a0, a1, some (.int x), a3, a4, a5] [.int x] lay M P := e_iload_n (i := 2) rfl rfl rfl
set_option maxRecDepth 20000 in
theorem g186_87 {d : Nat} {a0 a1 a2 a3 a4 a5 : Option Value} {s0 : Int32} {lay : List mShp} {M : mMem} {P : mPost} : mG (d) 186 87 [a0, a1, a2, a3, a4, a5] [.int s0] lay M P = if s0 = 0 then mG d 186 90 [a0, a1, a2, a3, a4, a5] [] lay M P else mG d 186 104 [a0, a1, a2, a3, a4, a5] [] lay M P := e_if_ne rfl rfl
set_option maxRecDepth 20000 in
theorem g186_90 {d : Nat} {a1 a2 a3 a4 a5 : Option Value} {x : Nat} {lay : List mShp} {M : mMem} {P : mPost} (hx : ¬ x = 0) : mG (d) 186 90 [some (.ref x), a1, a2, a3, a4, a5] [] lay M P = mG d 186 91 [some (.ref x), a1, a2, a3, a4, a5] [.ref x] lay M P := e_aload_nP hx (i := 0) rfl rfl rfl
set_option maxRecDepth 20000 in
theorem g186_91 {d : Nat} {a0 a1 a2 a4 a5 : Option Value} {s0 : Nat} {x : Int32} {lay : List mShp} {M : mMem} {P : mPost} : mG (d) 186 91 [a0, a1, a2, some (.int x), a4, a5] [.ref s0] lay M P = mG d 186 92 [a0, a1, a2, some (.int x), a4, a5] [.int x, .ref s0] lay M P := e_iload_n (i := 3) rfl rfl rfl
set_option maxRecDepth 20000 in
theorem g186_92 {d : Nat} {a0 a1 a2 a3 a4 a5 : Option Value} {s0 : Int32} {s1 : Nat} {lay : List mShp} {M : mMem} {P : mPost} : mG (d) 186 92 [a0, a1, a2, a3, a4, a5] [.int s0, .ref s1] lay M P = mG d 186 93 [a0, a1, a2, a3, a4, a5] [.int (Int32.ofInt 4), .int s0, .ref s1] lay M P := e_iconst rfl
set_option maxRecDepth 20000 in
theorem g186_93 {d : Nat} {a0 a1 a2 a3 a4 a5 : Option Value} {s0 : Int32} {s1 : Int32} {s2 : Nat} {lay : List mShp} {M : mMem} {P : mPost} (hs : mSh lay s2 = some (13, 44)) : mG (d + 1) 186 93 [a0, a1, a2, a3, a4, a5] [.int s0, .int s1, .ref s2] lay M P = mF d 152 [.ref s2, .int s1, .int s0] lay M (fun v lay1 M1 => mG (d + 1) 186 96 [a0, a1, a2, a3, a4, a5] (v.toList ++ []) lay1 M1 P) := e_virtP2 (j := 152) (c := 10) rfl rfl rfl rfl rfl rfl hs (Nat.le_of_ble_eq_true rfl)
set_option maxRecDepth 20000 in
theorem g186_96 {d : Nat} {a0 a1 a2 a3 a4 a5 : Option Value} {s0 : Int32} {lay : List mShp} {M : mMem} {P : mPost} : mG (d) 186 96 [a0, a1, a2, a3, a4, a5] [.int s0] lay M P = mG d 186 97 [a0, a1, a2, a3, a4, a5] [.int (Int32.ofInt (-1)), .int s0] lay M P := e_iconst rfl
set_option maxRecDepth 20000 in
theorem g186_97 {d : Nat} {a0 a1 a2 a3 a4 a5 : Option Value} {s0 : Int32} {s1 : Int32} {lay : List mShp} {M : mMem} {P : mPost} : mG (d) 186 97 [a0, a1, a2, a3, a4, a5] [.int s0, .int s1] lay M P = if s1 = s0 then mG d 186 100 [a0, a1, a2, a3, a4, a5] [] lay M P else mG d 186 104 [a0, a1, a2, a3, a4, a5] [] lay M P := e_icmp_ne rfl rfl
set_option maxRecDepth 20000 in
theorem g186_100 {d : Nat} {a0 a1 a2 a4 a5 : Option Value} {x : Int32} {lay : List mShp} {M : mMem} {P : mPost} : mG (d) 186 100 [a0, a1, a2, some (.int x), a4, a5] [] lay M P = mG d 186 101 [a0, a1, a2, some (.int x), a4, a5] [.int x] lay M P := e_iload_n (i := 3) rfl rfl rfl
set_option maxRecDepth 20000 in
theorem g186_101 {d : Nat} {a0 a1 a2 a3 a4 a5 : Option Value} {s0 : Int32} {lay : List mShp} {M : mMem} {P : mPost} : mG (d) 186 101 [a0, a1, a2, a3, a4, a5] [.int s0] lay M P = mG d 186 106 [a0, a1, a2, a3, a4, a5] [.int s0] lay M P := e_goto rfl rfl
set_option maxRecDepth 20000 in
theorem g186_104 {d : Nat} {a0 a1 a2 a3 a4 a5 : Option Value} {lay : List mShp} {M : mMem} {P : mPost} : mG (d) 186 104 [a0, a1, a2, a3, a4, a5] [] lay M P = mG d 186 106 [a0, a1, a2, a3, a4, a5] [.int (Int32.ofInt (-2))] lay M P := e_bipush rfl
set_option maxRecDepth 20000 in
theorem g186_106 {d : Nat} {a0 a1 a2 a3 a4 a5 : Option Value} {s0 : Int32} {lay : List mShp} {M : mMem} {P : mPost} : mG (d) 186 106 [a0, a1, a2, a3, a4, a5] [.int s0] lay M P = P (some (.int s0)) lay M := e_ireturnI rfl rfl
-- 187 X10_cared
theorem g187_in {d : Nat} {x0 : Nat} {x1 : Int32} {lay : List mShp} {M : mMem} {P : mPost} : mF d 187 [.ref x0, .int x1] lay M P = mG d 187 0 [some (.ref x0), some (.int x1), none, none] [] lay M P := mF_in rfl rfl
set_option maxRecDepth 20000 in
theorem g187_0 {d : Nat} {a0 a2 a3 : Option Value} {x : Int32} {lay : List mShp} {M : mMem} {P : mPost} : mG (d) 187 0 [a0, some (.int x), a2, a3] [] lay M P = mG d 187 1 [a0, some (.int x), a2, a3] [.int x] lay M P := e_iload_n (i := 1) rfl rfl rfl
set_option maxRecDepth 20000 in
theorem g187_1 {d : Nat} {a0 a1 a2 a3 : Option Value} {s0 : Int32} {lay : List mShp} {M : mMem} {P : mPost} : mG (d) 187 1 [a0, a1, a2, a3] [.int s0] lay M P = mG d 187 2 [a0, a1, a2, a3] [.int (Int32.ofInt 0), .int s0] lay M P := e_iconst rfl
set_option maxRecDepth 20000 in
theorem g187_2 {d : Nat} {a0 a1 a2 a3 : Option Value} {s0 : Int32} {s1 : Int32} {lay : List mShp} {M : mMem} {P : mPost} : mG (d) 187 2 [a0, a1, a2, a3] [.int s0, .int s1] lay M P = mG d 187 3 [a0, a1, a2, a3] [.int (Int32.ofInt 1), .int s0, .int s1] lay M P := e_iconst rfl
set_option maxRecDepth 20000 in
theorem g187_3 {d : Nat} {a0 a1 a2 a3 : Option Value} {s0 : Int32} {s1 : Int32} {s2 : Int32} {lay : List mShp} {M : mMem} {P : mPost} : mG (d + 1) 187 3 [a0, a1, a2, a3] [.int s0, .int s1, .int s2] lay M P = mF d 146 [.int s2, .int s1, .int s0] lay M (fun v lay1 M1 => mG (d + 1) 187 6 [a0, a1, a2, a3] (v.toList ++ []) lay1 M1 P) := e_static3 (j := 146) rfl rfl rfl rfl rfl (Nat.le_of_ble_eq_true rfl)
set_option maxRecDepth 20000 in
theorem g187_6 {d : Nat} {a0 a1 a2 a3 : Option Value} {s0 : Int32} {lay : List mShp} {M : mMem} {P : mPost} : mG (d) 187 6 [a0, a1, a2, a3] [.int s0] lay M P = if s0 = 0 then mG d 187 9 [a0, a1, a2, a3] [] lay M P else mG d 187 11 [a0, a1, a2, a3] [] lay M P := e_if_ne rfl rfl
set_option maxRecDepth 20000 in
theorem g187_9 {d : Nat} {a0 a1 a2 a3 : Option Value} {lay : List mShp} {M : mMem} {P : mPost} : mG (d) 187 9 [a0, a1, a2, a3] [] lay M P = mG d 187 10 [a0, a1, a2, a3] [.int (Int32.ofInt (-1))] lay M P := e_iconst rfl
set_option maxRecDepth 20000 in
theorem g187_10 {d : Nat} {a0 a1 a2 a3 : Option Value} {s0 : Int32} {lay : List mShp} {M : mMem} {P : mPost} : mG (d) 187 10 [a0, a1, a2, a3] [.int s0] lay M P = P (some (.int s0)) lay M := e_ireturnI rfl rfl
set_option maxRecDepth 20000 in
theorem g187_11 {d : Nat} {a0 a1 a2 a3 : Option Value} {lay : List mShp} {M : mMem} {P : mPost} : mG (d) 187 11 [a0, a1, a2, a3] [] lay M P = mG d 187 12 [a0, a1, a2, a3] [.int (Int32.ofInt 0)] lay M P := e_iconst rfl
set_option maxRecDepth 20000 in
theorem g187_12 {d : Nat} {a0 a1 a2 a3 : Option Value} {s0 : Int32} {lay : List mShp} {M : mMem} {P : mPost} (h0 : mNoL a1 = true) : mG (d) 187 12 [a0, a1, a2, a3] [.int s0] lay M P = mG d 187 13 [a0, a1, some (.int s0), a3] [] lay M P := e_istore_n (i := 2) rfl rfl (by simp) (mS1_2 h0)
set_option maxRecDepth 20000 in
theorem g187_13 {d : Nat} {a0 a1 a2 a3 : Option Value} {lay : List mShp} {M : mMem} {P : mPost} : mG (d) 187 13 [a0, a1, a2, a3] [] lay M P = mG d 187 14 [a0, a1, a2, a3] [.int (Int32.ofInt 0)] lay M P := e_iconst rfl
set_option maxRecDepth 20000 in
theorem g187_14 {d : Nat} {a0 a1 a2 a3 : Option Value} {s0 : Int32} {lay : List mShp} {M : mMem} {P : mPost} (h0 : mNoL a2 = true) : mG (d) 187 14 [a0, a1, a2, a3] [.int s0] lay M P = mG d 187 15 [a0, a1, a2, some (.int s0)] [] lay M P := e_istore_n (i := 3) rfl rfl (by simp) (mS1_3 h0)
set_option maxRecDepth 20000 in
theorem g187_15 {d : Nat} {a0 a1 a2 : Option Value} {x : Int32} {lay : List mShp} {M : mMem} {P : mPost} : mG (d) 187 15 [a0, a1, a2, some (.int x)] [] lay M P = mG d 187 16 [a0, a1, a2, some (.int x)] [.int x] lay M P := e_iload_n (i := 3) rfl rfl rfl
set_option maxRecDepth 20000 in
theorem g187_16 {d : Nat} {a1 a2 a3 : Option Value} {s0 : Int32} {x : Nat} {lay : List mShp} {M : mMem} {P : mPost} (hx : ¬ x = 0) : mG (d) 187 16 [some (.ref x), a1, a2, a3] [.int s0] lay M P = mG d 187 17 [some (.ref x), a1, a2, a3] [.ref x, .int s0] lay M P := e_aload_nP hx (i := 0) rfl rfl rfl
set_option maxRecDepth 20000 in
theorem g187_17 {d : Nat} {a0 a1 a2 a3 : Option Value} {s0 : Nat} {s1 : Int32} {lay : List mShp} {M : mMem} {P : mPost} (hs : mSh lay s0 = some (13, 44)) : mG (d) 187 17 [a0, a1, a2, a3] [.ref s0, .int s1] lay M P = mG d 187 20 [a0, a1, a2, a3] [.int (M.1 s0 2), .int s1] lay M P := mG_of_and (mIsO_of hs (by decide)) (e_getI (ci := 10) (j := 2) rfl rfl rfl)
set_option maxRecDepth 20000 in
theorem g187_20 {d : Nat} {a0 a1 a2 a3 : Option Value} {s0 : Int32} {s1 : Int32} {lay : List mShp} {M : mMem} {P : mPost} : mG (d) 187 20 [a0, a1, a2, a3] [.int s0, .int s1] lay M P = if s1 < s0 then mG d 187 23 [a0, a1, a2, a3] [] lay M P else mG d 187 63 [a0, a1, a2, a3] [] lay M P := e_icmp_ge rfl rfl
set_option maxRecDepth 20000 in
theorem g187_23 {d : Nat} {a0 a1 a3 : Option Value} {x : Int32} {lay : List mShp} {M : mMem} {P : mPost} : mG (d) 187 23 [a0, a1, some (.int x), a3] [] lay M P = mG d 187 24 [a0, a1, some (.int x), a3] [.int x] lay M P := e_iload_n (i := 2) rfl rfl rfl
set_option maxRecDepth 20000 in
theorem g187_24 {d : Nat} {a0 a2 a3 : Option Value} {s0 : Int32} {x : Int32} {lay : List mShp} {M : mMem} {P : mPost} : mG (d) 187 24 [a0, some (.int x), a2, a3] [.int s0] lay M P = mG d 187 25 [a0, some (.int x), a2, a3] [.int x, .int s0] lay M P := e_iload_n (i := 1) rfl rfl rfl
set_option maxRecDepth 20000 in
theorem g187_25 {d : Nat} {a0 a1 a2 a3 : Option Value} {s0 : Int32} {s1 : Int32} {lay : List mShp} {M : mMem} {P : mPost} : mG (d) 187 25 [a0, a1, a2, a3] [.int s0, .int s1] lay M P = if s0 = 0 then mG d 187 28 [a0, a1, a2, a3] [.int s1] lay M P else mG d 187 39 [a0, a1, a2, a3] [.int s1] lay M P := e_if_ne rfl rfl
set_option maxRecDepth 20000 in
theorem g187_28 {d : Nat} {a1 a2 a3 : Option Value} {s0 : Int32} {x : Nat} {lay : List mShp} {M : mMem} {P : mPost} (hx : ¬ x = 0) : mG (d) 187 28 [some (.ref x), a1, a2, a3] [.int s0] lay M P = mG d 187 29 [some (.ref x), a1, a2, a3] [.ref x, .int s0] lay M P := e_aload_nP hx (i := 0) rfl rfl rfl
set_option maxRecDepth 20000 in
theorem g187_29 {d : Nat} {a0 a1 a2 : Option Value} {s0 : Nat} {s1 : Int32} {x : Int32} {lay : List mShp} {M : mMem} {P : mPost} : mG (d) 187 29 [a0, a1, a2, some (.int x)] [.ref s0, .int s1] lay M P = mG d 187 30 [a0, a1, a2, some (.int x)] [.int x, .ref s0, .int s1] lay M P := e_iload_n (i := 3) rfl rfl rfl
set_option maxRecDepth 20000 in
theorem g187_30 {d : Nat} {a0 a1 a2 a3 : Option Value} {s0 : Int32} {s1 : Nat} {s2 : Int32} {lay : List mShp} {M : mMem} {P : mPost} (hs : mSh lay s1 = some (13, 44)) : mG (d + 1) 187 30 [a0, a1, a2, a3] [.int s0, .ref s1, .int s2] lay M P = mF d 176 [.ref s1, .int s0] lay M (fun v lay1 M1 => mG (d + 1) 187 33 [a0, a1, a2, a3] (v.toList ++ [.int s2]) lay1 M1 P) := e_virtP1 (j := 176) (c := 10) rfl rfl rfl rfl rfl rfl hs (Nat.le_of_ble_eq_true rfl)
set_option maxRecDepth 20000 in
theorem g187_33 {d : Nat} {a0 a1 a2 a3 : Option Value} {s0 : Int32} {s1 : Int32} {lay : List mShp} {M : mMem} {P : mPost} : mG (d) 187 33 [a0, a1, a2, a3] [.int s0, .int s1] lay M P = if s0 = 0 then mG d 187 36 [a0, a1, a2, a3] [.int s1] lay M P else mG d 187 54 [a0, a1, a2, a3] [.int s1] lay M P := e_if_ne rfl rfl
set_option maxRecDepth 20000 in
theorem g187_36 {d : Nat} {a0 a1 a2 a3 : Option Value} {s0 : Int32} {lay : List mShp} {M : mMem} {P : mPost} : mG (d) 187 36 [a0, a1, a2, a3] [.int s0] lay M P = mG d 187 48 [a0, a1, a2, a3] [.int s0] lay M P := e_goto rfl rfl
set_option maxRecDepth 20000 in
theorem g187_39 {d : Nat} {a1 a2 a3 : Option Value} {s0 : Int32} {x : Nat} {lay : List mShp} {M : mMem} {P : mPost} (hx : ¬ x = 0) : mG (d) 187 39 [some (.ref x), a1, a2, a3] [.int s0] lay M P = mG d 187 40 [some (.ref x), a1, a2, a3] [.ref x, .int s0] lay M P := e_aload_nP hx (i := 0) rfl rfl rfl
set_option maxRecDepth 20000 in
theorem g187_40 {d : Nat} {a0 a1 a2 : Option Value} {s0 : Nat} {s1 : Int32} {x : Int32} {lay : List mShp} {M : mMem} {P : mPost} : mG (d) 187 40 [a0, a1, a2, some (.int x)] [.ref s0, .int s1] lay M P = mG d 187 41 [a0, a1, a2, some (.int x)] [.int x, .ref s0, .int s1] lay M P := e_iload_n (i := 3) rfl rfl rfl
set_option maxRecDepth 20000 in
theorem g187_41 {d : Nat} {a0 a1 a2 a3 : Option Value} {s0 : Int32} {s1 : Nat} {s2 : Int32} {lay : List mShp} {M : mMem} {P : mPost} (hs : mSh lay s1 = some (13, 44)) : mG (d + 1) 187 41 [a0, a1, a2, a3] [.int s0, .ref s1, .int s2] lay M P = mF d 176 [.ref s1, .int s0] lay M (fun v lay1 M1 => mG (d + 1) 187 44 [a0, a1, a2, a3] (v.toList ++ [.int s2]) lay1 M1 P) := e_virtP1 (j := 176) (c := 10) rfl rfl rfl rfl rfl rfl hs (Nat.le_of_ble_eq_true rfl)
set_option maxRecDepth 20000 in
theorem g187_44 {d : Nat} {a0 a1 a2 a3 : Option Value} {s0 : Int32} {s1 : Int32} {lay : List mShp} {M : mMem} {P : mPost} : mG (d) 187 44 [a0, a1, a2, a3] [.int s0, .int s1] lay M P = mG d 187 45 [a0, a1, a2, a3] [.int (Int32.ofInt 1), .int s0, .int s1] lay M P := e_iconst rfl
set_option maxRecDepth 20000 in
theorem g187_45 {d : Nat} {a0 a1 a2 a3 : Option Value} {s0 : Int32} {s1 : Int32} {s2 : Int32} {lay : List mShp} {M : mMem} {P : mPost} : mG (d) 187 45 [a0, a1, a2, a3] [.int s0, .int s1, .int s2] lay M P = if s0 < s1 then mG d 187 48 [a0, a1, a2, a3] [.int s2] lay M P else mG d 187 54 [a0, a1, a2, a3] [.int s2] lay M P := e_icmp_le rfl rfl
set_option maxRecDepth 20000 in
theorem g187_48 {d : Nat} {a0 a1 a2 a3 : Option Value} {s0 : Int32} {lay : List mShp} {M : mMem} {P : mPost} : mG (d) 187 48 [a0, a1, a2, a3] [.int s0] lay M P = mG d 187 49 [a0, a1, a2, a3] [.int (Int32.ofInt 1), .int s0] lay M P := e_iconst rfl
set_option maxRecDepth 20000 in
theorem g187_49 {d : Nat} {a0 a1 a2 : Option Value} {s0 : Int32} {s1 : Int32} {x : Int32} {lay : List mShp} {M : mMem} {P : mPost} : mG (d) 187 49 [a0, a1, a2, some (.int x)] [.int s0, .int s1] lay M P = mG d 187 50 [a0, a1, a2, some (.int x)] [.int x, .int s0, .int s1] lay M P := e_iload_n (i := 3) rfl rfl rfl
set_option maxRecDepth 20000 in
theorem g187_50 {d : Nat} {a0 a1 a2 a3 : Option Value} {s0 : Int32} {s1 : Int32} {s2 : Int32} {lay : List mShp} {M : mMem} {P : mPost} : mG (d) 187 50 [a0, a1, a2, a3] [.int s0, .int s1, .int s2] lay M P = mG d 187 51 [a0, a1, a2, a3] [.int (s1 <<< (s0 &&& 31)), .int s2] lay M P := e_ishl rfl
set_option maxRecDepth 20000 in
theorem g187_51 {d : Nat} {a0 a1 a2 a3 : Option Value} {s0 : Int32} {s1 : Int32} {lay : List mShp} {M : mMem} {P : mPost} : mG (d) 187 51 [a0, a1, a2, a3] [.int s0, .int s1] lay M P = mG d 187 55 [a0, a1, a2, a3] [.int s0, .int s1] lay M P := e_goto rfl rfl
set_option maxRecDepth 20000 in
theorem g187_54 {d : Nat} {a0 a1 a2 a3 : Option Value} {s0 : Int32} {lay : List mShp} {M : mMem} {P : mPost} : mG (d) 187 54 [a0, a1, a2, a3] [.int s0] lay M P = mG d 187 55 [a0, a1, a2, a3] [.int (Int32.ofInt 0), .int s0] lay M P := e_iconst rfl
set_option maxRecDepth 20000 in
theorem g187_55 {d : Nat} {a0 a1 a2 a3 : Option Value} {s0 : Int32} {s1 : Int32} {lay : List mShp} {M : mMem} {P : mPost} : mG (d) 187 55 [a0, a1, a2, a3] [.int s0, .int s1] lay M P = mG d 187 56 [a0, a1, a2, a3] [.int (s1 ||| s0)] lay M P := e_ior rfl
set_option maxRecDepth 20000 in
theorem g187_56 {d : Nat} {a0 a1 a2 a3 : Option Value} {s0 : Int32} {lay : List mShp} {M : mMem} {P : mPost} (h0 : mNoL a1 = true) : mG (d) 187 56 [a0, a1, a2, a3] [.int s0] lay M P = mG d 187 57 [a0, a1, some (.int s0), a3] [] lay M P := e_istore_n (i := 2) rfl rfl (by simp) (mS1_2 h0)
set_option maxRecDepth 20000 in
theorem g187_57 {d : Nat} {a0 a1 a2 : Option Value} {x : Int32} {lay : List mShp} {M : mMem} {P : mPost} (h0 : mNoL a2 = true) : mG (d) 187 57 [a0, a1, a2, some (.int x)] [] lay M P = mG d 187 60 [a0, a1, a2, some (.int (x + Int32.ofInt 1))] [] lay M P := e_iinc (n := 3) rfl rfl (mS1_3 h0)
set_option maxRecDepth 20000 in
theorem g187_60 {d : Nat} {a0 a1 a2 a3 : Option Value} {lay : List mShp} {M : mMem} {P : mPost} : mG (d) 187 60 [a0, a1, a2, a3] [] lay M P = mG d 187 15 [a0, a1, a2, a3] [] lay M P := e_goto rfl rfl
set_option maxRecDepth 20000 in
theorem g187_63 {d : Nat} {a0 a1 a3 : Option Value} {x : Int32} {lay : List mShp} {M : mMem} {P : mPost} : mG (d) 187 63 [a0, a1, some (.int x), a3] [] lay M P = mG d 187 64 [a0, a1, some (.int x), a3] [.int x] lay M P := e_iload_n (i := 2) rfl rfl rfl
set_option maxRecDepth 20000 in
theorem g187_64 {d : Nat} {a0 a1 a2 a3 : Option Value} {s0 : Int32} {lay : List mShp} {M : mMem} {P : mPost} : mG (d) 187 64 [a0, a1, a2, a3] [.int s0] lay M P = P (some (.int s0)) lay M := e_ireturnI rfl rfl
-- 188 X10_isRing
theorem g188_in {d : Nat} {x0 : Nat} {lay : List mShp} {M : mMem} {P : mPost} : mF d 188 [.ref x0] lay M P = mG d 188 0 [some (.ref x0), none, none] [] lay M P := mF_in rfl rfl
set_option maxRecDepth 20000 in
theorem g188_0 {d : Nat} {a0 a1 a2 : Option Value} {lay : List mShp} {M : mMem} {P : mPost} : mG (d) 188 0 [a0, a1, a2] [] lay M P = mG d 188 1 [a0, a1, a2] [.int (Int32.ofInt 0)] lay M P := e_iconst rfl
set_option maxRecDepth 20000 in
theorem g188_1 {d : Nat} {a0 a1 a2 : Option Value} {s0 : Int32} {lay : List mShp} {M : mMem} {P : mPost} (h0 : mNoL a0 = true) : mG (d) 188 1 [a0, a1, a2] [.int s0] lay M P = mG d 188 2 [a0, some (.int s0), a2] [] lay M P := e_istore_n (i := 1) rfl rfl (by simp) (mS1_1 h0)
set_option maxRecDepth 20000 in
theorem g188_2 {d : Nat} {a0 a1 a2 : Option Value} {lay : List mShp} {M : mMem} {P : mPost} : mG (d) 188 2 [a0, a1, a2] [] lay M P = mG d 188 3 [a0, a1, a2] [.int (Int32.ofInt 1)] lay M P := e_iconst rfl
set_option maxRecDepth 20000 in
theorem g188_3 {d : Nat} {a0 a1 a2 : Option Value} {s0 : Int32} {lay : List mShp} {M : mMem} {P : mPost} (h0 : mNoL a1 = true) : mG (d) 188 3 [a0, a1, a2] [.int s0] lay M P = mG d 188 4 [a0, a1, some (.int s0)] [] lay M P := e_istore_n (i := 2) rfl rfl (by simp) (mS1_2 h0)
set_option maxRecDepth 20000 in
theorem g188_4 {d : Nat} {a0 a1 : Option Value} {x : Int32} {lay : List mShp} {M : mMem} {P : mPost} : mG (d) 188 4 [a0, a1, some (.int x)] [] lay M P = mG d 188 5 [a0, a1, some (.int x)] [.int x] lay M P := e_iload_n (i := 2) rfl rfl rfl
set_option maxRecDepth 20000 in
theorem g188_5 {d : Nat} {a1 a2 : Option Value} {s0 : Int32} {x : Nat} {lay : List mShp} {M : mMem} {P : mPost} (hx : ¬ x = 0) : mG (d) 188 5 [some (.ref x), a1, a2] [.int s0] lay M P = mG d 188 6 [some (.ref x), a1, a2] [.ref x, .int s0] lay M P := e_aload_nP hx (i := 0) rfl rfl rfl
set_option maxRecDepth 20000 in
theorem g188_6 {d : Nat} {a0 a1 a2 : Option Value} {s0 : Nat} {s1 : Int32} {lay : List mShp} {M : mMem} {P : mPost} (hs : mSh lay s0 = some (13, 44)) : mG (d) 188 6 [a0, a1, a2] [.ref s0, .int s1] lay M P = mG d 188 9 [a0, a1, a2] [.int (M.1 s0 2), .int s1] lay M P := mG_of_and (mIsO_of hs (by decide)) (e_getI (ci := 10) (j := 2) rfl rfl rfl)
set_option maxRecDepth 20000 in
theorem g188_9 {d : Nat} {a0 a1 a2 : Option Value} {s0 : Int32} {s1 : Int32} {lay : List mShp} {M : mMem} {P : mPost} : mG (d) 188 9 [a0, a1, a2] [.int s0, .int s1] lay M P = if s1 < s0 then mG d 188 12 [a0, a1, a2] [] lay M P else mG d 188 31 [a0, a1, a2] [] lay M P := e_icmp_ge rfl rfl
set_option maxRecDepth 20000 in
theorem g188_12 {d : Nat} {a1 a2 : Option Value} {x : Nat} {lay : List mShp} {M : mMem} {P : mPost} (hx : ¬ x = 0) : mG (d) 188 12 [some (.ref x), a1, a2] [] lay M P = mG d 188 13 [some (.ref x), a1, a2] [.ref x] lay M P := e_aload_nP hx (i := 0) rfl rfl rfl
set_option maxRecDepth 20000 in
theorem g188_13 {d : Nat} {a0 a1 a2 : Option Value} {s0 : Nat} {lay : List mShp} {M : mMem} {P : mPost} (hs : mSh lay s0 = some (13, 44)) : mG (d) 188 13 [a0, a1, a2] [.ref s0] lay M P = mG d 188 16 [a0, a1, a2] [.ref (M.2.2 s0 23)] lay M P := mG_of_and (mIsO_of hs (by decide)) (e_getA (ci := 10) (j := 23) rfl rfl rfl)
set_option maxRecDepth 20000 in
theorem g188_16 {d : Nat} {a0 a2 : Option Value} {s0 : Nat} {x : Int32} {lay : List mShp} {M : mMem} {P : mPost} : mG (d) 188 16 [a0, some (.int x), a2] [.ref s0] lay M P = mG d 188 17 [a0, some (.int x), a2] [.int x, .ref s0] lay M P := e_iload_n (i := 1) rfl rfl rfl
set_option maxRecDepth 20000 in
theorem g188_17 {d : Nat} {a0 a1 a2 : Option Value} {s0 : Int32} {s1 : Nat} {lay : List mShp} {M : mMem} {P : mPost} (hs : mSh lay s1 = some (0, 8)) : mG (d) 188 17 [a0, a1, a2] [.int s0, .ref s1] lay M P = (mIdx s0 8 = true ∧ mG d 188 18 [a0, a1, a2] [.int (M.1 s1 s0.toNatClampNeg)] lay M P) := e_iaload rfl hs
set_option maxRecDepth 20000 in
theorem g188_18 {d : Nat} {a0 a1 a2 : Option Value} {s0 : Int32} {lay : List mShp} {M : mMem} {P : mPost} (h0 : mNoL a0 = true) : mG (d) 188 18 [a0, a1, a2] [.int s0] lay M P = mG d 188 19 [a0, some (.int s0), a2] [] lay M P := e_istore_n (i := 1) rfl rfl (by simp) (mS1_1 h0)
set_option maxRecDepth 20000 in
theorem g188_19 {d : Nat} {a0 a2 : Option Value} {x : Int32} {lay : List mShp} {M : mMem} {P : mPost} : mG (d) 188 19 [a0, some (.int x), a2] [] lay M P = mG d 188 20 [a0, some (.int x), a2] [.int x] lay M P := e_iload_n (i := 1) rfl rfl rfl
set_option maxRecDepth 20000 in
theorem g188_20 {d : Nat} {a0 a1 a2 : Option Value} {s0 : Int32} {lay : List mShp} {M : mMem} {P : mPost} : mG (d) 188 20 [a0, a1, a2] [.int s0] lay M P = if s0 = 0 then mG d 188 23 [a0, a1, a2] [] lay M P else mG d 188 25 [a0, a1, a2] [] lay M P := e_if_ne rfl rfl
set_option maxRecDepth 20000 in
theorem g188_23 {d : Nat} {a0 a1 a2 : Option Value} {lay : List mShp} {M : mMem} {P : mPost} : mG (d) 188 23 [a0, a1, a2] [] lay M P = mG d 188 24 [a0, a1, a2] [.int (Int32.ofInt 0)] lay M P := e_iconst rfl
set_option maxRecDepth 20000 in
theorem g188_24 {d : Nat} {a0 a1 a2 : Option Value} {s0 : Int32} {lay : List mShp} {M : mMem} {P : mPost} : mG (d) 188 24 [a0, a1, a2] [.int s0] lay M P = ((s0 = 0 ∨ s0 = 1) ∧ P (some (.int s0)) lay M) := e_ireturnZ rfl rfl
set_option maxRecDepth 20000 in
theorem g188_25 {d : Nat} {a0 a1 : Option Value} {x : Int32} {lay : List mShp} {M : mMem} {P : mPost} (h0 : mNoL a1 = true) : mG (d) 188 25 [a0, a1, some (.int x)] [] lay M P = mG d 188 28 [a0, a1, some (.int (x + Int32.ofInt 1))] [] lay M P := e_iinc (n := 2) rfl rfl (mS1_2 h0)
set_option maxRecDepth 20000 in
theorem g188_28 {d : Nat} {a0 a1 a2 : Option Value} {lay : List mShp} {M : mMem} {P : mPost} : mG (d) 188 28 [a0, a1, a2] [] lay M P = mG d 188 4 [a0, a1, a2] [] lay M P := e_goto rfl rfl
set_option maxRecDepth 20000 in
theorem g188_31 {d : Nat} {a1 a2 : Option Value} {x : Nat} {lay : List mShp} {M : mMem} {P : mPost} (hx : ¬ x = 0) : mG (d) 188 31 [some (.ref x), a1, a2] [] lay M P = mG d 188 32 [some (.ref x), a1, a2] [.ref x] lay M P := e_aload_nP hx (i := 0) rfl rfl rfl
set_option maxRecDepth 20000 in
theorem g188_32 {d : Nat} {a0 a1 a2 : Option Value} {s0 : Nat} {lay : List mShp} {M : mMem} {P : mPost} (hs : mSh lay s0 = some (13, 44)) : mG (d) 188 32 [a0, a1, a2] [.ref s0] lay M P = mG d 188 35 [a0, a1, a2] [.ref (M.2.2 s0 23)] lay M P := mG_of_and (mIsO_of hs (by decide)) (e_getA (ci := 10) (j := 23) rfl rfl rfl)
set_option maxRecDepth 20000 in
theorem g188_35 {d : Nat} {a0 a2 : Option Value} {s0 : Nat} {x : Int32} {lay : List mShp} {M : mMem} {P : mPost} : mG (d) 188 35 [a0, some (.int x), a2] [.ref s0] lay M P = mG d 188 36 [a0, some (.int x), a2] [.int x, .ref s0] lay M P := e_iload_n (i := 1) rfl rfl rfl
set_option maxRecDepth 20000 in
theorem g188_36 {d : Nat} {a0 a1 a2 : Option Value} {s0 : Int32} {s1 : Nat} {lay : List mShp} {M : mMem} {P : mPost} (hs : mSh lay s1 = some (0, 8)) : mG (d) 188 36 [a0, a1, a2] [.int s0, .ref s1] lay M P = (mIdx s0 8 = true ∧ mG d 188 37 [a0, a1, a2] [.int (M.1 s1 s0.toNatClampNeg)] lay M P) := e_iaload rfl hs
set_option maxRecDepth 20000 in
theorem g188_37 {d : Nat} {a0 a1 a2 : Option Value} {s0 : Int32} {lay : List mShp} {M : mMem} {P : mPost} : mG (d) 188 37 [a0, a1, a2] [.int s0] lay M P = if s0 = 0 then mG d 188 40 [a0, a1, a2] [] lay M P else mG d 188 44 [a0, a1, a2] [] lay M P := e_if_ne rfl rfl
set_option maxRecDepth 20000 in
theorem g188_40 {d : Nat} {a0 a1 a2 : Option Value} {lay : List mShp} {M : mMem} {P : mPost} : mG (d) 188 40 [a0, a1, a2] [] lay M P = mG d 188 41 [a0, a1, a2] [.int (Int32.ofInt 1)] lay M P := e_iconst rfl
set_option maxRecDepth 20000 in
theorem g188_41 {d : Nat} {a0 a1 a2 : Option Value} {s0 : Int32} {lay : List mShp} {M : mMem} {P : mPost} : mG (d) 188 41 [a0, a1, a2] [.int s0] lay M P = mG d 188 45 [a0, a1, a2] [.int s0] lay M P := e_goto rfl rfl
set_option maxRecDepth 20000 in
theorem g188_44 {d : Nat} {a0 a1 a2 : Option Value} {lay : List mShp} {M : mMem} {P : mPost} : mG (d) 188 44 [a0, a1, a2] [] lay M P = mG d 188 45 [a0, a1, a2] [.int (Int32.ofInt 0)] lay M P := e_iconst rfl
set_option maxRecDepth 20000 in
theorem g188_45 {d : Nat} {a0 a1 a2 : Option Value} {s0 : Int32} {lay : List mShp} {M : mMem} {P : mPost} : mG (d) 188 45 [a0, a1, a2] [.int s0] lay M P = ((s0 = 0 ∨ s0 = 1) ∧ P (some (.int s0)) lay M) := e_ireturnZ rfl rfl
-- 189 X10_tryRound
theorem g189_in {d : Nat} {x0 : Nat} {lay : List mShp} {M : mMem} {P : mPost} : mF d 189 [.ref x0] lay M P = mG d 189 0 [some (.ref x0), none, none] [] lay M P := mF_in rfl rfl
set_option maxRecDepth 20000 in
theorem g189_0 {d : Nat} {a1 a2 : Option Value} {x : Nat} {lay : List mShp} {M : mMem} {P : mPost} (hx : ¬ x = 0) : mG (d) 189 0 [some (.ref x), a1, a2] [] lay M P = mG d 189 1 [some (.ref x), a1, a2] [.ref x] lay M P := e_aload_nP hx (i := 0) rfl rfl rfl
set_option maxRecDepth 20000 in
theorem g189_1 {d : Nat} {a0 a1 a2 : Option Value} {s0 : Nat} {lay : List mShp} {M : mMem} {P : mPost} : mG (d) 189 1 [a0, a1, a2] [.ref s0] lay M P = mG d 189 2 [a0, a1, a2] [.int (Int32.ofInt 0), .ref s0] lay M P := e_iconst rfl
set_option maxRecDepth 20000 in
theorem g189_2 {d : Nat} {a0 a1 a2 : Option Value} {s0 : Int32} {s1 : Nat} {lay : List mShp} {M : mMem} {P : mPost} (hs : mSh lay s1 = some (13, 44)) : mG (d + 1) 189 2 [a0, a1, a2] [.int s0, .ref s1] lay M P = mF d 149 [.ref s1, .int s0] lay M (fun v lay1 M1 => mG (d + 1) 189 5 [a0, a1, a2] (v.toList ++ []) lay1 M1 P) := e_virtP1 (j := 149) (c := 10) rfl rfl rfl rfl rfl rfl hs (Nat.le_of_ble_eq_true rfl)
set_option maxRecDepth 20000 in
theorem g189_5 {d : Nat} {a0 a1 a2 : Option Value} {lay : List mShp} {M : mMem} {P : mPost} : mG (d) 189 5 [a0, a1, a2] [] lay M P = mG d 189 6 [a0, a1, a2] [.int (Int32.ofInt 0)] lay M P := e_iconst rfl
set_option maxRecDepth 20000 in
theorem g189_6 {d : Nat} {a0 a1 a2 : Option Value} {s0 : Int32} {lay : List mShp} {M : mMem} {P : mPost} (h0 : mNoL a0 = true) : mG (d) 189 6 [a0, a1, a2] [.int s0] lay M P = mG d 189 7 [a0, some (.int s0), a2] [] lay M P := e_istore_n (i := 1) rfl rfl (by simp) (mS1_1 h0)
set_option maxRecDepth 20000 in
theorem g189_7 {d : Nat} {a0 a2 : Option Value} {x : Int32} {lay : List mShp} {M : mMem} {P : mPost} : mG (d) 189 7 [a0, some (.int x), a2] [] lay M P = mG d 189 8 [a0, some (.int x), a2] [.int x] lay M P := e_iload_n (i := 1) rfl rfl rfl
set_option maxRecDepth 20000 in
theorem g189_8 {d : Nat} {a1 a2 : Option Value} {s0 : Int32} {x : Nat} {lay : List mShp} {M : mMem} {P : mPost} (hx : ¬ x = 0) : mG (d) 189 8 [some (.ref x), a1, a2] [.int s0] lay M P = mG d 189 9 [some (.ref x), a1, a2] [.ref x, .int s0] lay M P := e_aload_nP hx (i := 0) rfl rfl rfl
set_option maxRecDepth 20000 in
theorem g189_9 {d : Nat} {a0 a1 a2 : Option Value} {s0 : Nat} {s1 : Int32} {lay : List mShp} {M : mMem} {P : mPost} (hs : mSh lay s0 = some (13, 44)) : mG (d) 189 9 [a0, a1, a2] [.ref s0, .int s1] lay M P = mG d 189 12 [a0, a1, a2] [.int (M.1 s0 2), .int s1] lay M P := mG_of_and (mIsO_of hs (by decide)) (e_getI (ci := 10) (j := 2) rfl rfl rfl)
set_option maxRecDepth 20000 in
theorem g189_12 {d : Nat} {a0 a1 a2 : Option Value} {s0 : Int32} {s1 : Int32} {lay : List mShp} {M : mMem} {P : mPost} : mG (d) 189 12 [a0, a1, a2] [.int s0, .int s1] lay M P = if s1 < s0 then mG d 189 15 [a0, a1, a2] [] lay M P else mG d 189 33 [a0, a1, a2] [] lay M P := e_icmp_ge rfl rfl
set_option maxRecDepth 20000 in
theorem g189_15 {d : Nat} {a1 a2 : Option Value} {x : Nat} {lay : List mShp} {M : mMem} {P : mPost} (hx : ¬ x = 0) : mG (d) 189 15 [some (.ref x), a1, a2] [] lay M P = mG d 189 16 [some (.ref x), a1, a2] [.ref x] lay M P := e_aload_nP hx (i := 0) rfl rfl rfl
set_option maxRecDepth 20000 in
theorem g189_16 {d : Nat} {a0 a2 : Option Value} {s0 : Nat} {x : Int32} {lay : List mShp} {M : mMem} {P : mPost} : mG (d) 189 16 [a0, some (.int x), a2] [.ref s0] lay M P = mG d 189 17 [a0, some (.int x), a2] [.int x, .ref s0] lay M P := e_iload_n (i := 1) rfl rfl rfl
set_option maxRecDepth 20000 in
theorem g189_17 {d : Nat} {a0 a1 a2 : Option Value} {s0 : Int32} {s1 : Nat} {lay : List mShp} {M : mMem} {P : mPost} : mG (d) 189 17 [a0, a1, a2] [.int s0, .ref s1] lay M P = mG d 189 18 [a0, a1, a2] [.int (Int32.ofInt 4), .int s0, .ref s1] lay M P := e_iconst rfl
set_option maxRecDepth 20000 in
theorem g189_18 {d : Nat} {a1 a2 : Option Value} {s0 : Int32} {s1 : Int32} {s2 : Nat} {x : Nat} {lay : List mShp} {M : mMem} {P : mPost} (hx : ¬ x = 0) : mG (d) 189 18 [some (.ref x), a1, a2] [.int s0, .int s1, .ref s2] lay M P = mG d 189 19 [some (.ref x), a1, a2] [.ref x, .int s0, .int s1, .ref s2] lay M P := e_aload_nP hx (i := 0) rfl rfl rfl
set_option maxRecDepth 20000 in
theorem g189_19 {d : Nat} {a0 a1 a2 : Option Value} {s0 : Nat} {s1 : Int32} {s2 : Int32} {s3 : Nat} {lay : List mShp} {M : mMem} {P : mPost} (hs : mSh lay s0 = some (13, 44)) : mG (d) 189 19 [a0, a1, a2] [.ref s0, .int s1, .int s2, .ref s3] lay M P = mG d 189 22 [a0, a1, a2] [.ref (M.2.2 s0 23), .int s1, .int s2, .ref s3] lay M P := mG_of_and (mIsO_of hs (by decide)) (e_getA (ci := 10) (j := 23) rfl rfl rfl)
set_option maxRecDepth 20000 in
theorem g189_22 {d : Nat} {a0 a2 : Option Value} {s0 : Nat} {s1 : Int32} {s2 : Int32} {s3 : Nat} {x : Int32} {lay : List mShp} {M : mMem} {P : mPost} : mG (d) 189 22 [a0, some (.int x), a2] [.ref s0, .int s1, .int s2, .ref s3] lay M P = mG d 189 23 [a0, some (.int x), a2] [.int x, .ref s0, .int s1, .int s2, .ref s3] lay M P := e_iload_n (i := 1) rfl rfl rfl
set_option maxRecDepth 20000 in
theorem g189_23 {d : Nat} {a0 a1 a2 : Option Value} {s0 : Int32} {s1 : Nat} {s2 : Int32} {s3 : Int32} {s4 : Nat} {lay : List mShp} {M : mMem} {P : mPost} (hs : mSh lay s1 = some (0, 8)) : mG (d) 189 23 [a0, a1, a2] [.int s0, .ref s1, .int s2, .int s3, .ref s4] lay M P = (mIdx s0 8 = true ∧ mG d 189 24 [a0, a1, a2] [.int (M.1 s1 s0.toNatClampNeg), .int s2, .int s3, .ref s4] lay M P) := e_iaload rfl hs
set_option maxRecDepth 20000 in
theorem g189_24 {d : Nat} {a0 a1 a2 : Option Value} {s0 : Int32} {s1 : Int32} {s2 : Int32} {s3 : Nat} {lay : List mShp} {M : mMem} {P : mPost} (hs : mSh lay s3 = some (13, 44)) : mG (d + 1) 189 24 [a0, a1, a2] [.int s0, .int s1, .int s2, .ref s3] lay M P = mF d 153 [.ref s3, .int s2, .int s1, .int s0] lay M (fun v lay1 M1 => mG (d + 1) 189 27 [a0, a1, a2] (v.toList ++ []) lay1 M1 P) := e_virtP3 (j := 153) (c := 10) rfl rfl rfl rfl rfl rfl hs (Nat.le_of_ble_eq_true rfl)
set_option maxRecDepth 20000 in
theorem g189_27 {d : Nat} {a0 a2 : Option Value} {x : Int32} {lay : List mShp} {M : mMem} {P : mPost} (h0 : mNoL a0 = true) : mG (d) 189 27 [a0, some (.int x), a2] [] lay M P = mG d 189 30 [a0, some (.int (x + Int32.ofInt 1)), a2] [] lay M P := e_iinc (n := 1) rfl rfl (mS1_1 h0)
set_option maxRecDepth 20000 in
theorem g189_30 {d : Nat} {a0 a1 a2 : Option Value} {lay : List mShp} {M : mMem} {P : mPost} : mG (d) 189 30 [a0, a1, a2] [] lay M P = mG d 189 7 [a0, a1, a2] [] lay M P := e_goto rfl rfl
set_option maxRecDepth 20000 in
theorem g189_33 {d : Nat} {a1 a2 : Option Value} {x : Nat} {lay : List mShp} {M : mMem} {P : mPost} (hx : ¬ x = 0) : mG (d) 189 33 [some (.ref x), a1, a2] [] lay M P = mG d 189 34 [some (.ref x), a1, a2] [.ref x] lay M P := e_aload_nP hx (i := 0) rfl rfl rfl
set_option maxRecDepth 20000 in
theorem g189_34 {d : Nat} {a1 a2 : Option Value} {s0 : Nat} {x : Nat} {lay : List mShp} {M : mMem} {P : mPost} (hx : ¬ x = 0) : mG (d) 189 34 [some (.ref x), a1, a2] [.ref s0] lay M P = mG d 189 35 [some (.ref x), a1, a2] [.ref x, .ref s0] lay M P := e_aload_nP hx (i := 0) rfl rfl rfl
set_option maxRecDepth 20000 in
theorem g189_35 {d : Nat} {a0 a1 a2 : Option Value} {s0 : Nat} {s1 : Nat} {lay : List mShp} {M : mMem} {P : mPost} (hs : mSh lay s0 = some (13, 44)) : mG (d) 189 35 [a0, a1, a2] [.ref s0, .ref s1] lay M P = mG d 189 38 [a0, a1, a2] [.int (M.1 s0 27), .ref s1] lay M P := mG_of_and (mIsO_of hs (by decide)) (e_getI (ci := 10) (j := 27) rfl rfl rfl)
set_option maxRecDepth 20000 in
theorem g189_38 {d : Nat} {a0 a1 a2 : Option Value} {s0 : Int32} {s1 : Nat} {lay : List mShp} {M : mMem} {P : mPost} (hs : mSh lay s1 = some (13, 44)) : mG (d + 1) 189 38 [a0, a1, a2] [.int s0, .ref s1] lay M P = mF d 180 [.ref s1, .int s0] lay M (fun v lay1 M1 => mG (d + 1) 189 41 [a0, a1, a2] (v.toList ++ []) lay1 M1 P) := e_virtP1 (j := 180) (c := 10) rfl rfl rfl rfl rfl rfl hs (Nat.le_of_ble_eq_true rfl)
set_option maxRecDepth 20000 in
theorem g189_41 {d : Nat} {a1 a2 : Option Value} {x : Nat} {lay : List mShp} {M : mMem} {P : mPost} (hx : ¬ x = 0) : mG (d) 189 41 [some (.ref x), a1, a2] [] lay M P = mG d 189 42 [some (.ref x), a1, a2] [.ref x] lay M P := e_aload_nP hx (i := 0) rfl rfl rfl
set_option maxRecDepth 20000 in
theorem g189_42 {d : Nat} {a0 a1 a2 : Option Value} {s0 : Nat} {lay : List mShp} {M : mMem} {P : mPost} (hs : mSh lay s0 = some (13, 44)) : mG (d + 1) 189 42 [a0, a1, a2] [.ref s0] lay M P = mF d 181 [.ref s0] lay M (fun v lay1 M1 => mG (d + 1) 189 45 [a0, a1, a2] (v.toList ++ []) lay1 M1 P) := e_virtP0 (j := 181) (c := 10) rfl rfl rfl rfl rfl rfl hs (Nat.le_of_ble_eq_true rfl)
set_option maxRecDepth 20000 in
theorem g189_45 {d : Nat} {a0 a1 a2 : Option Value} {s0 : Int32} {lay : List mShp} {M : mMem} {P : mPost} : mG (d + 1) 189 45 [a0, a1, a2] [.int s0] lay M P = mF d 230 [.int s0] lay M (fun v lay1 M1 => mG (d + 1) 189 48 [a0, a1, a2] (v.toList ++ []) lay1 M1 P) := e_static1 (j := 230) rfl rfl rfl rfl rfl (Nat.le_of_ble_eq_true rfl)
set_option maxRecDepth 20000 in
theorem g189_48 {d : Nat} {a0 a1 a2 : Option Value} {s0 : Int32} {lay : List mShp} {M : mMem} {P : mPost} (h0 : mNoL a0 = true) : mG (d) 189 48 [a0, a1, a2] [.int s0] lay M P = mG d 189 49 [a0, some (.int s0), a2] [] lay M P := e_istore_n (i := 1) rfl rfl (by simp) (mS1_1 h0)
set_option maxRecDepth 20000 in
theorem g189_49 {d : Nat} {a1 a2 : Option Value} {x : Nat} {lay : List mShp} {M : mMem} {P : mPost} (hx : ¬ x = 0) : mG (d) 189 49 [some (.ref x), a1, a2] [] lay M P = mG d 189 50 [some (.ref x), a1, a2] [.ref x] lay M P := e_aload_nP hx (i := 0) rfl rfl rfl
set_option maxRecDepth 20000 in
theorem g189_50 {d : Nat} {a0 a1 a2 : Option Value} {s0 : Nat} {lay : List mShp} {M : mMem} {P : mPost} (hs : mSh lay s0 = some (13, 44)) : mG (d + 1) 189 50 [a0, a1, a2] [.ref s0] lay M P = mF d 182 [.ref s0] lay M (fun v lay1 M1 => mG (d + 1) 189 53 [a0, a1, a2] (v.toList ++ []) lay1 M1 P) := e_virtP0 (j := 182) (c := 10) rfl rfl rfl rfl rfl rfl hs (Nat.le_of_ble_eq_true rfl)
set_option maxRecDepth 20000 in
theorem g189_53 {d : Nat} {a0 a1 a2 : Option Value} {s0 : Int32} {lay : List mShp} {M : mMem} {P : mPost} (h0 : mNoL a1 = true) : mG (d) 189 53 [a0, a1, a2] [.int s0] lay M P = mG d 189 54 [a0, a1, some (.int s0)] [] lay M P := e_istore_n (i := 2) rfl rfl (by simp) (mS1_2 h0)
set_option maxRecDepth 20000 in
theorem g189_54 {d : Nat} {a1 a2 : Option Value} {x : Nat} {lay : List mShp} {M : mMem} {P : mPost} (hx : ¬ x = 0) : mG (d) 189 54 [some (.ref x), a1, a2] [] lay M P = mG d 189 55 [some (.ref x), a1, a2] [.ref x] lay M P := e_aload_nP hx (i := 0) rfl rfl rfl
set_option maxRecDepth 20000 in
theorem g189_55 {d : Nat} {a0 a1 a2 : Option Value} {s0 : Nat} {lay : List mShp} {M : mMem} {P : mPost} : mG (d) 189 55 [a0, a1, a2] [.ref s0] lay M P = mG d 189 56 [a0, a1, a2] [.int (Int32.ofInt 0), .ref s0] lay M P := e_iconst rfl
set_option maxRecDepth 20000 in
theorem g189_56 {d : Nat} {a0 a1 a2 : Option Value} {s0 : Int32} {s1 : Nat} {lay : List mShp} {M : mMem} {P : mPost} (hs : mSh lay s1 = some (13, 44)) : mG (d + 1) 189 56 [a0, a1, a2] [.int s0, .ref s1] lay M P = mF d 150 [.ref s1, .int s0] lay M (fun v lay1 M1 => mG (d + 1) 189 59 [a0, a1, a2] (v.toList ++ []) lay1 M1 P) := e_virtP1 (j := 150) (c := 10) rfl rfl rfl rfl rfl rfl hs (Nat.le_of_ble_eq_true rfl)
set_option maxRecDepth 20000 in
theorem g189_59 {d : Nat} {a1 a2 : Option Value} {x : Nat} {lay : List mShp} {M : mMem} {P : mPost} (hx : ¬ x = 0) : mG (d) 189 59 [some (.ref x), a1, a2] [] lay M P = mG d 189 60 [some (.ref x), a1, a2] [.ref x] lay M P := e_aload_nP hx (i := 0) rfl rfl rfl
set_option maxRecDepth 20000 in
theorem g189_60 {d : Nat} {a0 a2 : Option Value} {s0 : Nat} {x : Int32} {lay : List mShp} {M : mMem} {P : mPost} : mG (d) 189 60 [a0, some (.int x), a2] [.ref s0] lay M P = mG d 189 61 [a0, some (.int x), a2] [.int x, .ref s0] lay M P := e_iload_n (i := 1) rfl rfl rfl
set_option maxRecDepth 20000 in
theorem g189_61 {d : Nat} {a0 a1 : Option Value} {s0 : Int32} {s1 : Nat} {x : Int32} {lay : List mShp} {M : mMem} {P : mPost} : mG (d) 189 61 [a0, a1, some (.int x)] [.int s0, .ref s1] lay M P = mG d 189 62 [a0, a1, some (.int x)] [.int x, .int s0, .ref s1] lay M P := e_iload_n (i := 2) rfl rfl rfl
set_option maxRecDepth 20000 in
theorem g189_62 {d : Nat} {a0 a1 a2 : Option Value} {s0 : Int32} {s1 : Int32} {s2 : Nat} {lay : List mShp} {M : mMem} {P : mPost} (hs : mSh lay s2 = some (13, 44)) : mG (d + 1) 189 62 [a0, a1, a2] [.int s0, .int s1, .ref s2] lay M P = mF d 190 [.ref s2, .int s1, .int s0] lay M (fun v lay1 M1 => mG (d + 1) 189 65 [a0, a1, a2] (v.toList ++ []) lay1 M1 P) := e_virtP2 (j := 190) (c := 10) rfl rfl rfl rfl rfl rfl hs (Nat.le_of_ble_eq_true rfl)
set_option maxRecDepth 20000 in
theorem g189_65 {d : Nat} {a0 a1 a2 : Option Value} {lay : List mShp} {M : mMem} {P : mPost} : mG (d) 189 65 [a0, a1, a2] [] lay M P = P none lay M := e_return rfl rfl
-- 190 X10_take
theorem g190_in {d : Nat} {x0 : Nat} {x1 : Int32} {x2 : Int32} {lay : List mShp} {M : mMem} {P : mPost} : mF d 190 [.ref x0, .int x1, .int x2] lay M P = mG d 190 0 [some (.ref x0), some (.int x1), some (.int x2), none] [] lay M P := mF_in rfl rfl
set_option maxRecDepth 20000 in
theorem g190_0 {d : Nat} {a0 a2 a3 : Option Value} {x : Int32} {lay : List mShp} {M : mMem} {P : mPost} : mG (d) 190 0 [a0, some (.int x), a2, a3] [] lay M P = mG d 190 1 [a0, some (.int x), a2, a3] [.int x] lay M P := e_iload_n (i := 1) rfl rfl rfl
set_option maxRecDepth 20000 in
theorem g190_1 {d : Nat} {a1 a2 a3 : Option Value} {s0 : Int32} {x : Nat} {lay : List mShp} {M : mMem} {P : mPost} (hx : ¬ x = 0) : mG (d) 190 1 [some (.ref x), a1, a2, a3] [.int s0] lay M P = mG d 190 2 [some (.ref x), a1, a2, a3] [.ref x, .int s0] lay M P := e_aload_nP hx (i := 0) rfl rfl rfl
set_option maxRecDepth 20000 in
theorem g190_2 {d : Nat} {a0 a1 a2 a3 : Option Value} {s0 : Nat} {s1 : Int32} {lay : List mShp} {M : mMem} {P : mPost} (hs : mSh lay s0 = some (13, 44)) : mG (d) 190 2 [a0, a1, a2, a3] [.ref s0, .int s1] lay M P = mG d 190 5 [a0, a1, a2, a3] [.int (M.1 s0 25), .int s1] lay M P := mG_of_and (mIsO_of hs (by decide)) (e_getI (ci := 10) (j := 25) rfl rfl rfl)
set_option maxRecDepth 20000 in
theorem g190_5 {d : Nat} {a0 a1 a2 a3 : Option Value} {s0 : Int32} {s1 : Int32} {lay : List mShp} {M : mMem} {P : mPost} : mG (d) 190 5 [a0, a1, a2, a3] [.int s0, .int s1] lay M P = if s1 < s0 then mG d 190 24 [a0, a1, a2, a3] [] lay M P else mG d 190 8 [a0, a1, a2, a3] [] lay M P := e_icmp_lt rfl rfl
set_option maxRecDepth 20000 in
theorem g190_8 {d : Nat} {a0 a2 a3 : Option Value} {x : Int32} {lay : List mShp} {M : mMem} {P : mPost} : mG (d) 190 8 [a0, some (.int x), a2, a3] [] lay M P = mG d 190 9 [a0, some (.int x), a2, a3] [.int x] lay M P := e_iload_n (i := 1) rfl rfl rfl
set_option maxRecDepth 20000 in
theorem g190_9 {d : Nat} {a1 a2 a3 : Option Value} {s0 : Int32} {x : Nat} {lay : List mShp} {M : mMem} {P : mPost} (hx : ¬ x = 0) : mG (d) 190 9 [some (.ref x), a1, a2, a3] [.int s0] lay M P = mG d 190 10 [some (.ref x), a1, a2, a3] [.ref x, .int s0] lay M P := e_aload_nP hx (i := 0) rfl rfl rfl
set_option maxRecDepth 20000 in
theorem g190_10 {d : Nat} {a0 a1 a2 a3 : Option Value} {s0 : Nat} {s1 : Int32} {lay : List mShp} {M : mMem} {P : mPost} (hs : mSh lay s0 = some (13, 44)) : mG (d) 190 10 [a0, a1, a2, a3] [.ref s0, .int s1] lay M P = mG d 190 13 [a0, a1, a2, a3] [.int (M.1 s0 25), .int s1] lay M P := mG_of_and (mIsO_of hs (by decide)) (e_getI (ci := 10) (j := 25) rfl rfl rfl)
set_option maxRecDepth 20000 in
theorem g190_13 {d : Nat} {a0 a1 a2 a3 : Option Value} {s0 : Int32} {s1 : Int32} {lay : List mShp} {M : mMem} {P : mPost} : mG (d) 190 13 [a0, a1, a2, a3] [.int s0, .int s1] lay M P = if s1 = s0 then mG d 190 16 [a0, a1, a2, a3] [] lay M P else mG d 190 62 [a0, a1, a2, a3] [] lay M P := e_icmp_ne rfl rfl
set_option maxRecDepth 20000 in
theorem g190_16 {d : Nat} {a0 a1 a3 : Option Value} {x : Int32} {lay : List mShp} {M : mMem} {P : mPost} : mG (d) 190 16 [a0, a1, some (.int x), a3] [] lay M P = mG d 190 17 [a0, a1, some (.int x), a3] [.int x] lay M P := e_iload_n (i := 2) rfl rfl rfl
set_option maxRecDepth 20000 in
theorem g190_17 {d : Nat} {a1 a2 a3 : Option Value} {s0 : Int32} {x : Nat} {lay : List mShp} {M : mMem} {P : mPost} (hx : ¬ x = 0) : mG (d) 190 17 [some (.ref x), a1, a2, a3] [.int s0] lay M P = mG d 190 18 [some (.ref x), a1, a2, a3] [.ref x, .int s0] lay M P := e_aload_nP hx (i := 0) rfl rfl rfl
set_option maxRecDepth 20000 in
theorem g190_18 {d : Nat} {a0 a1 a2 a3 : Option Value} {s0 : Nat} {s1 : Int32} {lay : List mShp} {M : mMem} {P : mPost} (hs : mSh lay s0 = some (13, 44)) : mG (d) 190 18 [a0, a1, a2, a3] [.ref s0, .int s1] lay M P = mG d 190 21 [a0, a1, a2, a3] [.int (M.1 s0 26), .int s1] lay M P := mG_of_and (mIsO_of hs (by decide)) (e_getI (ci := 10) (j := 26) rfl rfl rfl)
set_option maxRecDepth 20000 in
theorem g190_21 {d : Nat} {a0 a1 a2 a3 : Option Value} {s0 : Int32} {s1 : Int32} {lay : List mShp} {M : mMem} {P : mPost} : mG (d) 190 21 [a0, a1, a2, a3] [.int s0, .int s1] lay M P = if s0 < s1 then mG d 190 24 [a0, a1, a2, a3] [] lay M P else mG d 190 62 [a0, a1, a2, a3] [] lay M P := e_icmp_le rfl rfl
set_option maxRecDepth 20000 in
theorem g190_24 {d : Nat} {a1 a2 a3 : Option Value} {x : Nat} {lay : List mShp} {M : mMem} {P : mPost} (hx : ¬ x = 0) : mG (d) 190 24 [some (.ref x), a1, a2, a3] [] lay M P = mG d 190 25 [some (.ref x), a1, a2, a3] [.ref x] lay M P := e_aload_nP hx (i := 0) rfl rfl rfl
set_option maxRecDepth 20000 in
theorem g190_25 {d : Nat} {a0 a2 a3 : Option Value} {s0 : Nat} {x : Int32} {lay : List mShp} {M : mMem} {P : mPost} : mG (d) 190 25 [a0, some (.int x), a2, a3] [.ref s0] lay M P = mG d 190 26 [a0, some (.int x), a2, a3] [.int x, .ref s0] lay M P := e_iload_n (i := 1) rfl rfl rfl
set_option maxRecDepth 20000 in
theorem g190_26 {d : Nat} {a0 a1 a2 a3 : Option Value} {s0 : Int32} {s1 : Nat} {lay : List mShp} {M : mMem} {P : mPost} (hs : mSh lay s1 = some (13, 44)) : mG (d) 190 26 [a0, a1, a2, a3] [.int s0, .ref s1] lay M P = mG d 190 29 [a0, a1, a2, a3] [] lay (mSetI M s1 25 s0) P := mG_of_and (mIsO_of hs (by decide)) (e_putI (ci := 10) (j := 25) rfl rfl (Or.inl rfl) rfl)
set_option maxRecDepth 20000 in
theorem g190_29 {d : Nat} {a1 a2 a3 : Option Value} {x : Nat} {lay : List mShp} {M : mMem} {P : mPost} (hx : ¬ x = 0) : mG (d) 190 29 [some (.ref x), a1, a2, a3] [] lay M P = mG d 190 30 [some (.ref x), a1, a2, a3] [.ref x] lay M P := e_aload_nP hx (i := 0) rfl rfl rfl
set_option maxRecDepth 20000 in
theorem g190_30 {d : Nat} {a0 a1 a3 : Option Value} {s0 : Nat} {x : Int32} {lay : List mShp} {M : mMem} {P : mPost} : mG (d) 190 30 [a0, a1, some (.int x), a3] [.ref s0] lay M P = mG d 190 31 [a0, a1, some (.int x), a3] [.int x, .ref s0] lay M P := e_iload_n (i := 2) rfl rfl rfl
set_option maxRecDepth 20000 in
theorem g190_31 {d : Nat} {a0 a1 a2 a3 : Option Value} {s0 : Int32} {s1 : Nat} {lay : List mShp} {M : mMem} {P : mPost} (hs : mSh lay s1 = some (13, 44)) : mG (d) 190 31 [a0, a1, a2, a3] [.int s0, .ref s1] lay M P = mG d 190 34 [a0, a1, a2, a3] [] lay (mSetI M s1 26 s0) P := mG_of_and (mIsO_of hs (by decide)) (e_putI (ci := 10) (j := 26) rfl rfl (Or.inl rfl) rfl)
set_option maxRecDepth 20000 in
theorem g190_34 {d : Nat} {a0 a1 a2 a3 : Option Value} {lay : List mShp} {M : mMem} {P : mPost} : mG (d) 190 34 [a0, a1, a2, a3] [] lay M P = mG d 190 35 [a0, a1, a2, a3] [.int (Int32.ofInt 0)] lay M P := e_iconst rfl
set_option maxRecDepth 20000 in
theorem g190_35 {d : Nat} {a0 a1 a2 a3 : Option Value} {s0 : Int32} {lay : List mShp} {M : mMem} {P : mPost} (h0 : mNoL a2 = true) : mG (d) 190 35 [a0, a1, a2, a3] [.int s0] lay M P = mG d 190 36 [a0, a1, a2, some (.int s0)] [] lay M P := e_istore_n (i := 3) rfl rfl (by simp) (mS1_3 h0)
set_option maxRecDepth 20000 in
theorem g190_36 {d : Nat} {a0 a1 a2 : Option Value} {x : Int32} {lay : List mShp} {M : mMem} {P : mPost} : mG (d) 190 36 [a0, a1, a2, some (.int x)] [] lay M P = mG d 190 37 [a0, a1, a2, some (.int x)] [.int x] lay M P := e_iload_n (i := 3) rfl rfl rfl
set_option maxRecDepth 20000 in
theorem g190_37 {d : Nat} {a1 a2 a3 : Option Value} {s0 : Int32} {x : Nat} {lay : List mShp} {M : mMem} {P : mPost} (hx : ¬ x = 0) : mG (d) 190 37 [some (.ref x), a1, a2, a3] [.int s0] lay M P = mG d 190 38 [some (.ref x), a1, a2, a3] [.ref x, .int s0] lay M P := e_aload_nP hx (i := 0) rfl rfl rfl
set_option maxRecDepth 20000 in
theorem g190_38 {d : Nat} {a0 a1 a2 a3 : Option Value} {s0 : Nat} {s1 : Int32} {lay : List mShp} {M : mMem} {P : mPost} (hs : mSh lay s0 = some (13, 44)) : mG (d) 190 38 [a0, a1, a2, a3] [.ref s0, .int s1] lay M P = mG d 190 41 [a0, a1, a2, a3] [.int (M.1 s0 2), .int s1] lay M P := mG_of_and (mIsO_of hs (by decide)) (e_getI (ci := 10) (j := 2) rfl rfl rfl)
set_option maxRecDepth 20000 in
theorem g190_41 {d : Nat} {a0 a1 a2 a3 : Option Value} {s0 : Int32} {s1 : Int32} {lay : List mShp} {M : mMem} {P : mPost} : mG (d) 190 41 [a0, a1, a2, a3] [.int s0, .int s1] lay M P = if s1 < s0 then mG d 190 44 [a0, a1, a2, a3] [] lay M P else mG d 190 62 [a0, a1, a2, a3] [] lay M P := e_icmp_ge rfl rfl
set_option maxRecDepth 20000 in
theorem g190_44 {d : Nat} {a1 a2 a3 : Option Value} {x : Nat} {lay : List mShp} {M : mMem} {P : mPost} (hx : ¬ x = 0) : mG (d) 190 44 [some (.ref x), a1, a2, a3] [] lay M P = mG d 190 45 [some (.ref x), a1, a2, a3] [.ref x] lay M P := e_aload_nP hx (i := 0) rfl rfl rfl
set_option maxRecDepth 20000 in
theorem g190_45 {d : Nat} {a0 a1 a2 a3 : Option Value} {s0 : Nat} {lay : List mShp} {M : mMem} {P : mPost} (hs : mSh lay s0 = some (13, 44)) : mG (d) 190 45 [a0, a1, a2, a3] [.ref s0] lay M P = mG d 190 48 [a0, a1, a2, a3] [.ref (M.2.2 s0 24)] lay M P := mG_of_and (mIsO_of hs (by decide)) (e_getA (ci := 10) (j := 24) rfl rfl rfl)
set_option maxRecDepth 20000 in
theorem g190_48 {d : Nat} {a0 a1 a2 : Option Value} {s0 : Nat} {x : Int32} {lay : List mShp} {M : mMem} {P : mPost} : mG (d) 190 48 [a0, a1, a2, some (.int x)] [.ref s0] lay M P = mG d 190 49 [a0, a1, a2, some (.int x)] [.int x, .ref s0] lay M P := e_iload_n (i := 3) rfl rfl rfl
set_option maxRecDepth 20000 in
theorem g190_49 {d : Nat} {a1 a2 a3 : Option Value} {s0 : Int32} {s1 : Nat} {x : Nat} {lay : List mShp} {M : mMem} {P : mPost} (hx : ¬ x = 0) : mG (d) 190 49 [some (.ref x), a1, a2, a3] [.int s0, .ref s1] lay M P = mG d 190 50 [some (.ref x), a1, a2, a3] [.ref x, .int s0, .ref s1] lay M P := e_aload_nP hx (i := 0) rfl rfl rfl
set_option maxRecDepth 20000 in
theorem g190_50 {d : Nat} {a0 a1 a2 a3 : Option Value} {s0 : Nat} {s1 : Int32} {s2 : Nat} {lay : List mShp} {M : mMem} {P : mPost} (hs : mSh lay s0 = some (13, 44)) : mG (d) 190 50 [a0, a1, a2, a3] [.ref s0, .int s1, .ref s2] lay M P = mG d 190 53 [a0, a1, a2, a3] [.ref (M.2.2 s0 23), .int s1, .ref s2] lay M P := mG_of_and (mIsO_of hs (by decide)) (e_getA (ci := 10) (j := 23) rfl rfl rfl)
set_option maxRecDepth 20000 in
theorem g190_53 {d : Nat} {a0 a1 a2 : Option Value} {s0 : Nat} {s1 : Int32} {s2 : Nat} {x : Int32} {lay : List mShp} {M : mMem} {P : mPost} : mG (d) 190 53 [a0, a1, a2, some (.int x)] [.ref s0, .int s1, .ref s2] lay M P = mG d 190 54 [a0, a1, a2, some (.int x)] [.int x, .ref s0, .int s1, .ref s2] lay M P := e_iload_n (i := 3) rfl rfl rfl
set_option maxRecDepth 20000 in
theorem g190_54 {d : Nat} {a0 a1 a2 a3 : Option Value} {s0 : Int32} {s1 : Nat} {s2 : Int32} {s3 : Nat} {lay : List mShp} {M : mMem} {P : mPost} (hs : mSh lay s1 = some (0, 8)) : mG (d) 190 54 [a0, a1, a2, a3] [.int s0, .ref s1, .int s2, .ref s3] lay M P = (mIdx s0 8 = true ∧ mG d 190 55 [a0, a1, a2, a3] [.int (M.1 s1 s0.toNatClampNeg), .int s2, .ref s3] lay M P) := e_iaload rfl hs
set_option maxRecDepth 20000 in
theorem g190_55 {d : Nat} {a0 a1 a2 a3 : Option Value} {s0 : Int32} {s1 : Int32} {s2 : Nat} {lay : List mShp} {M : mMem} {P : mPost} (hs : mSh lay s2 = some (0, 8)) : mG (d) 190 55 [a0, a1, a2, a3] [.int s0, .int s1, .ref s2] lay M P = (mIdx s1 8 = true ∧ mG d 190 56 [a0, a1, a2, a3] [] lay (mSetI M s2 s1.toNatClampNeg s0) P) := e_iastore rfl hs
set_option maxRecDepth 20000 in
theorem g190_56 {d : Nat} {a0 a1 a2 : Option Value} {x : Int32} {lay : List mShp} {M : mMem} {P : mPost} (h0 : mNoL a2 = true) : mG (d) 190 56 [a0, a1, a2, some (.int x)] [] lay M P = mG d 190 59 [a0, a1, a2, some (.int (x + Int32.ofInt 1))] [] lay M P := e_iinc (n := 3) rfl rfl (mS1_3 h0)
set_option maxRecDepth 20000 in
theorem g190_59 {d : Nat} {a0 a1 a2 a3 : Option Value} {lay : List mShp} {M : mMem} {P : mPost} : mG (d) 190 59 [a0, a1, a2, a3] [] lay M P = mG d 190 36 [a0, a1, a2, a3] [] lay M P := e_goto rfl rfl
set_option maxRecDepth 20000 in
theorem g190_62 {d : Nat} {a0 a1 a2 a3 : Option Value} {lay : List mShp} {M : mMem} {P : mPost} : mG (d) 190 62 [a0, a1, a2, a3] [] lay M P = P none lay M := e_return rfl rfl
-- 191 X10_care_
theorem g191_in {d : Nat} {x0 : Nat} {x1 : Int32} {x2 : Int32} {x3 : Int32} {x4 : Int32} {lay : List mShp} {M : mMem} {P : mPost} : mF d 191 [.ref x0, .int x1, .int x2, .int x3, .int x4] lay M P = mG d 191 0 [some (.ref x0), some (.int x1), some (.int x2), some (.int x3), some (.int x4), none] [] lay M P := mF_in rfl rfl
set_option maxRecDepth 20000 in
theorem g191_0 {d : Nat} {a0 a2 a3 a4 a5 : Option Value} {x : Int32} {lay : List mShp} {M : mMem} {P : mPost} : mG (d) 191 0 [a0, some (.int x), a2, a3, a4, a5] [] lay M P = mG d 191 1 [a0, some (.int x), a2, a3, a4, a5] [.int x] lay M P := e_iload_n (i := 1) rfl rfl rfl
set_option maxRecDepth 20000 in
theorem g191_1 {d : Nat} {a1 a2 a3 a4 a5 : Option Value} {s0 : Int32} {x : Nat} {lay : List mShp} {M : mMem} {P : mPost} (hx : ¬ x = 0) : mG (d) 191 1 [some (.ref x), a1, a2, a3, a4, a5] [.int s0] lay M P = mG d 191 2 [some (.ref x), a1, a2, a3, a4, a5] [.ref x, .int s0] lay M P := e_aload_nP hx (i := 0) rfl rfl rfl
set_option maxRecDepth 20000 in
theorem g191_2 {d : Nat} {a0 a1 a2 a3 a4 a5 : Option Value} {s0 : Nat} {s1 : Int32} {lay : List mShp} {M : mMem} {P : mPost} (hs : mSh lay s0 = some (13, 44)) : mG (d) 191 2 [a0, a1, a2, a3, a4, a5] [.ref s0, .int s1] lay M P = mG d 191 5 [a0, a1, a2, a3, a4, a5] [.int (M.1 s0 2), .int s1] lay M P := mG_of_and (mIsO_of hs (by decide)) (e_getI (ci := 10) (j := 2) rfl rfl rfl)
set_option maxRecDepth 20000 in
theorem g191_5 {d : Nat} {a0 a1 a2 a3 a4 a5 : Option Value} {s0 : Int32} {s1 : Int32} {lay : List mShp} {M : mMem} {P : mPost} : mG (d) 191 5 [a0, a1, a2, a3, a4, a5] [.int s0, .int s1] lay M P = if s1 = s0 then mG d 191 8 [a0, a1, a2, a3, a4, a5] [] lay M P else mG d 191 34 [a0, a1, a2, a3, a4, a5] [] lay M P := e_icmp_ne rfl rfl
set_option maxRecDepth 20000 in
theorem g191_8 {d : Nat} {a0 a1 a2 a4 a5 : Option Value} {x : Int32} {lay : List mShp} {M : mMem} {P : mPost} : mG (d) 191 8 [a0, a1, a2, some (.int x), a4, a5] [] lay M P = mG d 191 9 [a0, a1, a2, some (.int x), a4, a5] [.int x] lay M P := e_iload_n (i := 3) rfl rfl rfl
set_option maxRecDepth 20000 in
theorem g191_9 {d : Nat} {a0 a1 a2 a3 a4 a5 : Option Value} {s0 : Int32} {lay : List mShp} {M : mMem} {P : mPost} : mG (d) 191 9 [a0, a1, a2, a3, a4, a5] [.int s0] lay M P = if s0 = 0 then mG d 191 12 [a0, a1, a2, a3, a4, a5] [] lay M P else mG d 191 22 [a0, a1, a2, a3, a4, a5] [] lay M P := e_if_ne rfl rfl
set_option maxRecDepth 20000 in
theorem g191_12 {d : Nat} {a1 a2 a3 a4 a5 : Option Value} {x : Nat} {lay : List mShp} {M : mMem} {P : mPost} (hx : ¬ x = 0) : mG (d) 191 12 [some (.ref x), a1, a2, a3, a4, a5] [] lay M P = mG d 191 13 [some (.ref x), a1, a2, a3, a4, a5] [.ref x] lay M P := e_aload_nP hx (i := 0) rfl rfl rfl
set_option maxRecDepth 20000 in
theorem g191_13 {d : Nat} {a0 a1 a2 a3 a5 : Option Value} {s0 : Nat} {x : Int32} {lay : List mShp} {M : mMem} {P : mPost} : mG (d) 191 13 [a0, a1, a2, a3, some (.int x), a5] [.ref s0] lay M P = mG d 191 15 [a0, a1, a2, a3, some (.int x), a5] [.int x, .ref s0] lay M P := e_iload (i := 4) rfl rfl
set_option maxRecDepth 20000 in
theorem g191_15 {d : Nat} {a0 a1 a2 a3 a4 a5 : Option Value} {s0 : Int32} {s1 : Nat} {lay : List mShp} {M : mMem} {P : mPost} : mG (d) 191 15 [a0, a1, a2, a3, a4, a5] [.int s0, .ref s1] lay M P = mG d 191 16 [a0, a1, a2, a3, a4, a5] [.int (Int32.ofInt 0), .int s0, .ref s1] lay M P := e_iconst rfl
set_option maxRecDepth 20000 in
theorem g191_16 {d : Nat} {a0 a1 a2 a3 a4 a5 : Option Value} {s0 : Int32} {s1 : Int32} {s2 : Nat} {lay : List mShp} {M : mMem} {P : mPost} (hs : mSh lay s2 = some (13, 44)) : mG (d + 1) 191 16 [a0, a1, a2, a3, a4, a5] [.int s0, .int s1, .ref s2] lay M P = mF d 190 [.ref s2, .int s1, .int s0] lay M (fun v lay1 M1 => mG (d + 1) 191 19 [a0, a1, a2, a3, a4, a5] (v.toList ++ []) lay1 M1 P) := e_virtP2 (j := 190) (c := 10) rfl rfl rfl rfl rfl rfl hs (Nat.le_of_ble_eq_true rfl)
set_option maxRecDepth 20000 in
theorem g191_19 {d : Nat} {a0 a1 a2 a3 a4 a5 : Option Value} {lay : List mShp} {M : mMem} {P : mPost} : mG (d) 191 19 [a0, a1, a2, a3, a4, a5] [] lay M P = mG d 191 33 [a0, a1, a2, a3, a4, a5] [] lay M P := e_goto rfl rfl
set_option maxRecDepth 20000 in
theorem g191_22 {d : Nat} {a1 a2 a3 a4 a5 : Option Value} {x : Nat} {lay : List mShp} {M : mMem} {P : mPost} (hx : ¬ x = 0) : mG (d) 191 22 [some (.ref x), a1, a2, a3, a4, a5] [] lay M P = mG d 191 23 [some (.ref x), a1, a2, a3, a4, a5] [.ref x] lay M P := e_aload_nP hx (i := 0) rfl rfl rfl
set_option maxRecDepth 20000 in
theorem g191_23 {d : Nat} {a0 a1 a2 a3 a4 a5 : Option Value} {s0 : Nat} {lay : List mShp} {M : mMem} {P : mPost} (hs : mSh lay s0 = some (13, 44)) : mG (d + 1) 191 23 [a0, a1, a2, a3, a4, a5] [.ref s0] lay M P = mF d 188 [.ref s0] lay M (fun v lay1 M1 => mG (d + 1) 191 26 [a0, a1, a2, a3, a4, a5] (v.toList ++ []) lay1 M1 P) := e_virtP0 (j := 188) (c := 10) rfl rfl rfl rfl rfl rfl hs (Nat.le_of_ble_eq_true rfl)
set_option maxRecDepth 20000 in
theorem g191_26 {d : Nat} {a0 a1 a2 a3 a4 a5 : Option Value} {s0 : Int32} {lay : List mShp} {M : mMem} {P : mPost} : mG (d) 191 26 [a0, a1, a2, a3, a4, a5] [.int s0] lay M P = if s0 = 0 then mG d 191 33 [a0, a1, a2, a3, a4, a5] [] lay M P else mG d 191 29 [a0, a1, a2, a3, a4, a5] [] lay M P := e_if_eq rfl rfl
set_option maxRecDepth 20000 in
theorem g191_29 {d : Nat} {a1 a2 a3 a4 a5 : Option Value} {x : Nat} {lay : List mShp} {M : mMem} {P : mPost} (hx : ¬ x = 0) : mG (d) 191 29 [some (.ref x), a1, a2, a3, a4, a5] [] lay M P = mG d 191 30 [some (.ref x), a1, a2, a3, a4, a5] [.ref x] lay M P := e_aload_nP hx (i := 0) rfl rfl rfl
set_option maxRecDepth 20000 in
theorem g191_30 {d : Nat} {a0 a1 a2 a3 a4 a5 : Option Value} {s0 : Nat} {lay : List mShp} {M : mMem} {P : mPost} (hs : mSh lay s0 = some (13, 44)) : mG (d + 1) 191 30 [a0, a1, a2, a3, a4, a5] [.ref s0] lay M P = mF d 189 [.ref s0] lay M (fun v lay1 M1 => mG (d + 1) 191 33 [a0, a1, a2, a3, a4, a5] (v.toList ++ []) lay1 M1 P) := e_virtP0 (j := 189) (c := 10) rfl rfl rfl rfl rfl rfl hs (Nat.le_of_ble_eq_true rfl)
set_option maxRecDepth 20000 in
theorem g191_33 {d : Nat} {a0 a1 a2 a3 a4 a5 : Option Value} {lay : List mShp} {M : mMem} {P : mPost} : mG (d) 191 33 [a0, a1, a2, a3, a4, a5] [] lay M P = P none lay M := e_return rfl rfl
set_option maxRecDepth 20000 in
theorem g191_34 {d : Nat} {a0 a1 a2 a3 a4 a5 : Option Value} {lay : List mShp} {M : mMem} {P : mPost} : mG (d) 191 34 [a0, a1, a2, a3, a4, a5] [] lay M P = mG d 191 35 [a0, a1, a2, a3, a4, a5] [.int (Int32.ofInt 0)] lay M P := e_iconst rfl
set_option maxRecDepth 20000 in
theorem g191_35 {d : Nat} {a0 a1 a2 a3 a4 a5 : Option Value} {s0 : Int32} {lay : List mShp} {M : mMem} {P : mPost} (h0 : mNoL a4 = true) : mG (d) 191 35 [a0, a1, a2, a3, a4, a5] [.int s0] lay M P = mG d 191 37 [a0, a1, a2, a3, a4, some (.int s0)] [] lay M P := e_istore (i := 5) rfl (by simp) (mS1_5 h0)
set_option maxRecDepth 20000 in
theorem g191_37 {d : Nat} {a0 a1 a2 a3 a4 : Option Value} {x : Int32} {lay : List mShp} {M : mMem} {P : mPost} : mG (d) 191 37 [a0, a1, a2, a3, a4, some (.int x)] [] lay M P = mG d 191 39 [a0, a1, a2, a3, a4, some (.int x)] [.int x] lay M P := e_iload (i := 5) rfl rfl
set_option maxRecDepth 20000 in
theorem g191_39 {d : Nat} {a1 a2 a3 a4 a5 : Option Value} {s0 : Int32} {x : Nat} {lay : List mShp} {M : mMem} {P : mPost} (hx : ¬ x = 0) : mG (d) 191 39 [some (.ref x), a1, a2, a3, a4, a5] [.int s0] lay M P = mG d 191 40 [some (.ref x), a1, a2, a3, a4, a5] [.ref x, .int s0] lay M P := e_aload_nP hx (i := 0) rfl rfl rfl
set_option maxRecDepth 20000 in
theorem g191_40 {d : Nat} {a0 a1 a2 a3 a4 a5 : Option Value} {s0 : Nat} {s1 : Int32} {lay : List mShp} {M : mMem} {P : mPost} (hs : mSh lay s0 = some (13, 44)) : mG (d) 191 40 [a0, a1, a2, a3, a4, a5] [.ref s0, .int s1] lay M P = mG d 191 43 [a0, a1, a2, a3, a4, a5] [.int (M.1 s0 2), .int s1] lay M P := mG_of_and (mIsO_of hs (by decide)) (e_getI (ci := 10) (j := 2) rfl rfl rfl)
set_option maxRecDepth 20000 in
theorem g191_43 {d : Nat} {a0 a1 a2 a3 a4 a5 : Option Value} {s0 : Int32} {s1 : Int32} {lay : List mShp} {M : mMem} {P : mPost} : mG (d) 191 43 [a0, a1, a2, a3, a4, a5] [.int s0, .int s1] lay M P = if s1 < s0 then mG d 191 46 [a0, a1, a2, a3, a4, a5] [] lay M P else mG d 191 108 [a0, a1, a2, a3, a4, a5] [] lay M P := e_icmp_ge rfl rfl
set_option maxRecDepth 20000 in
theorem g191_46 {d : Nat} {a0 a1 a2 a3 a4 : Option Value} {x : Int32} {lay : List mShp} {M : mMem} {P : mPost} : mG (d) 191 46 [a0, a1, a2, a3, a4, some (.int x)] [] lay M P = mG d 191 48 [a0, a1, a2, a3, a4, some (.int x)] [.int x] lay M P := e_iload (i := 5) rfl rfl
set_option maxRecDepth 20000 in
theorem g191_48 {d : Nat} {a0 a2 a3 a4 a5 : Option Value} {s0 : Int32} {x : Int32} {lay : List mShp} {M : mMem} {P : mPost} : mG (d) 191 48 [a0, some (.int x), a2, a3, a4, a5] [.int s0] lay M P = mG d 191 49 [a0, some (.int x), a2, a3, a4, a5] [.int x, .int s0] lay M P := e_iload_n (i := 1) rfl rfl rfl
set_option maxRecDepth 20000 in
theorem g191_49 {d : Nat} {a0 a1 a2 a3 a4 a5 : Option Value} {s0 : Int32} {s1 : Int32} {lay : List mShp} {M : mMem} {P : mPost} : mG (d) 191 49 [a0, a1, a2, a3, a4, a5] [.int s0, .int s1] lay M P = if s1 = s0 then mG d 191 102 [a0, a1, a2, a3, a4, a5] [] lay M P else mG d 191 52 [a0, a1, a2, a3, a4, a5] [] lay M P := e_icmp_eq rfl rfl
set_option maxRecDepth 20000 in
theorem g191_52 {d : Nat} {a0 a1 a3 a4 a5 : Option Value} {x : Int32} {lay : List mShp} {M : mMem} {P : mPost} : mG (d) 191 52 [a0, a1, some (.int x), a3, a4, a5] [] lay M P = mG d 191 53 [a0, a1, some (.int x), a3, a4, a5] [.int x] lay M P := e_iload_n (i := 2) rfl rfl rfl
set_option maxRecDepth 20000 in
theorem g191_53 {d : Nat} {a0 a1 a2 a3 a4 : Option Value} {s0 : Int32} {x : Int32} {lay : List mShp} {M : mMem} {P : mPost} : mG (d) 191 53 [a0, a1, a2, a3, a4, some (.int x)] [.int s0] lay M P = mG d 191 55 [a0, a1, a2, a3, a4, some (.int x)] [.int x, .int s0] lay M P := e_iload (i := 5) rfl rfl
set_option maxRecDepth 20000 in
theorem g191_55 {d : Nat} {a0 a1 a2 a3 a4 a5 : Option Value} {s0 : Int32} {s1 : Int32} {lay : List mShp} {M : mMem} {P : mPost} : mG (d) 191 55 [a0, a1, a2, a3, a4, a5] [.int s0, .int s1] lay M P = mG d 191 56 [a0, a1, a2, a3, a4, a5] [.int (s1 >>> (s0 &&& 31))] lay M P := e_ishr rfl
set_option maxRecDepth 20000 in
theorem g191_56 {d : Nat} {a0 a1 a2 a3 a4 a5 : Option Value} {s0 : Int32} {lay : List mShp} {M : mMem} {P : mPost} : mG (d) 191 56 [a0, a1, a2, a3, a4, a5] [.int s0] lay M P = mG d 191 57 [a0, a1, a2, a3, a4, a5] [.int (Int32.ofInt 1), .int s0] lay M P := e_iconst rfl
set_option maxRecDepth 20000 in
theorem g191_57 {d : Nat} {a0 a1 a2 a3 a4 a5 : Option Value} {s0 : Int32} {s1 : Int32} {lay : List mShp} {M : mMem} {P : mPost} : mG (d) 191 57 [a0, a1, a2, a3, a4, a5] [.int s0, .int s1] lay M P = mG d 191 58 [a0, a1, a2, a3, a4, a5] [.int (s1 &&& s0)] lay M P := e_iand rfl
set_option maxRecDepth 20000 in
theorem g191_58 {d : Nat} {a0 a1 a2 a3 a4 a5 : Option Value} {s0 : Int32} {lay : List mShp} {M : mMem} {P : mPost} : mG (d) 191 58 [a0, a1, a2, a3, a4, a5] [.int s0] lay M P = if s0 = 0 then mG d 191 61 [a0, a1, a2, a3, a4, a5] [] lay M P else mG d 191 102 [a0, a1, a2, a3, a4, a5] [] lay M P := e_if_ne rfl rfl
set_option maxRecDepth 20000 in
theorem g191_61 {d : Nat} {a1 a2 a3 a4 a5 : Option Value} {x : Nat} {lay : List mShp} {M : mMem} {P : mPost} (hx : ¬ x = 0) : mG (d) 191 61 [some (.ref x), a1, a2, a3, a4, a5] [] lay M P = mG d 191 62 [some (.ref x), a1, a2, a3, a4, a5] [.ref x] lay M P := e_aload_nP hx (i := 0) rfl rfl rfl
set_option maxRecDepth 20000 in
theorem g191_62 {d : Nat} {a0 a1 a2 a3 a4 a5 : Option Value} {s0 : Nat} {lay : List mShp} {M : mMem} {P : mPost} (hs : mSh lay s0 = some (13, 44)) : mG (d) 191 62 [a0, a1, a2, a3, a4, a5] [.ref s0] lay M P = mG d 191 65 [a0, a1, a2, a3, a4, a5] [.ref (M.2.2 s0 23)] lay M P := mG_of_and (mIsO_of hs (by decide)) (e_getA (ci := 10) (j := 23) rfl rfl rfl)
set_option maxRecDepth 20000 in
theorem g191_65 {d : Nat} {a0 a2 a3 a4 a5 : Option Value} {s0 : Nat} {x : Int32} {lay : List mShp} {M : mMem} {P : mPost} : mG (d) 191 65 [a0, some (.int x), a2, a3, a4, a5] [.ref s0] lay M P = mG d 191 66 [a0, some (.int x), a2, a3, a4, a5] [.int x, .ref s0] lay M P := e_iload_n (i := 1) rfl rfl rfl
set_option maxRecDepth 20000 in
theorem g191_66 {d : Nat} {a0 a1 a2 a3 a4 : Option Value} {s0 : Int32} {s1 : Nat} {x : Int32} {lay : List mShp} {M : mMem} {P : mPost} : mG (d) 191 66 [a0, a1, a2, a3, a4, some (.int x)] [.int s0, .ref s1] lay M P = mG d 191 68 [a0, a1, a2, a3, a4, some (.int x)] [.int x, .int s0, .ref s1] lay M P := e_iload (i := 5) rfl rfl
set_option maxRecDepth 20000 in
theorem g191_68 {d : Nat} {a0 a1 a2 a3 a4 a5 : Option Value} {s0 : Int32} {s1 : Int32} {s2 : Nat} {lay : List mShp} {M : mMem} {P : mPost} (hs : mSh lay s2 = some (0, 8)) : mG (d) 191 68 [a0, a1, a2, a3, a4, a5] [.int s0, .int s1, .ref s2] lay M P = (mIdx s1 8 = true ∧ mG d 191 69 [a0, a1, a2, a3, a4, a5] [] lay (mSetI M s2 s1.toNatClampNeg s0) P) := e_iastore rfl hs
set_option maxRecDepth 20000 in
theorem g191_69 {d : Nat} {a1 a2 a3 a4 a5 : Option Value} {x : Nat} {lay : List mShp} {M : mMem} {P : mPost} (hx : ¬ x = 0) : mG (d) 191 69 [some (.ref x), a1, a2, a3, a4, a5] [] lay M P = mG d 191 70 [some (.ref x), a1, a2, a3, a4, a5] [.ref x] lay M P := e_aload_nP hx (i := 0) rfl rfl rfl
set_option maxRecDepth 20000 in
theorem g191_70 {d : Nat} {a0 a2 a3 a4 a5 : Option Value} {s0 : Nat} {x : Int32} {lay : List mShp} {M : mMem} {P : mPost} : mG (d) 191 70 [a0, some (.int x), a2, a3, a4, a5] [.ref s0] lay M P = mG d 191 71 [a0, some (.int x), a2, a3, a4, a5] [.int x, .ref s0] lay M P := e_iload_n (i := 1) rfl rfl rfl
set_option maxRecDepth 20000 in
theorem g191_71 {d : Nat} {a0 a1 a2 a3 a4 a5 : Option Value} {s0 : Int32} {s1 : Nat} {lay : List mShp} {M : mMem} {P : mPost} : mG (d) 191 71 [a0, a1, a2, a3, a4, a5] [.int s0, .ref s1] lay M P = mG d 191 72 [a0, a1, a2, a3, a4, a5] [.int (Int32.ofInt 1), .int s0, .ref s1] lay M P := e_iconst rfl
set_option maxRecDepth 20000 in
theorem g191_72 {d : Nat} {a0 a1 a2 a3 a4 a5 : Option Value} {s0 : Int32} {s1 : Int32} {s2 : Nat} {lay : List mShp} {M : mMem} {P : mPost} : mG (d) 191 72 [a0, a1, a2, a3, a4, a5] [.int s0, .int s1, .ref s2] lay M P = mG d 191 73 [a0, a1, a2, a3, a4, a5] [.int (s1 + s0), .ref s2] lay M P := e_iadd rfl
set_option maxRecDepth 20000 in
theorem g191_73 {d : Nat} {a0 a1 a3 a4 a5 : Option Value} {s0 : Int32} {s1 : Nat} {x : Int32} {lay : List mShp} {M : mMem} {P : mPost} : mG (d) 191 73 [a0, a1, some (.int x), a3, a4, a5] [.int s0, .ref s1] lay M P = mG d 191 74 [a0, a1, some (.int x), a3, a4, a5] [.int x, .int s0, .ref s1] lay M P := e_iload_n (i := 2) rfl rfl rfl
set_option maxRecDepth 20000 in
theorem g191_74 {d : Nat} {a0 a1 a2 a3 a4 a5 : Option Value} {s0 : Int32} {s1 : Int32} {s2 : Nat} {lay : List mShp} {M : mMem} {P : mPost} : mG (d) 191 74 [a0, a1, a2, a3, a4, a5] [.int s0, .int s1, .ref s2] lay M P = mG d 191 75 [a0, a1, a2, a3, a4, a5] [.int (Int32.ofInt 1), .int s0, .int s1, .ref s2] lay M P := e_iconst rfl
set_option maxRecDepth 20000 in
theorem g191_75 {d : Nat} {a0 a1 a2 a3 a4 : Option Value} {s0 : Int32} {s1 : Int32} {s2 : Int32} {s3 : Nat} {x : Int32} {lay : List mShp} {M : mMem} {P : mPost} : mG (d) 191 75 [a0, a1, a2, a3, a4, some (.int x)] [.int s0, .int s1, .int s2, .ref s3] lay M P = mG d 191 77 [a0, a1, a2, a3, a4, some (.int x)] [.int x, .int s0, .int s1, .int s2, .ref s3] lay M P := e_iload (i := 5) rfl rfl
set_option maxRecDepth 20000 in
theorem g191_77 {d : Nat} {a0 a1 a2 a3 a4 a5 : Option Value} {s0 : Int32} {s1 : Int32} {s2 : Int32} {s3 : Int32} {s4 : Nat} {lay : List mShp} {M : mMem} {P : mPost} : mG (d) 191 77 [a0, a1, a2, a3, a4, a5] [.int s0, .int s1, .int s2, .int s3, .ref s4] lay M P = mG d 191 78 [a0, a1, a2, a3, a4, a5] [.int (s1 <<< (s0 &&& 31)), .int s2, .int s3, .ref s4] lay M P := e_ishl rfl
set_option maxRecDepth 20000 in
theorem g191_78 {d : Nat} {a0 a1 a2 a3 a4 a5 : Option Value} {s0 : Int32} {s1 : Int32} {s2 : Int32} {s3 : Nat} {lay : List mShp} {M : mMem} {P : mPost} : mG (d) 191 78 [a0, a1, a2, a3, a4, a5] [.int s0, .int s1, .int s2, .ref s3] lay M P = mG d 191 79 [a0, a1, a2, a3, a4, a5] [.int (s1 ||| s0), .int s2, .ref s3] lay M P := e_ior rfl
set_option maxRecDepth 20000 in
theorem g191_79 {d : Nat} {a0 a1 a2 a4 a5 : Option Value} {s0 : Int32} {s1 : Int32} {s2 : Nat} {x : Int32} {lay : List mShp} {M : mMem} {P : mPost} : mG (d) 191 79 [a0, a1, a2, some (.int x), a4, a5] [.int s0, .int s1, .ref s2] lay M P = mG d 191 80 [a0, a1, a2, some (.int x), a4, a5] [.int x, .int s0, .int s1, .ref s2] lay M P := e_iload_n (i := 3) rfl rfl rfl
set_option maxRecDepth 20000 in
theorem g191_80 {d : Nat} {a0 a1 a2 a3 a5 : Option Value} {s0 : Int32} {s1 : Int32} {s2 : Int32} {s3 : Nat} {x : Int32} {lay : List mShp} {M : mMem} {P : mPost} : mG (d) 191 80 [a0, a1, a2, a3, some (.int x), a5] [.int s0, .int s1, .int s2, .ref s3] lay M P = mG d 191 82 [a0, a1, a2, a3, some (.int x), a5] [.int x, .int s0, .int s1, .int s2, .ref s3] lay M P := e_iload (i := 4) rfl rfl
set_option maxRecDepth 20000 in
theorem g191_82 {d : Nat} {a1 a2 a3 a4 a5 : Option Value} {s0 : Int32} {s1 : Int32} {s2 : Int32} {s3 : Int32} {s4 : Nat} {x : Nat} {lay : List mShp} {M : mMem} {P : mPost} (hx : ¬ x = 0) : mG (d) 191 82 [some (.ref x), a1, a2, a3, a4, a5] [.int s0, .int s1, .int s2, .int s3, .ref s4] lay M P = mG d 191 83 [some (.ref x), a1, a2, a3, a4, a5] [.ref x, .int s0, .int s1, .int s2, .int s3, .ref s4] lay M P := e_aload_nP hx (i := 0) rfl rfl rfl
set_option maxRecDepth 20000 in
theorem g191_83 {d : Nat} {a0 a2 a3 a4 a5 : Option Value} {s0 : Nat} {s1 : Int32} {s2 : Int32} {s3 : Int32} {s4 : Int32} {s5 : Nat} {x : Int32} {lay : List mShp} {M : mMem} {P : mPost} : mG (d) 191 83 [a0, some (.int x), a2, a3, a4, a5] [.ref s0, .int s1, .int s2, .int s3, .int s4, .ref s5] lay M P = mG d 191 84 [a0, some (.int x), a2, a3, a4, a5] [.int x, .ref s0, .int s1, .int s2, .int s3, .int s4, .ref s5] lay M P := e_iload_n (i := 1) rfl rfl rfl
set_option maxRecDepth 20000 in
theorem g191_84 {d : Nat} {a0 a1 a2 a3 a4 a5 : Option Value} {s0 : Int32} {s1 : Nat} {s2 : Int32} {s3 : Int32} {s4 : Int32} {s5 : Int32} {s6 : Nat} {lay : List mShp} {M : mMem} {P : mPost} : mG (d) 191 84 [a0, a1, a2, a3, a4, a5] [.int s0, .ref s1, .int s2, .int s3, .int s4, .int s5, .ref s6] lay M P = mG d 191 85 [a0, a1, a2, a3, a4, a5] [.int (Int32.ofInt 4), .int s0, .ref s1, .int s2, .int s3, .int s4, .int s5, .ref s6] lay M P := e_iconst rfl
set_option maxRecDepth 20000 in
theorem g191_85 {d : Nat} {a0 a1 a2 a3 a4 a5 : Option Value} {s0 : Int32} {s1 : Int32} {s2 : Nat} {s3 : Int32} {s4 : Int32} {s5 : Int32} {s6 : Int32} {s7 : Nat} {lay : List mShp} {M : mMem} {P : mPost} (hs : mSh lay s2 = some (13, 44)) : mG (d + 1) 191 85 [a0, a1, a2, a3, a4, a5] [.int s0, .int s1, .ref s2, .int s3, .int s4, .int s5, .int s6, .ref s7] lay M P = mF d 152 [.ref s2, .int s1, .int s0] lay M (fun v lay1 M1 => mG (d + 1) 191 88 [a0, a1, a2, a3, a4, a5] (v.toList ++ [.int s3, .int s4, .int s5, .int s6, .ref s7]) lay1 M1 P) := e_virtP2 (j := 152) (c := 10) rfl rfl rfl rfl rfl rfl hs (Nat.le_of_ble_eq_true rfl)
set_option maxRecDepth 20000 in
theorem g191_88 {d : Nat} {a0 a1 a2 a3 a4 : Option Value} {s0 : Int32} {s1 : Int32} {s2 : Int32} {s3 : Int32} {s4 : Int32} {s5 : Nat} {x : Int32} {lay : List mShp} {M : mMem} {P : mPost} : mG (d) 191 88 [a0, a1, a2, a3, a4, some (.int x)] [.int s0, .int s1, .int s2, .int s3, .int s4, .ref s5] lay M P = mG d 191 90 [a0, a1, a2, a3, a4, some (.int x)] [.int x, .int s0, .int s1, .int s2, .int s3, .int s4, .ref s5] lay M P := e_iload (i := 5) rfl rfl
set_option maxRecDepth 20000 in
theorem g191_90 {d : Nat} {a0 a1 a2 a3 a4 a5 : Option Value} {s0 : Int32} {s1 : Int32} {s2 : Int32} {s3 : Int32} {s4 : Int32} {s5 : Int32} {s6 : Nat} {lay : List mShp} {M : mMem} {P : mPost} : mG (d) 191 90 [a0, a1, a2, a3, a4, a5] [.int s0, .int s1, .int s2, .int s3, .int s4, .int s5, .ref s6] lay M P = if s1 = s0 then mG d 191 93 [a0, a1, a2, a3, a4, a5] [.int s2, .int s3, .int s4, .int s5, .ref s6] lay M P else mG d 191 97 [a0, a1, a2, a3, a4, a5] [.int s2, .int s3, .int s4, .int s5, .ref s6] lay M P := e_icmp_ne rfl rfl
set_option maxRecDepth 20000 in
theorem g191_93 {d : Nat} {a0 a1 a2 a3 a4 a5 : Option Value} {s0 : Int32} {s1 : Int32} {s2 : Int32} {s3 : Int32} {s4 : Nat} {lay : List mShp} {M : mMem} {P : mPost} : mG (d) 191 93 [a0, a1, a2, a3, a4, a5] [.int s0, .int s1, .int s2, .int s3, .ref s4] lay M P = mG d 191 94 [a0, a1, a2, a3, a4, a5] [.int (Int32.ofInt 0), .int s0, .int s1, .int s2, .int s3, .ref s4] lay M P := e_iconst rfl
set_option maxRecDepth 20000 in
theorem g191_94 {d : Nat} {a0 a1 a2 a3 a4 a5 : Option Value} {s0 : Int32} {s1 : Int32} {s2 : Int32} {s3 : Int32} {s4 : Int32} {s5 : Nat} {lay : List mShp} {M : mMem} {P : mPost} : mG (d) 191 94 [a0, a1, a2, a3, a4, a5] [.int s0, .int s1, .int s2, .int s3, .int s4, .ref s5] lay M P = mG d 191 98 [a0, a1, a2, a3, a4, a5] [.int s0, .int s1, .int s2, .int s3, .int s4, .ref s5] lay M P := e_goto rfl rfl
set_option maxRecDepth 20000 in
theorem g191_97 {d : Nat} {a0 a1 a2 a3 a4 a5 : Option Value} {s0 : Int32} {s1 : Int32} {s2 : Int32} {s3 : Int32} {s4 : Nat} {lay : List mShp} {M : mMem} {P : mPost} : mG (d) 191 97 [a0, a1, a2, a3, a4, a5] [.int s0, .int s1, .int s2, .int s3, .ref s4] lay M P = mG d 191 98 [a0, a1, a2, a3, a4, a5] [.int (Int32.ofInt 1), .int s0, .int s1, .int s2, .int s3, .ref s4] lay M P := e_iconst rfl
set_option maxRecDepth 20000 in
theorem g191_98 {d : Nat} {a0 a1 a2 a3 a4 a5 : Option Value} {s0 : Int32} {s1 : Int32} {s2 : Int32} {s3 : Int32} {s4 : Int32} {s5 : Nat} {lay : List mShp} {M : mMem} {P : mPost} : mG (d) 191 98 [a0, a1, a2, a3, a4, a5] [.int s0, .int s1, .int s2, .int s3, .int s4, .ref s5] lay M P = mG d 191 99 [a0, a1, a2, a3, a4, a5] [.int (s1 + s0), .int s2, .int s3, .int s4, .ref s5] lay M P := e_iadd rfl
set_option maxRecDepth 20000 in
theorem g191_99 {d : Nat} {a0 a1 a2 a3 a4 a5 : Option Value} {s0 : Int32} {s1 : Int32} {s2 : Int32} {s3 : Int32} {s4 : Nat} {lay : List mShp} {M : mMem} {P : mPost} (hs : mSh lay s4 = some (13, 44)) : mG (d + 1) 191 99 [a0, a1, a2, a3, a4, a5] [.int s0, .int s1, .int s2, .int s3, .ref s4] lay M P = mF d 191 [.ref s4, .int s3, .int s2, .int s1, .int s0] lay M (fun v lay1 M1 => mG (d + 1) 191 102 [a0, a1, a2, a3, a4, a5] (v.toList ++ []) lay1 M1 P) := e_virtP4 (j := 191) (c := 10) rfl rfl rfl rfl rfl rfl hs (Nat.le_of_ble_eq_true rfl)
set_option maxRecDepth 20000 in
theorem g191_102 {d : Nat} {a0 a1 a2 a3 a4 : Option Value} {x : Int32} {lay : List mShp} {M : mMem} {P : mPost} (h0 : mNoL a4 = true) : mG (d) 191 102 [a0, a1, a2, a3, a4, some (.int x)] [] lay M P = mG d 191 105 [a0, a1, a2, a3, a4, some (.int (x + Int32.ofInt 1))] [] lay M P := e_iinc (n := 5) rfl rfl (mS1_5 h0)
set_option maxRecDepth 20000 in
theorem g191_105 {d : Nat} {a0 a1 a2 a3 a4 a5 : Option Value} {lay : List mShp} {M : mMem} {P : mPost} : mG (d) 191 105 [a0, a1, a2, a3, a4, a5] [] lay M P = mG d 191 37 [a0, a1, a2, a3, a4, a5] [] lay M P := e_goto rfl rfl
set_option maxRecDepth 20000 in
theorem g191_108 {d : Nat} {a0 a1 a2 a3 a4 a5 : Option Value} {lay : List mShp} {M : mMem} {P : mPost} : mG (d) 191 108 [a0, a1, a2, a3, a4, a5] [] lay M P = P none lay M := e_return rfl rfl
-- 192 X10_begin
theorem g192_in {d : Nat} {x0 : Nat} {lay : List mShp} {M : mMem} {P : mPost} : mF d 192 [.ref x0] lay M P = mG d 192 0 [some (.ref x0)] [] lay M P := mF_in rfl rfl
set_option maxRecDepth 20000 in
theorem g192_0 {d : Nat}  {x : Nat} {lay : List mShp} {M : mMem} {P : mPost} (hx : ¬ x = 0) : mG (d) 192 0 [some (.ref x)] [] lay M P = mG d 192 1 [some (.ref x)] [.ref x] lay M P := e_aload_nP hx (i := 0) rfl rfl rfl
set_option maxRecDepth 20000 in
theorem g192_1 {d : Nat} {a0 : Option Value} {s0 : Nat} {lay : List mShp} {M : mMem} {P : mPost} : mG (d) 192 1 [a0] [.ref s0] lay M P = mG d 192 4 [a0] [.int (Int32.ofInt 2147483647), .ref s0] lay M P := e_ldc_w rfl rfl
set_option maxRecDepth 20000 in
theorem g192_4 {d : Nat} {a0 : Option Value} {s0 : Int32} {s1 : Nat} {lay : List mShp} {M : mMem} {P : mPost} (hs : mSh lay s1 = some (13, 44)) : mG (d) 192 4 [a0] [.int s0, .ref s1] lay M P = mG d 192 7 [a0] [] lay (mSetI M s1 25 s0) P := mG_of_and (mIsO_of hs (by decide)) (e_putI (ci := 10) (j := 25) rfl rfl (Or.inl rfl) rfl)
set_option maxRecDepth 20000 in
theorem g192_7 {d : Nat}  {x : Nat} {lay : List mShp} {M : mMem} {P : mPost} (hx : ¬ x = 0) : mG (d) 192 7 [some (.ref x)] [] lay M P = mG d 192 8 [some (.ref x)] [.ref x] lay M P := e_aload_nP hx (i := 0) rfl rfl rfl
set_option maxRecDepth 20000 in
theorem g192_8 {d : Nat} {a0 : Option Value} {s0 : Nat} {lay : List mShp} {M : mMem} {P : mPost} : mG (d) 192 8 [a0] [.ref s0] lay M P = mG d 192 9 [a0] [.int (Int32.ofInt (-1)), .ref s0] lay M P := e_iconst rfl
set_option maxRecDepth 20000 in
theorem g192_9 {d : Nat} {a0 : Option Value} {s0 : Int32} {s1 : Nat} {lay : List mShp} {M : mMem} {P : mPost} (hs : mSh lay s1 = some (13, 44)) : mG (d) 192 9 [a0] [.int s0, .ref s1] lay M P = mG d 192 12 [a0] [] lay (mSetI M s1 26 s0) P := mG_of_and (mIsO_of hs (by decide)) (e_putI (ci := 10) (j := 26) rfl rfl (Or.inl rfl) rfl)
set_option maxRecDepth 20000 in
theorem g192_12 {d : Nat} {a0 : Option Value} {lay : List mShp} {M : mMem} {P : mPost} : mG (d) 192 12 [a0] [] lay M P = P none lay M := e_return rfl rfl
-- 193 X10_round
theorem g193_in {d : Nat} {x0 : Nat} {x1 : Int32} {x2 : Int32} {lay : List mShp} {M : mMem} {P : mPost} : mF d 193 [.ref x0, .int x1, .int x2] lay M P = mG d 193 0 [some (.ref x0), some (.int x1), some (.int x2)] [] lay M P := mF_in rfl rfl
set_option maxRecDepth 20000 in
theorem g193_0 {d : Nat} {a0 a2 : Option Value} {x : Int32} {lay : List mShp} {M : mMem} {P : mPost} : mG (d) 193 0 [a0, some (.int x), a2] [] lay M P = mG d 193 1 [a0, some (.int x), a2] [.int x] lay M P := e_iload_n (i := 1) rfl rfl rfl
set_option maxRecDepth 20000 in
theorem g193_1 {d : Nat} {a0 a1 a2 : Option Value} {s0 : Int32} {lay : List mShp} {M : mMem} {P : mPost} : mG (d) 193 1 [a0, a1, a2] [.int s0] lay M P = mG d 193 2 [a0, a1, a2] [.int (Int32.ofInt 0), .int s0] lay M P := e_iconst rfl
set_option maxRecDepth 20000 in
theorem g193_2 {d : Nat} {a0 a1 a2 : Option Value} {s0 : Int32} {s1 : Int32} {lay : List mShp} {M : mMem} {P : mPost} : mG (d) 193 2 [a0, a1, a2] [.int s0, .int s1] lay M P = mG d 193 4 [a0, a1, a2] [.int (Int32.ofInt 6), .int s0, .int s1] lay M P := e_bipush rfl
set_option maxRecDepth 20000 in
theorem g193_4 {d : Nat} {a0 a1 a2 : Option Value} {s0 : Int32} {s1 : Int32} {s2 : Int32} {lay : List mShp} {M : mMem} {P : mPost} : mG (d + 1) 193 4 [a0, a1, a2] [.int s0, .int s1, .int s2] lay M P = mF d 146 [.int s2, .int s1, .int s0] lay M (fun v lay1 M1 => mG (d + 1) 193 7 [a0, a1, a2] (v.toList ++ []) lay1 M1 P) := e_static3 (j := 146) rfl rfl rfl rfl rfl (Nat.le_of_ble_eq_true rfl)
set_option maxRecDepth 20000 in
theorem g193_7 {d : Nat} {a0 a1 a2 : Option Value} {s0 : Int32} {lay : List mShp} {M : mMem} {P : mPost} : mG (d) 193 7 [a0, a1, a2] [.int s0] lay M P = if s0 = 0 then mG d 193 25 [a0, a1, a2] [] lay M P else mG d 193 10 [a0, a1, a2] [] lay M P := e_if_eq rfl rfl
set_option maxRecDepth 20000 in
theorem g193_10 {d : Nat} {a0 a1 : Option Value} {x : Int32} {lay : List mShp} {M : mMem} {P : mPost} : mG (d) 193 10 [a0, a1, some (.int x)] [] lay M P = mG d 193 11 [a0, a1, some (.int x)] [.int x] lay M P := e_iload_n (i := 2) rfl rfl rfl
set_option maxRecDepth 20000 in
theorem g193_11 {d : Nat} {a0 a1 a2 : Option Value} {s0 : Int32} {lay : List mShp} {M : mMem} {P : mPost} : mG (d) 193 11 [a0, a1, a2] [.int s0] lay M P = mG d 193 13 [a0, a1, a2] [.int (Int32.ofInt (-2)), .int s0] lay M P := e_bipush rfl
set_option maxRecDepth 20000 in
theorem g193_13 {d : Nat} {a1 a2 : Option Value} {s0 : Int32} {s1 : Int32} {x : Nat} {lay : List mShp} {M : mMem} {P : mPost} (hx : ¬ x = 0) : mG (d) 193 13 [some (.ref x), a1, a2] [.int s0, .int s1] lay M P = mG d 193 14 [some (.ref x), a1, a2] [.ref x, .int s0, .int s1] lay M P := e_aload_nP hx (i := 0) rfl rfl rfl
set_option maxRecDepth 20000 in
theorem g193_14 {d : Nat} {a0 a1 a2 : Option Value} {s0 : Nat} {s1 : Int32} {s2 : Int32} {lay : List mShp} {M : mMem} {P : mPost} (hs : mSh lay s0 = some (13, 44)) : mG (d) 193 14 [a0, a1, a2] [.ref s0, .int s1, .int s2] lay M P = mG d 193 17 [a0, a1, a2] [.int (M.1 s0 2), .int s1, .int s2] lay M P := mG_of_and (mIsO_of hs (by decide)) (e_getI (ci := 10) (j := 2) rfl rfl rfl)
set_option maxRecDepth 20000 in
theorem g193_17 {d : Nat} {a0 a1 a2 : Option Value} {s0 : Int32} {s1 : Int32} {s2 : Int32} {lay : List mShp} {M : mMem} {P : mPost} : mG (d) 193 17 [a0, a1, a2] [.int s0, .int s1, .int s2] lay M P = mG d 193 18 [a0, a1, a2] [.int (Int32.ofInt 1), .int s0, .int s1, .int s2] lay M P := e_iconst rfl
set_option maxRecDepth 20000 in
theorem g193_18 {d : Nat} {a0 a1 a2 : Option Value} {s0 : Int32} {s1 : Int32} {s2 : Int32} {s3 : Int32} {lay : List mShp} {M : mMem} {P : mPost} : mG (d) 193 18 [a0, a1, a2] [.int s0, .int s1, .int s2, .int s3] lay M P = mG d 193 19 [a0, a1, a2] [.int (s1 - s0), .int s2, .int s3] lay M P := e_isub rfl
set_option maxRecDepth 20000 in
theorem g193_19 {d : Nat} {a0 a1 a2 : Option Value} {s0 : Int32} {s1 : Int32} {s2 : Int32} {lay : List mShp} {M : mMem} {P : mPost} : mG (d + 1) 193 19 [a0, a1, a2] [.int s0, .int s1, .int s2] lay M P = mF d 146 [.int s2, .int s1, .int s0] lay M (fun v lay1 M1 => mG (d + 1) 193 22 [a0, a1, a2] (v.toList ++ []) lay1 M1 P) := e_static3 (j := 146) rfl rfl rfl rfl rfl (Nat.le_of_ble_eq_true rfl)
set_option maxRecDepth 20000 in
theorem g193_22 {d : Nat} {a0 a1 a2 : Option Value} {s0 : Int32} {lay : List mShp} {M : mMem} {P : mPost} : mG (d) 193 22 [a0, a1, a2] [.int s0] lay M P = if s0 = 0 then mG d 193 25 [a0, a1, a2] [] lay M P else mG d 193 27 [a0, a1, a2] [] lay M P := e_if_ne rfl rfl
set_option maxRecDepth 20000 in
theorem g193_25 {d : Nat} {a0 a1 a2 : Option Value} {lay : List mShp} {M : mMem} {P : mPost} : mG (d) 193 25 [a0, a1, a2] [] lay M P = mG d 193 26 [a0, a1, a2] [.int (Int32.ofInt (-1))] lay M P := e_iconst rfl
set_option maxRecDepth 20000 in
theorem g193_26 {d : Nat} {a0 a1 a2 : Option Value} {s0 : Int32} {lay : List mShp} {M : mMem} {P : mPost} : mG (d) 193 26 [a0, a1, a2] [.int s0] lay M P = P (some (.int s0)) lay M := e_ireturnI rfl rfl
set_option maxRecDepth 20000 in
theorem g193_27 {d : Nat} {a1 a2 : Option Value} {x : Nat} {lay : List mShp} {M : mMem} {P : mPost} (hx : ¬ x = 0) : mG (d) 193 27 [some (.ref x), a1, a2] [] lay M P = mG d 193 28 [some (.ref x), a1, a2] [.ref x] lay M P := e_aload_nP hx (i := 0) rfl rfl rfl
set_option maxRecDepth 20000 in
theorem g193_28 {d : Nat} {a0 a1 a2 : Option Value} {s0 : Nat} {lay : List mShp} {M : mMem} {P : mPost} (hs : mSh lay s0 = some (13, 44)) : mG (d) 193 28 [a0, a1, a2] [.ref s0] lay M P = mG d 193 31 [a0, a1, a2] [.int (M.1 s0 2)] lay M P := mG_of_and (mIsO_of hs (by decide)) (e_getI (ci := 10) (j := 2) rfl rfl rfl)
set_option maxRecDepth 20000 in
theorem g193_31 {d : Nat} {a0 a1 a2 : Option Value} {s0 : Int32} {lay : List mShp} {M : mMem} {P : mPost} : mG (d) 193 31 [a0, a1, a2] [.int s0] lay M P = mG d 193 32 [a0, a1, a2] [.int (Int32.ofInt 2), .int s0] lay M P := e_iconst rfl
set_option maxRecDepth 20000 in
theorem g193_32 {d : Nat} {a0 a1 a2 : Option Value} {s0 : Int32} {s1 : Int32} {lay : List mShp} {M : mMem} {P : mPost} : mG (d) 193 32 [a0, a1, a2] [.int s0, .int s1] lay M P = if s1 < s0 then mG d 193 35 [a0, a1, a2] [] lay M P else mG d 193 38 [a0, a1, a2] [] lay M P := e_icmp_ge rfl rfl
set_option maxRecDepth 20000 in
theorem g193_35 {d : Nat} {a0 a1 a2 : Option Value} {lay : List mShp} {M : mMem} {P : mPost} : mG (d) 193 35 [a0, a1, a2] [] lay M P = mG d 193 37 [a0, a1, a2] [.int (Int32.ofInt (-2))] lay M P := e_bipush rfl
set_option maxRecDepth 20000 in
theorem g193_37 {d : Nat} {a0 a1 a2 : Option Value} {s0 : Int32} {lay : List mShp} {M : mMem} {P : mPost} : mG (d) 193 37 [a0, a1, a2] [.int s0] lay M P = P (some (.int s0)) lay M := e_ireturnI rfl rfl
set_option maxRecDepth 20000 in
theorem g193_38 {d : Nat} {a1 a2 : Option Value} {x : Nat} {lay : List mShp} {M : mMem} {P : mPost} (hx : ¬ x = 0) : mG (d) 193 38 [some (.ref x), a1, a2] [] lay M P = mG d 193 39 [some (.ref x), a1, a2] [.ref x] lay M P := e_aload_nP hx (i := 0) rfl rfl rfl
set_option maxRecDepth 20000 in
theorem g193_39 {d : Nat} {a0 a1 a2 : Option Value} {s0 : Nat} {lay : List mShp} {M : mMem} {P : mPost} (hs : mSh lay s0 = some (13, 44)) : mG (d + 1) 193 39 [a0, a1, a2] [.ref s0] lay M P = mF d 192 [.ref s0] lay M (fun v lay1 M1 => mG (d + 1) 193 42 [a0, a1, a2] (v.toList ++ []) lay1 M1 P) := e_virtP0 (j := 192) (c := 10) rfl rfl rfl rfl rfl rfl hs (Nat.le_of_ble_eq_true rfl)
set_option maxRecDepth 20000 in
theorem g193_42 {d : Nat} {a1 a2 : Option Value} {x : Nat} {lay : List mShp} {M : mMem} {P : mPost} (hx : ¬ x = 0) : mG (d) 193 42 [some (.ref x), a1, a2] [] lay M P = mG d 193 43 [some (.ref x), a1, a2] [.ref x] lay M P := e_aload_nP hx (i := 0) rfl rfl rfl
set_option maxRecDepth 20000 in
theorem g193_43 {d : Nat} {a0 a2 : Option Value} {s0 : Nat} {x : Int32} {lay : List mShp} {M : mMem} {P : mPost} : mG (d) 193 43 [a0, some (.int x), a2] [.ref s0] lay M P = mG d 193 44 [a0, some (.int x), a2] [.int x, .ref s0] lay M P := e_iload_n (i := 1) rfl rfl rfl
set_option maxRecDepth 20000 in
theorem g193_44 {d : Nat} {a0 a1 a2 : Option Value} {s0 : Int32} {s1 : Nat} {lay : List mShp} {M : mMem} {P : mPost} (hs : mSh lay s1 = some (13, 44)) : mG (d) 193 44 [a0, a1, a2] [.int s0, .ref s1] lay M P = mG d 193 47 [a0, a1, a2] [] lay (mSetI M s1 27 s0) P := mG_of_and (mIsO_of hs (by decide)) (e_putI (ci := 10) (j := 27) rfl rfl (Or.inl rfl) rfl)
set_option maxRecDepth 20000 in
theorem g193_47 {d : Nat} {a1 a2 : Option Value} {x : Nat} {lay : List mShp} {M : mMem} {P : mPost} (hx : ¬ x = 0) : mG (d) 193 47 [some (.ref x), a1, a2] [] lay M P = mG d 193 48 [some (.ref x), a1, a2] [.ref x] lay M P := e_aload_nP hx (i := 0) rfl rfl rfl
set_option maxRecDepth 20000 in
theorem g193_48 {d : Nat} {a0 a1 a2 : Option Value} {s0 : Nat} {lay : List mShp} {M : mMem} {P : mPost} : mG (d) 193 48 [a0, a1, a2] [.ref s0] lay M P = mG d 193 49 [a0, a1, a2] [.int (Int32.ofInt 0), .ref s0] lay M P := e_iconst rfl
set_option maxRecDepth 20000 in
theorem g193_49 {d : Nat} {a0 a1 a2 : Option Value} {s0 : Int32} {s1 : Nat} {lay : List mShp} {M : mMem} {P : mPost} : mG (d) 193 49 [a0, a1, a2] [.int s0, .ref s1] lay M P = mG d 193 50 [a0, a1, a2] [.int (Int32.ofInt 0), .int s0, .ref s1] lay M P := e_iconst rfl
set_option maxRecDepth 20000 in
theorem g193_50 {d : Nat} {a0 a1 a2 : Option Value} {s0 : Int32} {s1 : Int32} {s2 : Nat} {lay : List mShp} {M : mMem} {P : mPost} : mG (d) 193 50 [a0, a1, a2] [.int s0, .int s1, .ref s2] lay M P = mG d 193 51 [a0, a1, a2] [.int (Int32.ofInt 1), .int s0, .int s1, .ref s2] lay M P := e_iconst rfl
set_option maxRecDepth 20000 in
theorem g193_51 {d : Nat} {a0 a1 a2 : Option Value} {s0 : Int32} {s1 : Int32} {s2 : Int32} {s3 : Nat} {lay : List mShp} {M : mMem} {P : mPost} : mG (d) 193 51 [a0, a1, a2] [.int s0, .int s1, .int s2, .ref s3] lay M P = mG d 193 52 [a0, a1, a2] [.int (Int32.ofInt 0), .int s0, .int s1, .int s2, .ref s3] lay M P := e_iconst rfl
set_option maxRecDepth 20000 in
theorem g193_52 {d : Nat} {a0 a1 a2 : Option Value} {s0 : Int32} {s1 : Int32} {s2 : Int32} {s3 : Int32} {s4 : Nat} {lay : List mShp} {M : mMem} {P : mPost} (hs : mSh lay s4 = some (13, 44)) : mG (d + 1) 193 52 [a0, a1, a2] [.int s0, .int s1, .int s2, .int s3, .ref s4] lay M P = mF d 191 [.ref s4, .int s3, .int s2, .int s1, .int s0] lay M (fun v lay1 M1 => mG (d + 1) 193 55 [a0, a1, a2] (v.toList ++ []) lay1 M1 P) := e_virtP4 (j := 191) (c := 10) rfl rfl rfl rfl rfl rfl hs (Nat.le_of_ble_eq_true rfl)
set_option maxRecDepth 20000 in
theorem g193_55 {d : Nat} {a0 a1 : Option Value} {x : Int32} {lay : List mShp} {M : mMem} {P : mPost} : mG (d) 193 55 [a0, a1, some (.int x)] [] lay M P = mG d 193 56 [a0, a1, some (.int x)] [.int x] lay M P := e_iload_n (i := 2) rfl rfl rfl
set_option maxRecDepth 20000 in
theorem g193_56 {d : Nat} {a0 a1 a2 : Option Value} {s0 : Int32} {lay : List mShp} {M : mMem} {P : mPost} : mG (d) 193 56 [a0, a1, a2] [.int s0] lay M P = mG d 193 57 [a0, a1, a2] [.int (Int32.ofInt (-1)), .int s0] lay M P := e_iconst rfl
set_option maxRecDepth 20000 in
theorem g193_57 {d : Nat} {a0 a1 a2 : Option Value} {s0 : Int32} {s1 : Int32} {lay : List mShp} {M : mMem} {P : mPost} : mG (d) 193 57 [a0, a1, a2] [.int s0, .int s1] lay M P = if s1 = s0 then mG d 193 60 [a0, a1, a2] [] lay M P else mG d 193 67 [a0, a1, a2] [] lay M P := e_icmp_ne rfl rfl
set_option maxRecDepth 20000 in
theorem g193_60 {d : Nat} {a1 a2 : Option Value} {x : Nat} {lay : List mShp} {M : mMem} {P : mPost} (hx : ¬ x = 0) : mG (d) 193 60 [some (.ref x), a1, a2] [] lay M P = mG d 193 61 [some (.ref x), a1, a2] [.ref x] lay M P := e_aload_nP hx (i := 0) rfl rfl rfl
set_option maxRecDepth 20000 in
theorem g193_61 {d : Nat} {a0 a1 a2 : Option Value} {s0 : Nat} {lay : List mShp} {M : mMem} {P : mPost} (hs : mSh lay s0 = some (13, 44)) : mG (d) 193 61 [a0, a1, a2] [.ref s0] lay M P = mG d 193 64 [a0, a1, a2] [.int (M.1 s0 25)] lay M P := mG_of_and (mIsO_of hs (by decide)) (e_getI (ci := 10) (j := 25) rfl rfl rfl)
set_option maxRecDepth 20000 in
theorem g193_64 {d : Nat} {a0 a1 a2 : Option Value} {s0 : Int32} {lay : List mShp} {M : mMem} {P : mPost} : mG (d) 193 64 [a0, a1, a2] [.int s0] lay M P = mG d 193 86 [a0, a1, a2] [.int s0] lay M P := e_goto rfl rfl
set_option maxRecDepth 20000 in
theorem g193_67 {d : Nat} {a0 a1 : Option Value} {x : Int32} {lay : List mShp} {M : mMem} {P : mPost} : mG (d) 193 67 [a0, a1, some (.int x)] [] lay M P = mG d 193 68 [a0, a1, some (.int x)] [.int x] lay M P := e_iload_n (i := 2) rfl rfl rfl
set_option maxRecDepth 20000 in
theorem g193_68 {d : Nat} {a0 a1 a2 : Option Value} {s0 : Int32} {lay : List mShp} {M : mMem} {P : mPost} : mG (d) 193 68 [a0, a1, a2] [.int s0] lay M P = mG d 193 70 [a0, a1, a2] [.int (Int32.ofInt (-2)), .int s0] lay M P := e_bipush rfl
set_option maxRecDepth 20000 in
theorem g193_70 {d : Nat} {a0 a1 a2 : Option Value} {s0 : Int32} {s1 : Int32} {lay : List mShp} {M : mMem} {P : mPost} : mG (d) 193 70 [a0, a1, a2] [.int s0, .int s1] lay M P = if s1 = s0 then mG d 193 73 [a0, a1, a2] [] lay M P else mG d 193 80 [a0, a1, a2] [] lay M P := e_icmp_ne rfl rfl
set_option maxRecDepth 20000 in
theorem g193_73 {d : Nat} {a1 a2 : Option Value} {x : Nat} {lay : List mShp} {M : mMem} {P : mPost} (hx : ¬ x = 0) : mG (d) 193 73 [some (.ref x), a1, a2] [] lay M P = mG d 193 74 [some (.ref x), a1, a2] [.ref x] lay M P := e_aload_nP hx (i := 0) rfl rfl rfl
set_option maxRecDepth 20000 in
theorem g193_74 {d : Nat} {a0 a1 a2 : Option Value} {s0 : Nat} {lay : List mShp} {M : mMem} {P : mPost} (hs : mSh lay s0 = some (13, 44)) : mG (d) 193 74 [a0, a1, a2] [.ref s0] lay M P = mG d 193 77 [a0, a1, a2] [.int (M.1 s0 26)] lay M P := mG_of_and (mIsO_of hs (by decide)) (e_getI (ci := 10) (j := 26) rfl rfl rfl)
set_option maxRecDepth 20000 in
theorem g193_77 {d : Nat} {a0 a1 a2 : Option Value} {s0 : Int32} {lay : List mShp} {M : mMem} {P : mPost} : mG (d) 193 77 [a0, a1, a2] [.int s0] lay M P = mG d 193 86 [a0, a1, a2] [.int s0] lay M P := e_goto rfl rfl
set_option maxRecDepth 20000 in
theorem g193_80 {d : Nat} {a1 a2 : Option Value} {x : Nat} {lay : List mShp} {M : mMem} {P : mPost} (hx : ¬ x = 0) : mG (d) 193 80 [some (.ref x), a1, a2] [] lay M P = mG d 193 81 [some (.ref x), a1, a2] [.ref x] lay M P := e_aload_nP hx (i := 0) rfl rfl rfl
set_option maxRecDepth 20000 in
theorem g193_81 {d : Nat} {a0 a1 a2 : Option Value} {s0 : Nat} {lay : List mShp} {M : mMem} {P : mPost} (hs : mSh lay s0 = some (13, 44)) : mG (d) 193 81 [a0, a1, a2] [.ref s0] lay M P = mG d 193 84 [a0, a1, a2] [.ref (M.2.2 s0 24)] lay M P := mG_of_and (mIsO_of hs (by decide)) (e_getA (ci := 10) (j := 24) rfl rfl rfl)
set_option maxRecDepth 20000 in
theorem g193_84 {d : Nat} {a0 a1 : Option Value} {s0 : Nat} {x : Int32} {lay : List mShp} {M : mMem} {P : mPost} : mG (d) 193 84 [a0, a1, some (.int x)] [.ref s0] lay M P = mG d 193 85 [a0, a1, some (.int x)] [.int x, .ref s0] lay M P := e_iload_n (i := 2) rfl rfl rfl
set_option maxRecDepth 20000 in
theorem g193_85 {d : Nat} {a0 a1 a2 : Option Value} {s0 : Int32} {s1 : Nat} {lay : List mShp} {M : mMem} {P : mPost} (hs : mSh lay s1 = some (0, 8)) : mG (d) 193 85 [a0, a1, a2] [.int s0, .ref s1] lay M P = (mIdx s0 8 = true ∧ mG d 193 86 [a0, a1, a2] [.int (M.1 s1 s0.toNatClampNeg)] lay M P) := e_iaload rfl hs
set_option maxRecDepth 20000 in
theorem g193_86 {d : Nat} {a0 a1 a2 : Option Value} {s0 : Int32} {lay : List mShp} {M : mMem} {P : mPost} : mG (d) 193 86 [a0, a1, a2] [.int s0] lay M P = P (some (.int s0)) lay M := e_ireturnI rfl rfl
-- 194 X10_mended
theorem g194_in {d : Nat} {x0 : Nat} {x1 : Int32} {lay : List mShp} {M : mMem} {P : mPost} : mF d 194 [.ref x0, .int x1] lay M P = mG d 194 0 [some (.ref x0), some (.int x1)] [] lay M P := mF_in rfl rfl
set_option maxRecDepth 20000 in
theorem g194_0 {d : Nat} {a0 : Option Value} {x : Int32} {lay : List mShp} {M : mMem} {P : mPost} : mG (d) 194 0 [a0, some (.int x)] [] lay M P = mG d 194 1 [a0, some (.int x)] [.int x] lay M P := e_iload_n (i := 1) rfl rfl rfl
set_option maxRecDepth 20000 in
theorem g194_1 {d : Nat} {a0 a1 : Option Value} {s0 : Int32} {lay : List mShp} {M : mMem} {P : mPost} : mG (d) 194 1 [a0, a1] [.int s0] lay M P = mG d 194 2 [a0, a1] [.int (Int32.ofInt (-1)), .int s0] lay M P := e_iconst rfl
set_option maxRecDepth 20000 in
theorem g194_2 {d : Nat} {a1 : Option Value} {s0 : Int32} {s1 : Int32} {x : Nat} {lay : List mShp} {M : mMem} {P : mPost} (hx : ¬ x = 0) : mG (d) 194 2 [some (.ref x), a1] [.int s0, .int s1] lay M P = mG d 194 3 [some (.ref x), a1] [.ref x, .int s0, .int s1] lay M P := e_aload_nP hx (i := 0) rfl rfl rfl
set_option maxRecDepth 20000 in
theorem g194_3 {d : Nat} {a0 a1 : Option Value} {s0 : Nat} {s1 : Int32} {s2 : Int32} {lay : List mShp} {M : mMem} {P : mPost} (hs : mSh lay s0 = some (13, 44)) : mG (d) 194 3 [a0, a1] [.ref s0, .int s1, .int s2] lay M P = mG d 194 6 [a0, a1] [.int (M.1 s0 2), .int s1, .int s2] lay M P := mG_of_and (mIsO_of hs (by decide)) (e_getI (ci := 10) (j := 2) rfl rfl rfl)
set_option maxRecDepth 20000 in
theorem g194_6 {d : Nat} {a0 a1 : Option Value} {s0 : Int32} {s1 : Int32} {s2 : Int32} {lay : List mShp} {M : mMem} {P : mPost} : mG (d) 194 6 [a0, a1] [.int s0, .int s1, .int s2] lay M P = mG d 194 7 [a0, a1] [.int (Int32.ofInt 1), .int s0, .int s1, .int s2] lay M P := e_iconst rfl
set_option maxRecDepth 20000 in
theorem g194_7 {d : Nat} {a0 a1 : Option Value} {s0 : Int32} {s1 : Int32} {s2 : Int32} {s3 : Int32} {lay : List mShp} {M : mMem} {P : mPost} : mG (d) 194 7 [a0, a1] [.int s0, .int s1, .int s2, .int s3] lay M P = mG d 194 8 [a0, a1] [.int (s1 - s0), .int s2, .int s3] lay M P := e_isub rfl
set_option maxRecDepth 20000 in
theorem g194_8 {d : Nat} {a0 a1 : Option Value} {s0 : Int32} {s1 : Int32} {s2 : Int32} {lay : List mShp} {M : mMem} {P : mPost} : mG (d + 1) 194 8 [a0, a1] [.int s0, .int s1, .int s2] lay M P = mF d 146 [.int s2, .int s1, .int s0] lay M (fun v lay1 M1 => mG (d + 1) 194 11 [a0, a1] (v.toList ++ []) lay1 M1 P) := e_static3 (j := 146) rfl rfl rfl rfl rfl (Nat.le_of_ble_eq_true rfl)
set_option maxRecDepth 20000 in
theorem g194_11 {d : Nat} {a0 a1 : Option Value} {s0 : Int32} {lay : List mShp} {M : mMem} {P : mPost} : mG (d) 194 11 [a0, a1] [.int s0] lay M P = if s0 = 0 then mG d 194 14 [a0, a1] [] lay M P else mG d 194 16 [a0, a1] [] lay M P := e_if_ne rfl rfl
set_option maxRecDepth 20000 in
theorem g194_14 {d : Nat} {a0 a1 : Option Value} {lay : List mShp} {M : mMem} {P : mPost} : mG (d) 194 14 [a0, a1] [] lay M P = mG d 194 15 [a0, a1] [.int (Int32.ofInt (-1))] lay M P := e_iconst rfl
set_option maxRecDepth 20000 in
theorem g194_15 {d : Nat} {a0 a1 : Option Value} {s0 : Int32} {lay : List mShp} {M : mMem} {P : mPost} : mG (d) 194 15 [a0, a1] [.int s0] lay M P = P (some (.int s0)) lay M := e_ireturnI rfl rfl
set_option maxRecDepth 20000 in
theorem g194_16 {d : Nat} {a1 : Option Value} {x : Nat} {lay : List mShp} {M : mMem} {P : mPost} (hx : ¬ x = 0) : mG (d) 194 16 [some (.ref x), a1] [] lay M P = mG d 194 17 [some (.ref x), a1] [.ref x] lay M P := e_aload_nP hx (i := 0) rfl rfl rfl
set_option maxRecDepth 20000 in
theorem g194_17 {d : Nat} {a0 a1 : Option Value} {s0 : Nat} {lay : List mShp} {M : mMem} {P : mPost} (hs : mSh lay s0 = some (13, 44)) : mG (d + 1) 194 17 [a0, a1] [.ref s0] lay M P = mF d 192 [.ref s0] lay M (fun v lay1 M1 => mG (d + 1) 194 20 [a0, a1] (v.toList ++ []) lay1 M1 P) := e_virtP0 (j := 192) (c := 10) rfl rfl rfl rfl rfl rfl hs (Nat.le_of_ble_eq_true rfl)
set_option maxRecDepth 20000 in
theorem g194_20 {d : Nat} {a1 : Option Value} {x : Nat} {lay : List mShp} {M : mMem} {P : mPost} (hx : ¬ x = 0) : mG (d) 194 20 [some (.ref x), a1] [] lay M P = mG d 194 21 [some (.ref x), a1] [.ref x] lay M P := e_aload_nP hx (i := 0) rfl rfl rfl
set_option maxRecDepth 20000 in
theorem g194_21 {d : Nat} {a0 a1 : Option Value} {s0 : Nat} {lay : List mShp} {M : mMem} {P : mPost} : mG (d) 194 21 [a0, a1] [.ref s0] lay M P = mG d 194 22 [a0, a1] [.int (Int32.ofInt 0), .ref s0] lay M P := e_iconst rfl
set_option maxRecDepth 20000 in
theorem g194_22 {d : Nat} {a0 a1 : Option Value} {s0 : Int32} {s1 : Nat} {lay : List mShp} {M : mMem} {P : mPost} : mG (d) 194 22 [a0, a1] [.int s0, .ref s1] lay M P = mG d 194 23 [a0, a1] [.int (Int32.ofInt 0), .int s0, .ref s1] lay M P := e_iconst rfl
set_option maxRecDepth 20000 in
theorem g194_23 {d : Nat} {a0 a1 : Option Value} {s0 : Int32} {s1 : Int32} {s2 : Nat} {lay : List mShp} {M : mMem} {P : mPost} : mG (d) 194 23 [a0, a1] [.int s0, .int s1, .ref s2] lay M P = mG d 194 24 [a0, a1] [.int (Int32.ofInt 0), .int s0, .int s1, .ref s2] lay M P := e_iconst rfl
set_option maxRecDepth 20000 in
theorem g194_24 {d : Nat} {a0 a1 : Option Value} {s0 : Int32} {s1 : Int32} {s2 : Int32} {s3 : Nat} {lay : List mShp} {M : mMem} {P : mPost} : mG (d) 194 24 [a0, a1] [.int s0, .int s1, .int s2, .ref s3] lay M P = mG d 194 25 [a0, a1] [.int (Int32.ofInt 0), .int s0, .int s1, .int s2, .ref s3] lay M P := e_iconst rfl
set_option maxRecDepth 20000 in
theorem g194_25 {d : Nat} {a0 a1 : Option Value} {s0 : Int32} {s1 : Int32} {s2 : Int32} {s3 : Int32} {s4 : Nat} {lay : List mShp} {M : mMem} {P : mPost} (hs : mSh lay s4 = some (13, 44)) : mG (d + 1) 194 25 [a0, a1] [.int s0, .int s1, .int s2, .int s3, .ref s4] lay M P = mF d 191 [.ref s4, .int s3, .int s2, .int s1, .int s0] lay M (fun v lay1 M1 => mG (d + 1) 194 28 [a0, a1] (v.toList ++ []) lay1 M1 P) := e_virtP4 (j := 191) (c := 10) rfl rfl rfl rfl rfl rfl hs (Nat.le_of_ble_eq_true rfl)
set_option maxRecDepth 20000 in
theorem g194_28 {d : Nat} {a1 : Option Value} {x : Nat} {lay : List mShp} {M : mMem} {P : mPost} (hx : ¬ x = 0) : mG (d) 194 28 [some (.ref x), a1] [] lay M P = mG d 194 29 [some (.ref x), a1] [.ref x] lay M P := e_aload_nP hx (i := 0) rfl rfl rfl
set_option maxRecDepth 20000 in
theorem g194_29 {d : Nat} {a0 a1 : Option Value} {s0 : Nat} {lay : List mShp} {M : mMem} {P : mPost} (hs : mSh lay s0 = some (13, 44)) : mG (d) 194 29 [a0, a1] [.ref s0] lay M P = mG d 194 32 [a0, a1] [.int (M.1 s0 25)] lay M P := mG_of_and (mIsO_of hs (by decide)) (e_getI (ci := 10) (j := 25) rfl rfl rfl)
set_option maxRecDepth 20000 in
theorem g194_32 {d : Nat} {a0 a1 : Option Value} {s0 : Int32} {lay : List mShp} {M : mMem} {P : mPost} : mG (d) 194 32 [a0, a1] [.int s0] lay M P = mG d 194 35 [a0, a1] [.int (Int32.ofInt 2147483647), .int s0] lay M P := e_ldc_w rfl rfl
set_option maxRecDepth 20000 in
theorem g194_35 {d : Nat} {a0 a1 : Option Value} {s0 : Int32} {s1 : Int32} {lay : List mShp} {M : mMem} {P : mPost} : mG (d) 194 35 [a0, a1] [.int s0, .int s1] lay M P = if s1 = s0 then mG d 194 38 [a0, a1] [] lay M P else mG d 194 43 [a0, a1] [] lay M P := e_icmp_ne rfl rfl
set_option maxRecDepth 20000 in
theorem g194_38 {d : Nat} {a0 a1 : Option Value} {lay : List mShp} {M : mMem} {P : mPost} : mG (d) 194 38 [a0, a1] [] lay M P = mG d 194 40 [a0, a1] [.int (Int32.ofInt (-2))] lay M P := e_bipush rfl
set_option maxRecDepth 20000 in
theorem g194_40 {d : Nat} {a0 a1 : Option Value} {s0 : Int32} {lay : List mShp} {M : mMem} {P : mPost} : mG (d) 194 40 [a0, a1] [.int s0] lay M P = mG d 194 61 [a0, a1] [.int s0] lay M P := e_goto rfl rfl
set_option maxRecDepth 20000 in
theorem g194_43 {d : Nat} {a0 : Option Value} {x : Int32} {lay : List mShp} {M : mMem} {P : mPost} : mG (d) 194 43 [a0, some (.int x)] [] lay M P = mG d 194 44 [a0, some (.int x)] [.int x] lay M P := e_iload_n (i := 1) rfl rfl rfl
set_option maxRecDepth 20000 in
theorem g194_44 {d : Nat} {a0 a1 : Option Value} {s0 : Int32} {lay : List mShp} {M : mMem} {P : mPost} : mG (d) 194 44 [a0, a1] [.int s0] lay M P = mG d 194 45 [a0, a1] [.int (Int32.ofInt (-1)), .int s0] lay M P := e_iconst rfl
set_option maxRecDepth 20000 in
theorem g194_45 {d : Nat} {a0 a1 : Option Value} {s0 : Int32} {s1 : Int32} {lay : List mShp} {M : mMem} {P : mPost} : mG (d) 194 45 [a0, a1] [.int s0, .int s1] lay M P = if s1 = s0 then mG d 194 48 [a0, a1] [] lay M P else mG d 194 55 [a0, a1] [] lay M P := e_icmp_ne rfl rfl
set_option maxRecDepth 20000 in
theorem g194_48 {d : Nat} {a1 : Option Value} {x : Nat} {lay : List mShp} {M : mMem} {P : mPost} (hx : ¬ x = 0) : mG (d) 194 48 [some (.ref x), a1] [] lay M P = mG d 194 49 [some (.ref x), a1] [.ref x] lay M P := e_aload_nP hx (i := 0) rfl rfl rfl
set_option maxRecDepth 20000 in
theorem g194_49 {d : Nat} {a0 a1 : Option Value} {s0 : Nat} {lay : List mShp} {M : mMem} {P : mPost} (hs : mSh lay s0 = some (13, 44)) : mG (d) 194 49 [a0, a1] [.ref s0] lay M P = mG d 194 52 [a0, a1] [.int (M.1 s0 25)] lay M P := mG_of_and (mIsO_of hs (by decide)) (e_getI (ci := 10) (j := 25) rfl rfl rfl)
set_option maxRecDepth 20000 in
theorem g194_52 {d : Nat} {a0 a1 : Option Value} {s0 : Int32} {lay : List mShp} {M : mMem} {P : mPost} : mG (d) 194 52 [a0, a1] [.int s0] lay M P = mG d 194 61 [a0, a1] [.int s0] lay M P := e_goto rfl rfl
set_option maxRecDepth 20000 in
theorem g194_55 {d : Nat} {a1 : Option Value} {x : Nat} {lay : List mShp} {M : mMem} {P : mPost} (hx : ¬ x = 0) : mG (d) 194 55 [some (.ref x), a1] [] lay M P = mG d 194 56 [some (.ref x), a1] [.ref x] lay M P := e_aload_nP hx (i := 0) rfl rfl rfl
set_option maxRecDepth 20000 in
theorem g194_56 {d : Nat} {a0 a1 : Option Value} {s0 : Nat} {lay : List mShp} {M : mMem} {P : mPost} (hs : mSh lay s0 = some (13, 44)) : mG (d) 194 56 [a0, a1] [.ref s0] lay M P = mG d 194 59 [a0, a1] [.ref (M.2.2 s0 24)] lay M P := mG_of_and (mIsO_of hs (by decide)) (e_getA (ci := 10) (j := 24) rfl rfl rfl)
set_option maxRecDepth 20000 in
theorem g194_59 {d : Nat} {a0 : Option Value} {s0 : Nat} {x : Int32} {lay : List mShp} {M : mMem} {P : mPost} : mG (d) 194 59 [a0, some (.int x)] [.ref s0] lay M P = mG d 194 60 [a0, some (.int x)] [.int x, .ref s0] lay M P := e_iload_n (i := 1) rfl rfl rfl
set_option maxRecDepth 20000 in
theorem g194_60 {d : Nat} {a0 a1 : Option Value} {s0 : Int32} {s1 : Nat} {lay : List mShp} {M : mMem} {P : mPost} (hs : mSh lay s1 = some (0, 8)) : mG (d) 194 60 [a0, a1] [.int s0, .ref s1] lay M P = (mIdx s0 8 = true ∧ mG d 194 61 [a0, a1] [.int (M.1 s1 s0.toNatClampNeg)] lay M P) := e_iaload rfl hs
set_option maxRecDepth 20000 in
theorem g194_61 {d : Nat} {a0 a1 : Option Value} {s0 : Int32} {lay : List mShp} {M : mMem} {P : mPost} : mG (d) 194 61 [a0, a1] [.int s0] lay M P = P (some (.int s0)) lay M := e_ireturnI rfl rfl
-- 195 X10_lackBut
theorem g195_in {d : Nat} {x0 : Nat} {x1 : Int32} {x2 : Int32} {lay : List mShp} {M : mMem} {P : mPost} : mF d 195 [.ref x0, .int x1, .int x2] lay M P = mG d 195 0 [some (.ref x0), some (.int x1), some (.int x2), none] [] lay M P := mF_in rfl rfl
set_option maxRecDepth 20000 in
theorem g195_0 {d : Nat} {a1 a2 a3 : Option Value} {x : Nat} {lay : List mShp} {M : mMem} {P : mPost} (hx : ¬ x = 0) : mG (d) 195 0 [some (.ref x), a1, a2, a3] [] lay M P = mG d 195 1 [some (.ref x), a1, a2, a3] [.ref x] lay M P := e_aload_nP hx (i := 0) rfl rfl rfl
set_option maxRecDepth 20000 in
theorem g195_1 {d : Nat} {a0 a1 a2 a3 : Option Value} {s0 : Nat} {lay : List mShp} {M : mMem} {P : mPost} : mG (d) 195 1 [a0, a1, a2, a3] [.ref s0] lay M P = mG d 195 2 [a0, a1, a2, a3] [.int (Int32.ofInt 0), .ref s0] lay M P := e_iconst rfl
set_option maxRecDepth 20000 in
theorem g195_2 {d : Nat} {a0 a1 a2 a3 : Option Value} {s0 : Int32} {s1 : Nat} {lay : List mShp} {M : mMem} {P : mPost} (hs : mSh lay s1 = some (13, 44)) : mG (d + 1) 195 2 [a0, a1, a2, a3] [.int s0, .ref s1] lay M P = mF d 149 [.ref s1, .int s0] lay M (fun v lay1 M1 => mG (d + 1) 195 5 [a0, a1, a2, a3] (v.toList ++ []) lay1 M1 P) := e_virtP1 (j := 149) (c := 10) rfl rfl rfl rfl rfl rfl hs (Nat.le_of_ble_eq_true rfl)
set_option maxRecDepth 20000 in
theorem g195_5 {d : Nat} {a0 a1 a2 a3 : Option Value} {lay : List mShp} {M : mMem} {P : mPost} : mG (d) 195 5 [a0, a1, a2, a3] [] lay M P = mG d 195 6 [a0, a1, a2, a3] [.int (Int32.ofInt 0)] lay M P := e_iconst rfl
set_option maxRecDepth 20000 in
theorem g195_6 {d : Nat} {a0 a1 a2 a3 : Option Value} {s0 : Int32} {lay : List mShp} {M : mMem} {P : mPost} (h0 : mNoL a2 = true) : mG (d) 195 6 [a0, a1, a2, a3] [.int s0] lay M P = mG d 195 7 [a0, a1, a2, some (.int s0)] [] lay M P := e_istore_n (i := 3) rfl rfl (by simp) (mS1_3 h0)
set_option maxRecDepth 20000 in
theorem g195_7 {d : Nat} {a0 a1 a2 : Option Value} {x : Int32} {lay : List mShp} {M : mMem} {P : mPost} : mG (d) 195 7 [a0, a1, a2, some (.int x)] [] lay M P = mG d 195 8 [a0, a1, a2, some (.int x)] [.int x] lay M P := e_iload_n (i := 3) rfl rfl rfl
set_option maxRecDepth 20000 in
theorem g195_8 {d : Nat} {a1 a2 a3 : Option Value} {s0 : Int32} {x : Nat} {lay : List mShp} {M : mMem} {P : mPost} (hx : ¬ x = 0) : mG (d) 195 8 [some (.ref x), a1, a2, a3] [.int s0] lay M P = mG d 195 9 [some (.ref x), a1, a2, a3] [.ref x, .int s0] lay M P := e_aload_nP hx (i := 0) rfl rfl rfl
set_option maxRecDepth 20000 in
theorem g195_9 {d : Nat} {a0 a1 a2 a3 : Option Value} {s0 : Nat} {s1 : Int32} {lay : List mShp} {M : mMem} {P : mPost} (hs : mSh lay s0 = some (13, 44)) : mG (d) 195 9 [a0, a1, a2, a3] [.ref s0, .int s1] lay M P = mG d 195 12 [a0, a1, a2, a3] [.int (M.1 s0 2), .int s1] lay M P := mG_of_and (mIsO_of hs (by decide)) (e_getI (ci := 10) (j := 2) rfl rfl rfl)
set_option maxRecDepth 20000 in
theorem g195_12 {d : Nat} {a0 a1 a2 a3 : Option Value} {s0 : Int32} {s1 : Int32} {lay : List mShp} {M : mMem} {P : mPost} : mG (d) 195 12 [a0, a1, a2, a3] [.int s0, .int s1] lay M P = if s1 < s0 then mG d 195 15 [a0, a1, a2, a3] [] lay M P else mG d 195 52 [a0, a1, a2, a3] [] lay M P := e_icmp_ge rfl rfl
set_option maxRecDepth 20000 in
theorem g195_15 {d : Nat} {a1 a2 a3 : Option Value} {x : Nat} {lay : List mShp} {M : mMem} {P : mPost} (hx : ¬ x = 0) : mG (d) 195 15 [some (.ref x), a1, a2, a3] [] lay M P = mG d 195 16 [some (.ref x), a1, a2, a3] [.ref x] lay M P := e_aload_nP hx (i := 0) rfl rfl rfl
set_option maxRecDepth 20000 in
theorem g195_16 {d : Nat} {a0 a1 a2 : Option Value} {s0 : Nat} {x : Int32} {lay : List mShp} {M : mMem} {P : mPost} : mG (d) 195 16 [a0, a1, a2, some (.int x)] [.ref s0] lay M P = mG d 195 17 [a0, a1, a2, some (.int x)] [.int x, .ref s0] lay M P := e_iload_n (i := 3) rfl rfl rfl
set_option maxRecDepth 20000 in
theorem g195_17 {d : Nat} {a0 a1 a2 a3 : Option Value} {s0 : Int32} {s1 : Nat} {lay : List mShp} {M : mMem} {P : mPost} : mG (d) 195 17 [a0, a1, a2, a3] [.int s0, .ref s1] lay M P = mG d 195 18 [a0, a1, a2, a3] [.int (Int32.ofInt 4), .int s0, .ref s1] lay M P := e_iconst rfl
set_option maxRecDepth 20000 in
theorem g195_18 {d : Nat} {a0 a1 a2 : Option Value} {s0 : Int32} {s1 : Int32} {s2 : Nat} {x : Int32} {lay : List mShp} {M : mMem} {P : mPost} : mG (d) 195 18 [a0, a1, a2, some (.int x)] [.int s0, .int s1, .ref s2] lay M P = mG d 195 19 [a0, a1, a2, some (.int x)] [.int x, .int s0, .int s1, .ref s2] lay M P := e_iload_n (i := 3) rfl rfl rfl
set_option maxRecDepth 20000 in
theorem g195_19 {d : Nat} {a0 a1 a3 : Option Value} {s0 : Int32} {s1 : Int32} {s2 : Int32} {s3 : Nat} {x : Int32} {lay : List mShp} {M : mMem} {P : mPost} : mG (d) 195 19 [a0, a1, some (.int x), a3] [.int s0, .int s1, .int s2, .ref s3] lay M P = mG d 195 20 [a0, a1, some (.int x), a3] [.int x, .int s0, .int s1, .int s2, .ref s3] lay M P := e_iload_n (i := 2) rfl rfl rfl
set_option maxRecDepth 20000 in
theorem g195_20 {d : Nat} {a0 a1 a2 a3 : Option Value} {s0 : Int32} {s1 : Int32} {s2 : Int32} {s3 : Int32} {s4 : Nat} {lay : List mShp} {M : mMem} {P : mPost} : mG (d) 195 20 [a0, a1, a2, a3] [.int s0, .int s1, .int s2, .int s3, .ref s4] lay M P = if s1 = s0 then mG d 195 33 [a0, a1, a2, a3] [.int s2, .int s3, .ref s4] lay M P else mG d 195 23 [a0, a1, a2, a3] [.int s2, .int s3, .ref s4] lay M P := e_icmp_eq rfl rfl
set_option maxRecDepth 20000 in
theorem g195_23 {d : Nat} {a1 a2 a3 : Option Value} {s0 : Int32} {s1 : Int32} {s2 : Nat} {x : Nat} {lay : List mShp} {M : mMem} {P : mPost} (hx : ¬ x = 0) : mG (d) 195 23 [some (.ref x), a1, a2, a3] [.int s0, .int s1, .ref s2] lay M P = mG d 195 24 [some (.ref x), a1, a2, a3] [.ref x, .int s0, .int s1, .ref s2] lay M P := e_aload_nP hx (i := 0) rfl rfl rfl
set_option maxRecDepth 20000 in
theorem g195_24 {d : Nat} {a0 a1 a2 : Option Value} {s0 : Nat} {s1 : Int32} {s2 : Int32} {s3 : Nat} {x : Int32} {lay : List mShp} {M : mMem} {P : mPost} : mG (d) 195 24 [a0, a1, a2, some (.int x)] [.ref s0, .int s1, .int s2, .ref s3] lay M P = mG d 195 25 [a0, a1, a2, some (.int x)] [.int x, .ref s0, .int s1, .int s2, .ref s3] lay M P := e_iload_n (i := 3) rfl rfl rfl
set_option maxRecDepth 20000 in
theorem g195_25 {d : Nat} {a0 a1 a2 a3 : Option Value} {s0 : Int32} {s1 : Nat} {s2 : Int32} {s3 : Int32} {s4 : Nat} {lay : List mShp} {M : mMem} {P : mPost} : mG (d) 195 25 [a0, a1, a2, a3] [.int s0, .ref s1, .int s2, .int s3, .ref s4] lay M P = mG d 195 26 [a0, a1, a2, a3] [.int (Int32.ofInt 4), .int s0, .ref s1, .int s2, .int s3, .ref s4] lay M P := e_iconst rfl
set_option maxRecDepth 20000 in
theorem g195_26 {d : Nat} {a0 a1 a2 a3 : Option Value} {s0 : Int32} {s1 : Int32} {s2 : Nat} {s3 : Int32} {s4 : Int32} {s5 : Nat} {lay : List mShp} {M : mMem} {P : mPost} (hs : mSh lay s2 = some (13, 44)) : mG (d + 1) 195 26 [a0, a1, a2, a3] [.int s0, .int s1, .ref s2, .int s3, .int s4, .ref s5] lay M P = mF d 152 [.ref s2, .int s1, .int s0] lay M (fun v lay1 M1 => mG (d + 1) 195 29 [a0, a1, a2, a3] (v.toList ++ [.int s3, .int s4, .ref s5]) lay1 M1 P) := e_virtP2 (j := 152) (c := 10) rfl rfl rfl rfl rfl rfl hs (Nat.le_of_ble_eq_true rfl)
set_option maxRecDepth 20000 in
theorem g195_29 {d : Nat} {a0 a1 a3 : Option Value} {s0 : Int32} {s1 : Int32} {s2 : Int32} {s3 : Nat} {x : Int32} {lay : List mShp} {M : mMem} {P : mPost} : mG (d) 195 29 [a0, a1, some (.int x), a3] [.int s0, .int s1, .int s2, .ref s3] lay M P = mG d 195 30 [a0, a1, some (.int x), a3] [.int x, .int s0, .int s1, .int s2, .ref s3] lay M P := e_iload_n (i := 2) rfl rfl rfl
set_option maxRecDepth 20000 in
theorem g195_30 {d : Nat} {a0 a1 a2 a3 : Option Value} {s0 : Int32} {s1 : Int32} {s2 : Int32} {s3 : Int32} {s4 : Nat} {lay : List mShp} {M : mMem} {P : mPost} : mG (d) 195 30 [a0, a1, a2, a3] [.int s0, .int s1, .int s2, .int s3, .ref s4] lay M P = if s1 = s0 then mG d 195 33 [a0, a1, a2, a3] [.int s2, .int s3, .ref s4] lay M P else mG d 195 37 [a0, a1, a2, a3] [.int s2, .int s3, .ref s4] lay M P := e_icmp_ne rfl rfl
set_option maxRecDepth 20000 in
theorem g195_33 {d : Nat} {a0 a1 a2 a3 : Option Value} {s0 : Int32} {s1 : Int32} {s2 : Nat} {lay : List mShp} {M : mMem} {P : mPost} : mG (d) 195 33 [a0, a1, a2, a3] [.int s0, .int s1, .ref s2] lay M P = mG d 195 34 [a0, a1, a2, a3] [.int (Int32.ofInt (-1)), .int s0, .int s1, .ref s2] lay M P := e_iconst rfl
set_option maxRecDepth 20000 in
theorem g195_34 {d : Nat} {a0 a1 a2 a3 : Option Value} {s0 : Int32} {s1 : Int32} {s2 : Int32} {s3 : Nat} {lay : List mShp} {M : mMem} {P : mPost} : mG (d) 195 34 [a0, a1, a2, a3] [.int s0, .int s1, .int s2, .ref s3] lay M P = mG d 195 43 [a0, a1, a2, a3] [.int s0, .int s1, .int s2, .ref s3] lay M P := e_goto rfl rfl
set_option maxRecDepth 20000 in
theorem g195_37 {d : Nat} {a1 a2 a3 : Option Value} {s0 : Int32} {s1 : Int32} {s2 : Nat} {x : Nat} {lay : List mShp} {M : mMem} {P : mPost} (hx : ¬ x = 0) : mG (d) 195 37 [some (.ref x), a1, a2, a3] [.int s0, .int s1, .ref s2] lay M P = mG d 195 38 [some (.ref x), a1, a2, a3] [.ref x, .int s0, .int s1, .ref s2] lay M P := e_aload_nP hx (i := 0) rfl rfl rfl
set_option maxRecDepth 20000 in
theorem g195_38 {d : Nat} {a0 a1 a2 : Option Value} {s0 : Nat} {s1 : Int32} {s2 : Int32} {s3 : Nat} {x : Int32} {lay : List mShp} {M : mMem} {P : mPost} : mG (d) 195 38 [a0, a1, a2, some (.int x)] [.ref s0, .int s1, .int s2, .ref s3] lay M P = mG d 195 39 [a0, a1, a2, some (.int x)] [.int x, .ref s0, .int s1, .int s2, .ref s3] lay M P := e_iload_n (i := 3) rfl rfl rfl
set_option maxRecDepth 20000 in
theorem g195_39 {d : Nat} {a0 a1 a2 a3 : Option Value} {s0 : Int32} {s1 : Nat} {s2 : Int32} {s3 : Int32} {s4 : Nat} {lay : List mShp} {M : mMem} {P : mPost} : mG (d) 195 39 [a0, a1, a2, a3] [.int s0, .ref s1, .int s2, .int s3, .ref s4] lay M P = mG d 195 40 [a0, a1, a2, a3] [.int (Int32.ofInt 4), .int s0, .ref s1, .int s2, .int s3, .ref s4] lay M P := e_iconst rfl
set_option maxRecDepth 20000 in
theorem g195_40 {d : Nat} {a0 a1 a2 a3 : Option Value} {s0 : Int32} {s1 : Int32} {s2 : Nat} {s3 : Int32} {s4 : Int32} {s5 : Nat} {lay : List mShp} {M : mMem} {P : mPost} (hs : mSh lay s2 = some (13, 44)) : mG (d + 1) 195 40 [a0, a1, a2, a3] [.int s0, .int s1, .ref s2, .int s3, .int s4, .ref s5] lay M P = mF d 152 [.ref s2, .int s1, .int s0] lay M (fun v lay1 M1 => mG (d + 1) 195 43 [a0, a1, a2, a3] (v.toList ++ [.int s3, .int s4, .ref s5]) lay1 M1 P) := e_virtP2 (j := 152) (c := 10) rfl rfl rfl rfl rfl rfl hs (Nat.le_of_ble_eq_true rfl)
set_option maxRecDepth 20000 in
theorem g195_43 {d : Nat} {a0 a1 a2 a3 : Option Value} {s0 : Int32} {s1 : Int32} {s2 : Int32} {s3 : Nat} {lay : List mShp} {M : mMem} {P : mPost} (hs : mSh lay s3 = some (13, 44)) : mG (d + 1) 195 43 [a0, a1, a2, a3] [.int s0, .int s1, .int s2, .ref s3] lay M P = mF d 153 [.ref s3, .int s2, .int s1, .int s0] lay M (fun v lay1 M1 => mG (d + 1) 195 46 [a0, a1, a2, a3] (v.toList ++ []) lay1 M1 P) := e_virtP3 (j := 153) (c := 10) rfl rfl rfl rfl rfl rfl hs (Nat.le_of_ble_eq_true rfl)
set_option maxRecDepth 20000 in
theorem g195_46 {d : Nat} {a0 a1 a2 : Option Value} {x : Int32} {lay : List mShp} {M : mMem} {P : mPost} (h0 : mNoL a2 = true) : mG (d) 195 46 [a0, a1, a2, some (.int x)] [] lay M P = mG d 195 49 [a0, a1, a2, some (.int (x + Int32.ofInt 1))] [] lay M P := e_iinc (n := 3) rfl rfl (mS1_3 h0)
set_option maxRecDepth 20000 in
theorem g195_49 {d : Nat} {a0 a1 a2 a3 : Option Value} {lay : List mShp} {M : mMem} {P : mPost} : mG (d) 195 49 [a0, a1, a2, a3] [] lay M P = mG d 195 7 [a0, a1, a2, a3] [] lay M P := e_goto rfl rfl
set_option maxRecDepth 20000 in
theorem g195_52 {d : Nat} {a1 a2 a3 : Option Value} {x : Nat} {lay : List mShp} {M : mMem} {P : mPost} (hx : ¬ x = 0) : mG (d) 195 52 [some (.ref x), a1, a2, a3] [] lay M P = mG d 195 53 [some (.ref x), a1, a2, a3] [.ref x] lay M P := e_aload_nP hx (i := 0) rfl rfl rfl
set_option maxRecDepth 20000 in
theorem g195_53 {d : Nat} {a0 a1 a3 : Option Value} {s0 : Nat} {x : Int32} {lay : List mShp} {M : mMem} {P : mPost} : mG (d) 195 53 [a0, a1, some (.int x), a3] [.ref s0] lay M P = mG d 195 54 [a0, a1, some (.int x), a3] [.int x, .ref s0] lay M P := e_iload_n (i := 2) rfl rfl rfl
set_option maxRecDepth 20000 in
theorem g195_54 {d : Nat} {a0 a1 a2 a3 : Option Value} {s0 : Int32} {s1 : Nat} {lay : List mShp} {M : mMem} {P : mPost} (hs : mSh lay s1 = some (13, 44)) : mG (d) 195 54 [a0, a1, a2, a3] [.int s0, .ref s1] lay M P = mG d 195 57 [a0, a1, a2, a3] [] lay (mSetI M s1 20 s0) P := mG_of_and (mIsO_of hs (by decide)) (e_putI (ci := 10) (j := 20) rfl rfl (Or.inl rfl) rfl)
set_option maxRecDepth 20000 in
theorem g195_57 {d : Nat} {a1 a2 a3 : Option Value} {x : Nat} {lay : List mShp} {M : mMem} {P : mPost} (hx : ¬ x = 0) : mG (d) 195 57 [some (.ref x), a1, a2, a3] [] lay M P = mG d 195 58 [some (.ref x), a1, a2, a3] [.ref x] lay M P := e_aload_nP hx (i := 0) rfl rfl rfl
set_option maxRecDepth 20000 in
theorem g195_58 {d : Nat} {a0 a2 a3 : Option Value} {s0 : Nat} {x : Int32} {lay : List mShp} {M : mMem} {P : mPost} : mG (d) 195 58 [a0, some (.int x), a2, a3] [.ref s0] lay M P = mG d 195 59 [a0, some (.int x), a2, a3] [.int x, .ref s0] lay M P := e_iload_n (i := 1) rfl rfl rfl
set_option maxRecDepth 20000 in
theorem g195_59 {d : Nat} {a0 a1 a2 a3 : Option Value} {s0 : Int32} {s1 : Nat} {lay : List mShp} {M : mMem} {P : mPost} (hs : mSh lay s1 = some (13, 44)) : mG (d + 1) 195 59 [a0, a1, a2, a3] [.int s0, .ref s1] lay M P = mF d 180 [.ref s1, .int s0] lay M (fun v lay1 M1 => mG (d + 1) 195 62 [a0, a1, a2, a3] (v.toList ++ []) lay1 M1 P) := e_virtP1 (j := 180) (c := 10) rfl rfl rfl rfl rfl rfl hs (Nat.le_of_ble_eq_true rfl)
set_option maxRecDepth 20000 in
theorem g195_62 {d : Nat} {a1 a2 a3 : Option Value} {x : Nat} {lay : List mShp} {M : mMem} {P : mPost} (hx : ¬ x = 0) : mG (d) 195 62 [some (.ref x), a1, a2, a3] [] lay M P = mG d 195 63 [some (.ref x), a1, a2, a3] [.ref x] lay M P := e_aload_nP hx (i := 0) rfl rfl rfl
set_option maxRecDepth 20000 in
theorem g195_63 {d : Nat} {a0 a1 a2 a3 : Option Value} {s0 : Nat} {lay : List mShp} {M : mMem} {P : mPost} (hs : mSh lay s0 = some (13, 44)) : mG (d + 1) 195 63 [a0, a1, a2, a3] [.ref s0] lay M P = mF d 181 [.ref s0] lay M (fun v lay1 M1 => mG (d + 1) 195 66 [a0, a1, a2, a3] (v.toList ++ []) lay1 M1 P) := e_virtP0 (j := 181) (c := 10) rfl rfl rfl rfl rfl rfl hs (Nat.le_of_ble_eq_true rfl)
set_option maxRecDepth 20000 in
theorem g195_66 {d : Nat} {a0 a1 a2 a3 : Option Value} {s0 : Int32} {lay : List mShp} {M : mMem} {P : mPost} : mG (d + 1) 195 66 [a0, a1, a2, a3] [.int s0] lay M P = mF d 230 [.int s0] lay M (fun v lay1 M1 => mG (d + 1) 195 69 [a0, a1, a2, a3] (v.toList ++ []) lay1 M1 P) := e_static1 (j := 230) rfl rfl rfl rfl rfl (Nat.le_of_ble_eq_true rfl)
set_option maxRecDepth 20000 in
theorem g195_69 {d : Nat} {a0 a1 a2 a3 : Option Value} {s0 : Int32} {lay : List mShp} {M : mMem} {P : mPost} (h0 : mNoL a2 = true) : mG (d) 195 69 [a0, a1, a2, a3] [.int s0] lay M P = mG d 195 70 [a0, a1, a2, some (.int s0)] [] lay M P := e_istore_n (i := 3) rfl rfl (by simp) (mS1_3 h0)
set_option maxRecDepth 20000 in
theorem g195_70 {d : Nat} {a1 a2 a3 : Option Value} {x : Nat} {lay : List mShp} {M : mMem} {P : mPost} (hx : ¬ x = 0) : mG (d) 195 70 [some (.ref x), a1, a2, a3] [] lay M P = mG d 195 71 [some (.ref x), a1, a2, a3] [.ref x] lay M P := e_aload_nP hx (i := 0) rfl rfl rfl
set_option maxRecDepth 20000 in
theorem g195_71 {d : Nat} {a0 a1 a2 a3 : Option Value} {s0 : Nat} {lay : List mShp} {M : mMem} {P : mPost} : mG (d) 195 71 [a0, a1, a2, a3] [.ref s0] lay M P = mG d 195 72 [a0, a1, a2, a3] [.int (Int32.ofInt (-1)), .ref s0] lay M P := e_iconst rfl
set_option maxRecDepth 20000 in
theorem g195_72 {d : Nat} {a0 a1 a2 a3 : Option Value} {s0 : Int32} {s1 : Nat} {lay : List mShp} {M : mMem} {P : mPost} (hs : mSh lay s1 = some (13, 44)) : mG (d) 195 72 [a0, a1, a2, a3] [.int s0, .ref s1] lay M P = mG d 195 75 [a0, a1, a2, a3] [] lay (mSetI M s1 20 s0) P := mG_of_and (mIsO_of hs (by decide)) (e_putI (ci := 10) (j := 20) rfl rfl (Or.inl rfl) rfl)
set_option maxRecDepth 20000 in
theorem g195_75 {d : Nat} {a1 a2 a3 : Option Value} {x : Nat} {lay : List mShp} {M : mMem} {P : mPost} (hx : ¬ x = 0) : mG (d) 195 75 [some (.ref x), a1, a2, a3] [] lay M P = mG d 195 76 [some (.ref x), a1, a2, a3] [.ref x] lay M P := e_aload_nP hx (i := 0) rfl rfl rfl
set_option maxRecDepth 20000 in
theorem g195_76 {d : Nat} {a0 a1 a2 a3 : Option Value} {s0 : Nat} {lay : List mShp} {M : mMem} {P : mPost} : mG (d) 195 76 [a0, a1, a2, a3] [.ref s0] lay M P = mG d 195 77 [a0, a1, a2, a3] [.int (Int32.ofInt 0), .ref s0] lay M P := e_iconst rfl
set_option maxRecDepth 20000 in
theorem g195_77 {d : Nat} {a0 a1 a2 a3 : Option Value} {s0 : Int32} {s1 : Nat} {lay : List mShp} {M : mMem} {P : mPost} (hs : mSh lay s1 = some (13, 44)) : mG (d + 1) 195 77 [a0, a1, a2, a3] [.int s0, .ref s1] lay M P = mF d 150 [.ref s1, .int s0] lay M (fun v lay1 M1 => mG (d + 1) 195 80 [a0, a1, a2, a3] (v.toList ++ []) lay1 M1 P) := e_virtP1 (j := 150) (c := 10) rfl rfl rfl rfl rfl rfl hs (Nat.le_of_ble_eq_true rfl)
set_option maxRecDepth 20000 in
theorem g195_80 {d : Nat} {a0 a1 a2 : Option Value} {x : Int32} {lay : List mShp} {M : mMem} {P : mPost} : mG (d) 195 80 [a0, a1, a2, some (.int x)] [] lay M P = mG d 195 81 [a0, a1, a2, some (.int x)] [.int x] lay M P := e_iload_n (i := 3) rfl rfl rfl
set_option maxRecDepth 20000 in
theorem g195_81 {d : Nat} {a0 a1 a2 a3 : Option Value} {s0 : Int32} {lay : List mShp} {M : mMem} {P : mPost} : mG (d) 195 81 [a0, a1, a2, a3] [.int s0] lay M P = P (some (.int s0)) lay M := e_ireturnI rfl rfl
-- 196 X10_gone
theorem g196_in {d : Nat} {x0 : Nat} {x1 : Int32} {x2 : Int32} {lay : List mShp} {M : mMem} {P : mPost} : mF d 196 [.ref x0, .int x1, .int x2] lay M P = mG d 196 0 [some (.ref x0), some (.int x1), some (.int x2), none, none, none, none] [] lay M P := mF_in rfl rfl
set_option maxRecDepth 20000 in
theorem g196_0 {d : Nat} {a0 a2 a3 a4 a5 a6 : Option Value} {x : Int32} {lay : List mShp} {M : mMem} {P : mPost} : mG (d) 196 0 [a0, some (.int x), a2, a3, a4, a5, a6] [] lay M P = mG d 196 1 [a0, some (.int x), a2, a3, a4, a5, a6] [.int x] lay M P := e_iload_n (i := 1) rfl rfl rfl
set_option maxRecDepth 20000 in
theorem g196_1 {d : Nat} {a0 a1 a2 a3 a4 a5 a6 : Option Value} {s0 : Int32} {lay : List mShp} {M : mMem} {P : mPost} : mG (d) 196 1 [a0, a1, a2, a3, a4, a5, a6] [.int s0] lay M P = mG d 196 2 [a0, a1, a2, a3, a4, a5, a6] [.int (Int32.ofInt 0), .int s0] lay M P := e_iconst rfl
set_option maxRecDepth 20000 in
theorem g196_2 {d : Nat} {a0 a1 a2 a3 a4 a5 a6 : Option Value} {s0 : Int32} {s1 : Int32} {lay : List mShp} {M : mMem} {P : mPost} : mG (d) 196 2 [a0, a1, a2, a3, a4, a5, a6] [.int s0, .int s1] lay M P = mG d 196 4 [a0, a1, a2, a3, a4, a5, a6] [.int (Int32.ofInt 12), .int s0, .int s1] lay M P := e_bipush rfl
set_option maxRecDepth 20000 in
theorem g196_4 {d : Nat} {a0 a1 a2 a3 a4 a5 a6 : Option Value} {s0 : Int32} {s1 : Int32} {s2 : Int32} {lay : List mShp} {M : mMem} {P : mPost} : mG (d + 1) 196 4 [a0, a1, a2, a3, a4, a5, a6] [.int s0, .int s1, .int s2] lay M P = mF d 146 [.int s2, .int s1, .int s0] lay M (fun v lay1 M1 => mG (d + 1) 196 7 [a0, a1, a2, a3, a4, a5, a6] (v.toList ++ []) lay1 M1 P) := e_static3 (j := 146) rfl rfl rfl rfl rfl (Nat.le_of_ble_eq_true rfl)
set_option maxRecDepth 20000 in
theorem g196_7 {d : Nat} {a0 a1 a2 a3 a4 a5 a6 : Option Value} {s0 : Int32} {lay : List mShp} {M : mMem} {P : mPost} : mG (d) 196 7 [a0, a1, a2, a3, a4, a5, a6] [.int s0] lay M P = if s0 = 0 then mG d 196 24 [a0, a1, a2, a3, a4, a5, a6] [] lay M P else mG d 196 10 [a0, a1, a2, a3, a4, a5, a6] [] lay M P := e_if_eq rfl rfl
set_option maxRecDepth 20000 in
theorem g196_10 {d : Nat} {a0 a1 a3 a4 a5 a6 : Option Value} {x : Int32} {lay : List mShp} {M : mMem} {P : mPost} : mG (d) 196 10 [a0, a1, some (.int x), a3, a4, a5, a6] [] lay M P = mG d 196 11 [a0, a1, some (.int x), a3, a4, a5, a6] [.int x] lay M P := e_iload_n (i := 2) rfl rfl rfl
set_option maxRecDepth 20000 in
theorem g196_11 {d : Nat} {a0 a1 a2 a3 a4 a5 a6 : Option Value} {s0 : Int32} {lay : List mShp} {M : mMem} {P : mPost} : mG (d) 196 11 [a0, a1, a2, a3, a4, a5, a6] [.int s0] lay M P = mG d 196 12 [a0, a1, a2, a3, a4, a5, a6] [.int (Int32.ofInt (-1)), .int s0] lay M P := e_iconst rfl
set_option maxRecDepth 20000 in
theorem g196_12 {d : Nat} {a1 a2 a3 a4 a5 a6 : Option Value} {s0 : Int32} {s1 : Int32} {x : Nat} {lay : List mShp} {M : mMem} {P : mPost} (hx : ¬ x = 0) : mG (d) 196 12 [some (.ref x), a1, a2, a3, a4, a5, a6] [.int s0, .int s1] lay M P = mG d 196 13 [some (.ref x), a1, a2, a3, a4, a5, a6] [.ref x, .int s0, .int s1] lay M P := e_aload_nP hx (i := 0) rfl rfl rfl
set_option maxRecDepth 20000 in
theorem g196_13 {d : Nat} {a0 a1 a2 a3 a4 a5 a6 : Option Value} {s0 : Nat} {s1 : Int32} {s2 : Int32} {lay : List mShp} {M : mMem} {P : mPost} (hs : mSh lay s0 = some (13, 44)) : mG (d) 196 13 [a0, a1, a2, a3, a4, a5, a6] [.ref s0, .int s1, .int s2] lay M P = mG d 196 16 [a0, a1, a2, a3, a4, a5, a6] [.int (M.1 s0 2), .int s1, .int s2] lay M P := mG_of_and (mIsO_of hs (by decide)) (e_getI (ci := 10) (j := 2) rfl rfl rfl)
set_option maxRecDepth 20000 in
theorem g196_16 {d : Nat} {a0 a1 a2 a3 a4 a5 a6 : Option Value} {s0 : Int32} {s1 : Int32} {s2 : Int32} {lay : List mShp} {M : mMem} {P : mPost} : mG (d) 196 16 [a0, a1, a2, a3, a4, a5, a6] [.int s0, .int s1, .int s2] lay M P = mG d 196 17 [a0, a1, a2, a3, a4, a5, a6] [.int (Int32.ofInt 1), .int s0, .int s1, .int s2] lay M P := e_iconst rfl
set_option maxRecDepth 20000 in
theorem g196_17 {d : Nat} {a0 a1 a2 a3 a4 a5 a6 : Option Value} {s0 : Int32} {s1 : Int32} {s2 : Int32} {s3 : Int32} {lay : List mShp} {M : mMem} {P : mPost} : mG (d) 196 17 [a0, a1, a2, a3, a4, a5, a6] [.int s0, .int s1, .int s2, .int s3] lay M P = mG d 196 18 [a0, a1, a2, a3, a4, a5, a6] [.int (s1 - s0), .int s2, .int s3] lay M P := e_isub rfl
set_option maxRecDepth 20000 in
theorem g196_18 {d : Nat} {a0 a1 a2 a3 a4 a5 a6 : Option Value} {s0 : Int32} {s1 : Int32} {s2 : Int32} {lay : List mShp} {M : mMem} {P : mPost} : mG (d + 1) 196 18 [a0, a1, a2, a3, a4, a5, a6] [.int s0, .int s1, .int s2] lay M P = mF d 146 [.int s2, .int s1, .int s0] lay M (fun v lay1 M1 => mG (d + 1) 196 21 [a0, a1, a2, a3, a4, a5, a6] (v.toList ++ []) lay1 M1 P) := e_static3 (j := 146) rfl rfl rfl rfl rfl (Nat.le_of_ble_eq_true rfl)
set_option maxRecDepth 20000 in
theorem g196_21 {d : Nat} {a0 a1 a2 a3 a4 a5 a6 : Option Value} {s0 : Int32} {lay : List mShp} {M : mMem} {P : mPost} : mG (d) 196 21 [a0, a1, a2, a3, a4, a5, a6] [.int s0] lay M P = if s0 = 0 then mG d 196 24 [a0, a1, a2, a3, a4, a5, a6] [] lay M P else mG d 196 26 [a0, a1, a2, a3, a4, a5, a6] [] lay M P := e_if_ne rfl rfl
set_option maxRecDepth 20000 in
theorem g196_24 {d : Nat} {a0 a1 a2 a3 a4 a5 a6 : Option Value} {lay : List mShp} {M : mMem} {P : mPost} : mG (d) 196 24 [a0, a1, a2, a3, a4, a5, a6] [] lay M P = mG d 196 25 [a0, a1, a2, a3, a4, a5, a6] [.int (Int32.ofInt (-1))] lay M P := e_iconst rfl
set_option maxRecDepth 20000 in
theorem g196_25 {d : Nat} {a0 a1 a2 a3 a4 a5 a6 : Option Value} {s0 : Int32} {lay : List mShp} {M : mMem} {P : mPost} : mG (d) 196 25 [a0, a1, a2, a3, a4, a5, a6] [.int s0] lay M P = P (some (.int s0)) lay M := e_ireturnI rfl rfl
set_option maxRecDepth 20000 in
theorem g196_26 {d : Nat} {a0 a1 a3 a4 a5 a6 : Option Value} {x : Int32} {lay : List mShp} {M : mMem} {P : mPost} : mG (d) 196 26 [a0, a1, some (.int x), a3, a4, a5, a6] [] lay M P = mG d 196 27 [a0, a1, some (.int x), a3, a4, a5, a6] [.int x] lay M P := e_iload_n (i := 2) rfl rfl rfl
set_option maxRecDepth 20000 in
theorem g196_27 {d : Nat} {a0 a1 a2 a3 a4 a5 a6 : Option Value} {s0 : Int32} {lay : List mShp} {M : mMem} {P : mPost} : mG (d) 196 27 [a0, a1, a2, a3, a4, a5, a6] [.int s0] lay M P = mG d 196 28 [a0, a1, a2, a3, a4, a5, a6] [.int (Int32.ofInt (-1)), .int s0] lay M P := e_iconst rfl
set_option maxRecDepth 20000 in
theorem g196_28 {d : Nat} {a0 a1 a2 a3 a4 a5 a6 : Option Value} {s0 : Int32} {s1 : Int32} {lay : List mShp} {M : mMem} {P : mPost} : mG (d) 196 28 [a0, a1, a2, a3, a4, a5, a6] [.int s0, .int s1] lay M P = if s1 = s0 then mG d 196 38 [a0, a1, a2, a3, a4, a5, a6] [] lay M P else mG d 196 31 [a0, a1, a2, a3, a4, a5, a6] [] lay M P := e_icmp_eq rfl rfl
set_option maxRecDepth 20000 in
theorem g196_31 {d : Nat} {a1 a2 a3 a4 a5 a6 : Option Value} {x : Nat} {lay : List mShp} {M : mMem} {P : mPost} (hx : ¬ x = 0) : mG (d) 196 31 [some (.ref x), a1, a2, a3, a4, a5, a6] [] lay M P = mG d 196 32 [some (.ref x), a1, a2, a3, a4, a5, a6] [.ref x] lay M P := e_aload_nP hx (i := 0) rfl rfl rfl
set_option maxRecDepth 20000 in
theorem g196_32 {d : Nat} {a0 a2 a3 a4 a5 a6 : Option Value} {s0 : Nat} {x : Int32} {lay : List mShp} {M : mMem} {P : mPost} : mG (d) 196 32 [a0, some (.int x), a2, a3, a4, a5, a6] [.ref s0] lay M P = mG d 196 33 [a0, some (.int x), a2, a3, a4, a5, a6] [.int x, .ref s0] lay M P := e_iload_n (i := 1) rfl rfl rfl
set_option maxRecDepth 20000 in
theorem g196_33 {d : Nat} {a0 a1 a3 a4 a5 a6 : Option Value} {s0 : Int32} {s1 : Nat} {x : Int32} {lay : List mShp} {M : mMem} {P : mPost} : mG (d) 196 33 [a0, a1, some (.int x), a3, a4, a5, a6] [.int s0, .ref s1] lay M P = mG d 196 34 [a0, a1, some (.int x), a3, a4, a5, a6] [.int x, .int s0, .ref s1] lay M P := e_iload_n (i := 2) rfl rfl rfl
set_option maxRecDepth 20000 in
theorem g196_34 {d : Nat} {a0 a1 a2 a3 a4 a5 a6 : Option Value} {s0 : Int32} {s1 : Int32} {s2 : Nat} {lay : List mShp} {M : mMem} {P : mPost} (hs : mSh lay s2 = some (13, 44)) : mG (d + 1) 196 34 [a0, a1, a2, a3, a4, a5, a6] [.int s0, .int s1, .ref s2] lay M P = mF d 195 [.ref s2, .int s1, .int s0] lay M (fun v lay1 M1 => mG (d + 1) 196 37 [a0, a1, a2, a3, a4, a5, a6] (v.toList ++ []) lay1 M1 P) := e_virtP2 (j := 195) (c := 10) rfl rfl rfl rfl rfl rfl hs (Nat.le_of_ble_eq_true rfl)
set_option maxRecDepth 20000 in
theorem g196_37 {d : Nat} {a0 a1 a2 a3 a4 a5 a6 : Option Value} {s0 : Int32} {lay : List mShp} {M : mMem} {P : mPost} : mG (d) 196 37 [a0, a1, a2, a3, a4, a5, a6] [.int s0] lay M P = P (some (.int s0)) lay M := e_ireturnI rfl rfl
set_option maxRecDepth 20000 in
theorem g196_38 {d : Nat} {a0 a1 a2 a3 a4 a5 a6 : Option Value} {lay : List mShp} {M : mMem} {P : mPost} : mG (d) 196 38 [a0, a1, a2, a3, a4, a5, a6] [] lay M P = mG d 196 40 [a0, a1, a2, a3, a4, a5, a6] [.int (Int32.ofInt (-2))] lay M P := e_bipush rfl
set_option maxRecDepth 20000 in
theorem g196_40 {d : Nat} {a0 a1 a2 a3 a4 a5 a6 : Option Value} {s0 : Int32} {lay : List mShp} {M : mMem} {P : mPost} (h0 : mNoL a2 = true) : mG (d) 196 40 [a0, a1, a2, a3, a4, a5, a6] [.int s0] lay M P = mG d 196 41 [a0, a1, a2, some (.int s0), a4, a5, a6] [] lay M P := e_istore_n (i := 3) rfl rfl (by simp) (mS1_3 h0)
set_option maxRecDepth 20000 in
theorem g196_41 {d : Nat} {a0 a1 a2 a3 a4 a5 a6 : Option Value} {lay : List mShp} {M : mMem} {P : mPost} : mG (d) 196 41 [a0, a1, a2, a3, a4, a5, a6] [] lay M P = mG d 196 42 [a0, a1, a2, a3, a4, a5, a6] [.int (Int32.ofInt (-1))] lay M P := e_iconst rfl
set_option maxRecDepth 20000 in
theorem g196_42 {d : Nat} {a0 a1 a2 a3 a4 a5 a6 : Option Value} {s0 : Int32} {lay : List mShp} {M : mMem} {P : mPost} (h0 : mNoL a3 = true) : mG (d) 196 42 [a0, a1, a2, a3, a4, a5, a6] [.int s0] lay M P = mG d 196 44 [a0, a1, a2, a3, some (.int s0), a5, a6] [] lay M P := e_istore (i := 4) rfl (by simp) (mS1_4 h0)
set_option maxRecDepth 20000 in
theorem g196_44 {d : Nat} {a0 a1 a2 a3 a4 a5 a6 : Option Value} {lay : List mShp} {M : mMem} {P : mPost} : mG (d) 196 44 [a0, a1, a2, a3, a4, a5, a6] [] lay M P = mG d 196 45 [a0, a1, a2, a3, a4, a5, a6] [.int (Int32.ofInt 0)] lay M P := e_iconst rfl
set_option maxRecDepth 20000 in
theorem g196_45 {d : Nat} {a0 a1 a2 a3 a4 a5 a6 : Option Value} {s0 : Int32} {lay : List mShp} {M : mMem} {P : mPost} (h0 : mNoL a4 = true) : mG (d) 196 45 [a0, a1, a2, a3, a4, a5, a6] [.int s0] lay M P = mG d 196 47 [a0, a1, a2, a3, a4, some (.int s0), a6] [] lay M P := e_istore (i := 5) rfl (by simp) (mS1_5 h0)
set_option maxRecDepth 20000 in
theorem g196_47 {d : Nat} {a0 a1 a2 a3 a4 a6 : Option Value} {x : Int32} {lay : List mShp} {M : mMem} {P : mPost} : mG (d) 196 47 [a0, a1, a2, a3, a4, some (.int x), a6] [] lay M P = mG d 196 49 [a0, a1, a2, a3, a4, some (.int x), a6] [.int x] lay M P := e_iload (i := 5) rfl rfl
set_option maxRecDepth 20000 in
theorem g196_49 {d : Nat} {a1 a2 a3 a4 a5 a6 : Option Value} {s0 : Int32} {x : Nat} {lay : List mShp} {M : mMem} {P : mPost} (hx : ¬ x = 0) : mG (d) 196 49 [some (.ref x), a1, a2, a3, a4, a5, a6] [.int s0] lay M P = mG d 196 50 [some (.ref x), a1, a2, a3, a4, a5, a6] [.ref x, .int s0] lay M P := e_aload_nP hx (i := 0) rfl rfl rfl
set_option maxRecDepth 20000 in
theorem g196_50 {d : Nat} {a0 a1 a2 a3 a4 a5 a6 : Option Value} {s0 : Nat} {s1 : Int32} {lay : List mShp} {M : mMem} {P : mPost} (hs : mSh lay s0 = some (13, 44)) : mG (d) 196 50 [a0, a1, a2, a3, a4, a5, a6] [.ref s0, .int s1] lay M P = mG d 196 53 [a0, a1, a2, a3, a4, a5, a6] [.int (M.1 s0 2), .int s1] lay M P := mG_of_and (mIsO_of hs (by decide)) (e_getI (ci := 10) (j := 2) rfl rfl rfl)
set_option maxRecDepth 20000 in
theorem g196_53 {d : Nat} {a0 a1 a2 a3 a4 a5 a6 : Option Value} {s0 : Int32} {s1 : Int32} {lay : List mShp} {M : mMem} {P : mPost} : mG (d) 196 53 [a0, a1, a2, a3, a4, a5, a6] [.int s0, .int s1] lay M P = if s1 < s0 then mG d 196 56 [a0, a1, a2, a3, a4, a5, a6] [] lay M P else mG d 196 94 [a0, a1, a2, a3, a4, a5, a6] [] lay M P := e_icmp_ge rfl rfl
set_option maxRecDepth 20000 in
theorem g196_56 {d : Nat} {a1 a2 a3 a4 a5 a6 : Option Value} {x : Nat} {lay : List mShp} {M : mMem} {P : mPost} (hx : ¬ x = 0) : mG (d) 196 56 [some (.ref x), a1, a2, a3, a4, a5, a6] [] lay M P = mG d 196 57 [some (.ref x), a1, a2, a3, a4, a5, a6] [.ref x] lay M P := e_aload_nP hx (i := 0) rfl rfl rfl
set_option maxRecDepth 20000 in
theorem g196_57 {d : Nat} {a0 a2 a3 a4 a5 a6 : Option Value} {s0 : Nat} {x : Int32} {lay : List mShp} {M : mMem} {P : mPost} : mG (d) 196 57 [a0, some (.int x), a2, a3, a4, a5, a6] [.ref s0] lay M P = mG d 196 58 [a0, some (.int x), a2, a3, a4, a5, a6] [.int x, .ref s0] lay M P := e_iload_n (i := 1) rfl rfl rfl
set_option maxRecDepth 20000 in
theorem g196_58 {d : Nat} {a0 a1 a2 a3 a4 a6 : Option Value} {s0 : Int32} {s1 : Nat} {x : Int32} {lay : List mShp} {M : mMem} {P : mPost} : mG (d) 196 58 [a0, a1, a2, a3, a4, some (.int x), a6] [.int s0, .ref s1] lay M P = mG d 196 60 [a0, a1, a2, a3, a4, some (.int x), a6] [.int x, .int s0, .ref s1] lay M P := e_iload (i := 5) rfl rfl
set_option maxRecDepth 20000 in
theorem g196_60 {d : Nat} {a0 a1 a2 a3 a4 a5 a6 : Option Value} {s0 : Int32} {s1 : Int32} {s2 : Nat} {lay : List mShp} {M : mMem} {P : mPost} (hs : mSh lay s2 = some (13, 44)) : mG (d + 1) 196 60 [a0, a1, a2, a3, a4, a5, a6] [.int s0, .int s1, .ref s2] lay M P = mF d 195 [.ref s2, .int s1, .int s0] lay M (fun v lay1 M1 => mG (d + 1) 196 63 [a0, a1, a2, a3, a4, a5, a6] (v.toList ++ []) lay1 M1 P) := e_virtP2 (j := 195) (c := 10) rfl rfl rfl rfl rfl rfl hs (Nat.le_of_ble_eq_true rfl)
set_option maxRecDepth 20000 in
theorem g196_63 {d : Nat} {a0 a1 a2 a3 a4 a5 a6 : Option Value} {s0 : Int32} {lay : List mShp} {M : mMem} {P : mPost} (h0 : mNoL a5 = true) : mG (d) 196 63 [a0, a1, a2, a3, a4, a5, a6] [.int s0] lay M P = mG d 196 65 [a0, a1, a2, a3, a4, a5, some (.int s0)] [] lay M P := e_istore (i := 6) rfl (by simp) (mS1_6 h0)
set_option maxRecDepth 20000 in
theorem g196_65 {d : Nat} {a0 a1 a2 a3 a4 a5 : Option Value} {x : Int32} {lay : List mShp} {M : mMem} {P : mPost} : mG (d) 196 65 [a0, a1, a2, a3, a4, a5, some (.int x)] [] lay M P = mG d 196 67 [a0, a1, a2, a3, a4, a5, some (.int x)] [.int x] lay M P := e_iload (i := 6) rfl rfl
set_option maxRecDepth 20000 in
theorem g196_67 {d : Nat} {a0 a1 a2 a3 a5 a6 : Option Value} {s0 : Int32} {x : Int32} {lay : List mShp} {M : mMem} {P : mPost} : mG (d) 196 67 [a0, a1, a2, a3, some (.int x), a5, a6] [.int s0] lay M P = mG d 196 69 [a0, a1, a2, a3, some (.int x), a5, a6] [.int x, .int s0] lay M P := e_iload (i := 4) rfl rfl
set_option maxRecDepth 20000 in
theorem g196_69 {d : Nat} {a0 a1 a2 a3 a4 a5 a6 : Option Value} {s0 : Int32} {s1 : Int32} {lay : List mShp} {M : mMem} {P : mPost} : mG (d) 196 69 [a0, a1, a2, a3, a4, a5, a6] [.int s0, .int s1] lay M P = if s0 < s1 then mG d 196 72 [a0, a1, a2, a3, a4, a5, a6] [] lay M P else mG d 196 77 [a0, a1, a2, a3, a4, a5, a6] [] lay M P := e_icmp_le rfl rfl
set_option maxRecDepth 20000 in
theorem g196_72 {d : Nat} {a0 a1 a2 a3 a4 a6 : Option Value} {x : Int32} {lay : List mShp} {M : mMem} {P : mPost} : mG (d) 196 72 [a0, a1, a2, a3, a4, some (.int x), a6] [] lay M P = mG d 196 74 [a0, a1, a2, a3, a4, some (.int x), a6] [.int x] lay M P := e_iload (i := 5) rfl rfl
set_option maxRecDepth 20000 in
theorem g196_74 {d : Nat} {a0 a1 a2 a3 a4 a5 a6 : Option Value} {s0 : Int32} {lay : List mShp} {M : mMem} {P : mPost} : mG (d) 196 74 [a0, a1, a2, a3, a4, a5, a6] [.int s0] lay M P = mG d 196 78 [a0, a1, a2, a3, a4, a5, a6] [.int s0] lay M P := e_goto rfl rfl
set_option maxRecDepth 20000 in
theorem g196_77 {d : Nat} {a0 a1 a2 a4 a5 a6 : Option Value} {x : Int32} {lay : List mShp} {M : mMem} {P : mPost} : mG (d) 196 77 [a0, a1, a2, some (.int x), a4, a5, a6] [] lay M P = mG d 196 78 [a0, a1, a2, some (.int x), a4, a5, a6] [.int x] lay M P := e_iload_n (i := 3) rfl rfl rfl
set_option maxRecDepth 20000 in
theorem g196_78 {d : Nat} {a0 a1 a2 a3 a4 a5 a6 : Option Value} {s0 : Int32} {lay : List mShp} {M : mMem} {P : mPost} (h0 : mNoL a2 = true) : mG (d) 196 78 [a0, a1, a2, a3, a4, a5, a6] [.int s0] lay M P = mG d 196 79 [a0, a1, a2, some (.int s0), a4, a5, a6] [] lay M P := e_istore_n (i := 3) rfl rfl (by simp) (mS1_3 h0)
set_option maxRecDepth 20000 in
theorem g196_79 {d : Nat} {a0 a1 a2 a3 a4 a5 : Option Value} {x : Int32} {lay : List mShp} {M : mMem} {P : mPost} : mG (d) 196 79 [a0, a1, a2, a3, a4, a5, some (.int x)] [] lay M P = mG d 196 81 [a0, a1, a2, a3, a4, a5, some (.int x)] [.int x] lay M P := e_iload (i := 6) rfl rfl
set_option maxRecDepth 20000 in
theorem g196_81 {d : Nat} {a0 a1 a2 a3 a5 a6 : Option Value} {s0 : Int32} {x : Int32} {lay : List mShp} {M : mMem} {P : mPost} : mG (d) 196 81 [a0, a1, a2, a3, some (.int x), a5, a6] [.int s0] lay M P = mG d 196 83 [a0, a1, a2, a3, some (.int x), a5, a6] [.int x, .int s0] lay M P := e_iload (i := 4) rfl rfl
set_option maxRecDepth 20000 in
theorem g196_83 {d : Nat} {a0 a1 a2 a3 a4 a5 a6 : Option Value} {s0 : Int32} {s1 : Int32} {lay : List mShp} {M : mMem} {P : mPost} : mG (d) 196 83 [a0, a1, a2, a3, a4, a5, a6] [.int s0, .int s1] lay M P = mG d 196 86 [a0, a1, a2, a3, a4, a5, a6] [.int (if s1 < s0 then s0 else s1)] lay M P := e_max rfl rfl (Nat.le_of_ble_eq_true rfl)
set_option maxRecDepth 20000 in
theorem g196_86 {d : Nat} {a0 a1 a2 a3 a4 a5 a6 : Option Value} {s0 : Int32} {lay : List mShp} {M : mMem} {P : mPost} (h0 : mNoL a3 = true) : mG (d) 196 86 [a0, a1, a2, a3, a4, a5, a6] [.int s0] lay M P = mG d 196 88 [a0, a1, a2, a3, some (.int s0), a5, a6] [] lay M P := e_istore (i := 4) rfl (by simp) (mS1_4 h0)
set_option maxRecDepth 20000 in
theorem g196_88 {d : Nat} {a0 a1 a2 a3 a4 a6 : Option Value} {x : Int32} {lay : List mShp} {M : mMem} {P : mPost} (h0 : mNoL a4 = true) : mG (d) 196 88 [a0, a1, a2, a3, a4, some (.int x), a6] [] lay M P = mG d 196 91 [a0, a1, a2, a3, a4, some (.int (x + Int32.ofInt 1)), a6] [] lay M P := e_iinc (n := 5) rfl rfl (mS1_5 h0)
set_option maxRecDepth 20000 in
theorem g196_91 {d : Nat} {a0 a1 a2 a3 a4 a5 a6 : Option Value} {lay : List mShp} {M : mMem} {P : mPost} : mG (d) 196 91 [a0, a1, a2, a3, a4, a5, a6] [] lay M P = mG d 196 47 [a0, a1, a2, a3, a4, a5, a6] [] lay M P := e_goto rfl rfl
set_option maxRecDepth 20000 in
theorem g196_94 {d : Nat} {a0 a1 a2 a4 a5 a6 : Option Value} {x : Int32} {lay : List mShp} {M : mMem} {P : mPost} : mG (d) 196 94 [a0, a1, a2, some (.int x), a4, a5, a6] [] lay M P = mG d 196 95 [a0, a1, a2, some (.int x), a4, a5, a6] [.int x] lay M P := e_iload_n (i := 3) rfl rfl rfl
set_option maxRecDepth 20000 in
theorem g196_95 {d : Nat} {a0 a1 a2 a3 a4 a5 a6 : Option Value} {s0 : Int32} {lay : List mShp} {M : mMem} {P : mPost} : mG (d) 196 95 [a0, a1, a2, a3, a4, a5, a6] [.int s0] lay M P = P (some (.int s0)) lay M := e_ireturnI rfl rfl
-- 197 X10_isShelf
theorem g197_in {d : Nat} {x0 : Int32} {lay : List mShp} {M : mMem} {P : mPost} : mF d 197 [.int x0] lay M P = mG d 197 0 [some (.int x0)] [] lay M P := mF_in rfl rfl
set_option maxRecDepth 20000 in
theorem g197_0 {d : Nat}  {x : Int32} {lay : List mShp} {M : mMem} {P : mPost} : mG (d) 197 0 [some (.int x)] [] lay M P = mG d 197 1 [some (.int x)] [.int x] lay M P := e_iload_n (i := 0) rfl rfl rfl
set_option maxRecDepth 20000 in
theorem g197_1 {d : Nat} {a0 : Option Value} {s0 : Int32} {lay : List mShp} {M : mMem} {P : mPost} : mG (d) 197 1 [a0] [.int s0] lay M P = mG d 197 2 [a0] [.int (Int32.ofInt 0), .int s0] lay M P := e_iconst rfl
set_option maxRecDepth 20000 in
theorem g197_2 {d : Nat} {a0 : Option Value} {s0 : Int32} {s1 : Int32} {lay : List mShp} {M : mMem} {P : mPost} : mG (d) 197 2 [a0] [.int s0, .int s1] lay M P = mG d 197 3 [a0] [.int (Int32.ofInt 5), .int s0, .int s1] lay M P := e_iconst rfl
set_option maxRecDepth 20000 in
theorem g197_3 {d : Nat} {a0 : Option Value} {s0 : Int32} {s1 : Int32} {s2 : Int32} {lay : List mShp} {M : mMem} {P : mPost} : mG (d + 1) 197 3 [a0] [.int s0, .int s1, .int s2] lay M P = mF d 146 [.int s2, .int s1, .int s0] lay M (fun v lay1 M1 => mG (d + 1) 197 6 [a0] (v.toList ++ []) lay1 M1 P) := e_static3 (j := 146) rfl rfl rfl rfl rfl (Nat.le_of_ble_eq_true rfl)
set_option maxRecDepth 20000 in
theorem g197_6 {d : Nat} {a0 : Option Value} {s0 : Int32} {lay : List mShp} {M : mMem} {P : mPost} : mG (d) 197 6 [a0] [.int s0] lay M P = ((s0 = 0 ∨ s0 = 1) ∧ P (some (.int s0)) lay M) := e_ireturnZ rfl rfl
-- 198 X10_bytesIn
theorem g198_in {d : Nat} {x0 : Nat} {x1 : Int32} {lay : List mShp} {M : mMem} {P : mPost} : mF d 198 [.ref x0, .int x1] lay M P = mG d 198 0 [some (.ref x0), some (.int x1)] [] lay M P := mF_in rfl rfl
set_option maxRecDepth 20000 in
theorem g198_0 {d : Nat} {a1 : Option Value} {x : Nat} {lay : List mShp} {M : mMem} {P : mPost} (hx : ¬ x = 0) : mG (d) 198 0 [some (.ref x), a1] [] lay M P = mG d 198 1 [some (.ref x), a1] [.ref x] lay M P := e_aload_nP hx (i := 0) rfl rfl rfl
set_option maxRecDepth 20000 in
theorem g198_1 {d : Nat} {a0 a1 : Option Value} {s0 : Nat} {lay : List mShp} {M : mMem} {P : mPost} (hs : mSh lay s0 = some (13, 44)) : mG (d) 198 1 [a0, a1] [.ref s0] lay M P = mG d 198 4 [a0, a1] [.ref (M.2.2 s0 28)] lay M P := mG_of_and (mIsO_of hs (by decide)) (e_getA (ci := 10) (j := 28) rfl rfl rfl)
set_option maxRecDepth 20000 in
theorem g198_4 {d : Nat} {a0 : Option Value} {s0 : Nat} {x : Int32} {lay : List mShp} {M : mMem} {P : mPost} : mG (d) 198 4 [a0, some (.int x)] [.ref s0] lay M P = mG d 198 5 [a0, some (.int x)] [.int x, .ref s0] lay M P := e_iload_n (i := 1) rfl rfl rfl
set_option maxRecDepth 20000 in
theorem g198_5 {d : Nat} {a0 a1 : Option Value} {s0 : Int32} {s1 : Nat} {lay : List mShp} {M : mMem} {P : mPost} (hs : mSh lay s1 = some (0, 6)) : mG (d) 198 5 [a0, a1] [.int s0, .ref s1] lay M P = (mIdx s0 6 = true ∧ mG d 198 6 [a0, a1] [.int (M.1 s1 s0.toNatClampNeg)] lay M P) := e_iaload rfl hs
set_option maxRecDepth 20000 in
theorem g198_6 {d : Nat} {a0 a1 : Option Value} {s0 : Int32} {lay : List mShp} {M : mMem} {P : mPost} : mG (d) 198 6 [a0, a1] [.int s0] lay M P = mG d 198 7 [a0, a1] [.int (Int32.ofInt (-1)), .int s0] lay M P := e_iconst rfl
set_option maxRecDepth 20000 in
theorem g198_7 {d : Nat} {a0 a1 : Option Value} {s0 : Int32} {s1 : Int32} {lay : List mShp} {M : mMem} {P : mPost} : mG (d) 198 7 [a0, a1] [.int s0, .int s1] lay M P = if s1 = s0 then mG d 198 10 [a0, a1] [] lay M P else mG d 198 15 [a0, a1] [] lay M P := e_icmp_ne rfl rfl
set_option maxRecDepth 20000 in
theorem g198_10 {d : Nat} {a0 a1 : Option Value} {lay : List mShp} {M : mMem} {P : mPost} : mG (d) 198 10 [a0, a1] [] lay M P = mG d 198 12 [a0, a1] [.int (Int32.ofInt (-11))] lay M P := e_bipush rfl
set_option maxRecDepth 20000 in
theorem g198_12 {d : Nat} {a0 a1 : Option Value} {s0 : Int32} {lay : List mShp} {M : mMem} {P : mPost} : mG (d) 198 12 [a0, a1] [.int s0] lay M P = mG d 198 30 [a0, a1] [.int s0] lay M P := e_goto rfl rfl
set_option maxRecDepth 20000 in
theorem g198_15 {d : Nat} {a1 : Option Value} {x : Nat} {lay : List mShp} {M : mMem} {P : mPost} (hx : ¬ x = 0) : mG (d) 198 15 [some (.ref x), a1] [] lay M P = mG d 198 16 [some (.ref x), a1] [.ref x] lay M P := e_aload_nP hx (i := 0) rfl rfl rfl
set_option maxRecDepth 20000 in
theorem g198_16 {d : Nat} {a0 a1 : Option Value} {s0 : Nat} {lay : List mShp} {M : mMem} {P : mPost} (hs : mSh lay s0 = some (13, 44)) : mG (d) 198 16 [a0, a1] [.ref s0] lay M P = mG d 198 19 [a0, a1] [.ref (M.2.2 s0 28)] lay M P := mG_of_and (mIsO_of hs (by decide)) (e_getA (ci := 10) (j := 28) rfl rfl rfl)
set_option maxRecDepth 20000 in
theorem g198_19 {d : Nat} {a0 : Option Value} {s0 : Nat} {x : Int32} {lay : List mShp} {M : mMem} {P : mPost} : mG (d) 198 19 [a0, some (.int x)] [.ref s0] lay M P = mG d 198 20 [a0, some (.int x)] [.int x, .ref s0] lay M P := e_iload_n (i := 1) rfl rfl rfl
set_option maxRecDepth 20000 in
theorem g198_20 {d : Nat} {a0 a1 : Option Value} {s0 : Int32} {s1 : Nat} {lay : List mShp} {M : mMem} {P : mPost} (hs : mSh lay s1 = some (0, 6)) : mG (d) 198 20 [a0, a1] [.int s0, .ref s1] lay M P = (mIdx s0 6 = true ∧ mG d 198 21 [a0, a1] [.int (M.1 s1 s0.toNatClampNeg)] lay M P) := e_iaload rfl hs
set_option maxRecDepth 20000 in
theorem g198_21 {d : Nat} {a0 a1 : Option Value} {s0 : Int32} {lay : List mShp} {M : mMem} {P : mPost} : mG (d) 198 21 [a0, a1] [.int s0] lay M P = if s0 = 0 then mG d 198 29 [a0, a1] [] lay M P else mG d 198 24 [a0, a1] [] lay M P := e_if_eq rfl rfl
set_option maxRecDepth 20000 in
theorem g198_24 {d : Nat} {a0 a1 : Option Value} {lay : List mShp} {M : mMem} {P : mPost} : mG (d) 198 24 [a0, a1] [] lay M P = mG d 198 26 [a0, a1] [.int (Int32.ofInt (-12))] lay M P := e_bipush rfl
set_option maxRecDepth 20000 in
theorem g198_26 {d : Nat} {a0 a1 : Option Value} {s0 : Int32} {lay : List mShp} {M : mMem} {P : mPost} : mG (d) 198 26 [a0, a1] [.int s0] lay M P = mG d 198 30 [a0, a1] [.int s0] lay M P := e_goto rfl rfl
set_option maxRecDepth 20000 in
theorem g198_29 {d : Nat} {a0 a1 : Option Value} {lay : List mShp} {M : mMem} {P : mPost} : mG (d) 198 29 [a0, a1] [] lay M P = mG d 198 30 [a0, a1] [.int (Int32.ofInt 1)] lay M P := e_iconst rfl
set_option maxRecDepth 20000 in
theorem g198_30 {d : Nat} {a0 a1 : Option Value} {s0 : Int32} {lay : List mShp} {M : mMem} {P : mPost} : mG (d) 198 30 [a0, a1] [.int s0] lay M P = P (some (.int s0)) lay M := e_ireturnI rfl rfl
-- 199 X10_byteAt
theorem g199_in {d : Nat} {x0 : Nat} {x1 : Int32} {x2 : Int32} {lay : List mShp} {M : mMem} {P : mPost} : mF d 199 [.ref x0, .int x1, .int x2] lay M P = mG d 199 0 [some (.ref x0), some (.int x1), some (.int x2)] [] lay M P := mF_in rfl rfl
set_option maxRecDepth 20000 in
theorem g199_0 {d : Nat} {a0 a1 : Option Value} {x : Int32} {lay : List mShp} {M : mMem} {P : mPost} : mG (d) 199 0 [a0, a1, some (.int x)] [] lay M P = mG d 199 1 [a0, a1, some (.int x)] [.int x] lay M P := e_iload_n (i := 2) rfl rfl rfl
set_option maxRecDepth 20000 in
theorem g199_1 {d : Nat} {a1 a2 : Option Value} {s0 : Int32} {x : Nat} {lay : List mShp} {M : mMem} {P : mPost} (hx : ¬ x = 0) : mG (d) 199 1 [some (.ref x), a1, a2] [.int s0] lay M P = mG d 199 2 [some (.ref x), a1, a2] [.ref x, .int s0] lay M P := e_aload_nP hx (i := 0) rfl rfl rfl
set_option maxRecDepth 20000 in
theorem g199_2 {d : Nat} {a0 a1 a2 : Option Value} {s0 : Nat} {s1 : Int32} {lay : List mShp} {M : mMem} {P : mPost} (hs : mSh lay s0 = some (13, 44)) : mG (d) 199 2 [a0, a1, a2] [.ref s0, .int s1] lay M P = mG d 199 5 [a0, a1, a2] [.ref (M.2.2 s0 29), .int s1] lay M P := mG_of_and (mIsO_of hs (by decide)) (e_getA (ci := 10) (j := 29) rfl rfl rfl)
set_option maxRecDepth 20000 in
theorem g199_5 {d : Nat} {a0 a2 : Option Value} {s0 : Nat} {s1 : Int32} {x : Int32} {lay : List mShp} {M : mMem} {P : mPost} : mG (d) 199 5 [a0, some (.int x), a2] [.ref s0, .int s1] lay M P = mG d 199 6 [a0, some (.int x), a2] [.int x, .ref s0, .int s1] lay M P := e_iload_n (i := 1) rfl rfl rfl
set_option maxRecDepth 20000 in
theorem g199_6 {d : Nat} {a0 a1 a2 : Option Value} {s0 : Int32} {s1 : Nat} {s2 : Int32} {lay : List mShp} {M : mMem} {P : mPost} (hs : mSh lay s1 = some (0, 6)) : mG (d) 199 6 [a0, a1, a2] [.int s0, .ref s1, .int s2] lay M P = (mIdx s0 6 = true ∧ mG d 199 7 [a0, a1, a2] [.int (M.1 s1 s0.toNatClampNeg), .int s2] lay M P) := e_iaload rfl hs
set_option maxRecDepth 20000 in
theorem g199_7 {d : Nat} {a0 a1 a2 : Option Value} {s0 : Int32} {s1 : Int32} {lay : List mShp} {M : mMem} {P : mPost} : mG (d) 199 7 [a0, a1, a2] [.int s0, .int s1] lay M P = if s1 < s0 then mG d 199 10 [a0, a1, a2] [] lay M P else mG d 199 25 [a0, a1, a2] [] lay M P := e_icmp_ge rfl rfl
set_option maxRecDepth 20000 in
theorem g199_10 {d : Nat} {a1 a2 : Option Value} {x : Nat} {lay : List mShp} {M : mMem} {P : mPost} (hx : ¬ x = 0) : mG (d) 199 10 [some (.ref x), a1, a2] [] lay M P = mG d 199 11 [some (.ref x), a1, a2] [.ref x] lay M P := e_aload_nP hx (i := 0) rfl rfl rfl
set_option maxRecDepth 20000 in
theorem g199_11 {d : Nat} {a0 a1 a2 : Option Value} {s0 : Nat} {lay : List mShp} {M : mMem} {P : mPost} (hs : mSh lay s0 = some (13, 44)) : mG (d) 199 11 [a0, a1, a2] [.ref s0] lay M P = mG d 199 14 [a0, a1, a2] [.ref (M.2.2 s0 30)] lay M P := mG_of_and (mIsO_of hs (by decide)) (e_getA (ci := 10) (j := 30) rfl rfl rfl)
set_option maxRecDepth 20000 in
theorem g199_14 {d : Nat} {a0 a1 a2 : Option Value} {s0 : Nat} {lay : List mShp} {M : mMem} {P : mPost} : mG (d) 199 14 [a0, a1, a2] [.ref s0] lay M P = mG d 199 16 [a0, a1, a2] [.int (Int32.ofInt 60), .ref s0] lay M P := e_bipush rfl
set_option maxRecDepth 20000 in
theorem g199_16 {d : Nat} {a0 a2 : Option Value} {s0 : Int32} {s1 : Nat} {x : Int32} {lay : List mShp} {M : mMem} {P : mPost} : mG (d) 199 16 [a0, some (.int x), a2] [.int s0, .ref s1] lay M P = mG d 199 17 [a0, some (.int x), a2] [.int x, .int s0, .ref s1] lay M P := e_iload_n (i := 1) rfl rfl rfl
set_option maxRecDepth 20000 in
theorem g199_17 {d : Nat} {a0 a1 a2 : Option Value} {s0 : Int32} {s1 : Int32} {s2 : Nat} {lay : List mShp} {M : mMem} {P : mPost} : mG (d) 199 17 [a0, a1, a2] [.int s0, .int s1, .ref s2] lay M P = mG d 199 18 [a0, a1, a2] [.int (s1 * s0), .ref s2] lay M P := e_imul rfl
set_option maxRecDepth 20000 in
theorem g199_18 {d : Nat} {a0 a1 : Option Value} {s0 : Int32} {s1 : Nat} {x : Int32} {lay : List mShp} {M : mMem} {P : mPost} : mG (d) 199 18 [a0, a1, some (.int x)] [.int s0, .ref s1] lay M P = mG d 199 19 [a0, a1, some (.int x)] [.int x, .int s0, .ref s1] lay M P := e_iload_n (i := 2) rfl rfl rfl
set_option maxRecDepth 20000 in
theorem g199_19 {d : Nat} {a0 a1 a2 : Option Value} {s0 : Int32} {s1 : Int32} {s2 : Nat} {lay : List mShp} {M : mMem} {P : mPost} : mG (d) 199 19 [a0, a1, a2] [.int s0, .int s1, .ref s2] lay M P = mG d 199 20 [a0, a1, a2] [.int (s1 + s0), .ref s2] lay M P := e_iadd rfl
set_option maxRecDepth 20000 in
theorem g199_20 {d : Nat} {a0 a1 a2 : Option Value} {s0 : Int32} {s1 : Nat} {lay : List mShp} {M : mMem} {P : mPost} (hs : mSh lay s1 = some (1, 360)) : mG (d) 199 20 [a0, a1, a2] [.int s0, .ref s1] lay M P = (mIdx s0 360 = true ∧ mG d 199 21 [a0, a1, a2] [.long (M.2.1 s1 s0.toNatClampNeg)] lay M P) := e_laload rfl hs
set_option maxRecDepth 20000 in
theorem g199_21 {d : Nat} {a0 a1 a2 : Option Value} {s0 : Int64} {lay : List mShp} {M : mMem} {P : mPost} : mG (d) 199 21 [a0, a1, a2] [.long s0] lay M P = mG d 199 22 [a0, a1, a2] [.int s0.toInt32] lay M P := e_l2i rfl
set_option maxRecDepth 20000 in
theorem g199_22 {d : Nat} {a0 a1 a2 : Option Value} {s0 : Int32} {lay : List mShp} {M : mMem} {P : mPost} : mG (d) 199 22 [a0, a1, a2] [.int s0] lay M P = mG d 199 26 [a0, a1, a2] [.int s0] lay M P := e_goto rfl rfl
set_option maxRecDepth 20000 in
theorem g199_25 {d : Nat} {a0 a1 a2 : Option Value} {lay : List mShp} {M : mMem} {P : mPost} : mG (d) 199 25 [a0, a1, a2] [] lay M P = mG d 199 26 [a0, a1, a2] [.int (Int32.ofInt (-1))] lay M P := e_iconst rfl
set_option maxRecDepth 20000 in
theorem g199_26 {d : Nat} {a0 a1 a2 : Option Value} {s0 : Int32} {lay : List mShp} {M : mMem} {P : mPost} : mG (d) 199 26 [a0, a1, a2] [.int s0] lay M P = P (some (.int s0)) lay M := e_ireturnI rfl rfl
-- 200 X10_people
theorem g200_in {d : Nat} {x0 : Nat} {x1 : Int32} {x2 : Int32} {x3 : Int32} {lay : List mShp} {M : mMem} {P : mPost} : mF d 200 [.ref x0, .int x1, .int x2, .int x3] lay M P = mG d 200 0 [some (.ref x0), some (.int x1), some (.int x2), some (.int x3), none, none, none, none, none, none, none] [] lay M P := mF_in rfl rfl
set_option maxRecDepth 20000 in
theorem g200_0 {d : Nat} {a0 a2 a3 a4 a5 a6 a7 a8 a9 a10 : Option Value} {x : Int32} {lay : List mShp} {M : mMem} {P : mPost} : mG (d) 200 0 [a0, some (.int x), a2, a3, a4, a5, a6, a7, a8, a9, a10] [] lay M P = mG d 200 1 [a0, some (.int x), a2, a3, a4, a5, a6, a7, a8, a9, a10] [.int x] lay M P := e_iload_n (i := 1) rfl rfl rfl
set_option maxRecDepth 20000 in
theorem g200_1 {d : Nat} {a0 a1 a2 a3 a4 a5 a6 a7 a8 a9 a10 : Option Value} {s0 : Int32} {lay : List mShp} {M : mMem} {P : mPost} : mG (d + 1) 200 1 [a0, a1, a2, a3, a4, a5, a6, a7, a8, a9, a10] [.int s0] lay M P = mF d 197 [.int s0] lay M (fun v lay1 M1 => mG (d + 1) 200 4 [a0, a1, a2, a3, a4, a5, a6, a7, a8, a9, a10] (v.toList ++ []) lay1 M1 P) := e_static1 (j := 197) rfl rfl rfl rfl rfl (Nat.le_of_ble_eq_true rfl)
set_option maxRecDepth 20000 in
theorem g200_4 {d : Nat} {a0 a1 a2 a3 a4 a5 a6 a7 a8 a9 a10 : Option Value} {s0 : Int32} {lay : List mShp} {M : mMem} {P : mPost} : mG (d) 200 4 [a0, a1, a2, a3, a4, a5, a6, a7, a8, a9, a10] [.int s0] lay M P = if s0 = 0 then mG d 200 17 [a0, a1, a2, a3, a4, a5, a6, a7, a8, a9, a10] [] lay M P else mG d 200 7 [a0, a1, a2, a3, a4, a5, a6, a7, a8, a9, a10] [] lay M P := e_if_eq rfl rfl
set_option maxRecDepth 20000 in
theorem g200_7 {d : Nat} {a0 a1 a2 a4 a5 a6 a7 a8 a9 a10 : Option Value} {x : Int32} {lay : List mShp} {M : mMem} {P : mPost} : mG (d) 200 7 [a0, a1, a2, some (.int x), a4, a5, a6, a7, a8, a9, a10] [] lay M P = mG d 200 8 [a0, a1, a2, some (.int x), a4, a5, a6, a7, a8, a9, a10] [.int x] lay M P := e_iload_n (i := 3) rfl rfl rfl
set_option maxRecDepth 20000 in
theorem g200_8 {d : Nat} {a0 a1 a2 a3 a4 a5 a6 a7 a8 a9 a10 : Option Value} {s0 : Int32} {lay : List mShp} {M : mMem} {P : mPost} : mG (d) 200 8 [a0, a1, a2, a3, a4, a5, a6, a7, a8, a9, a10] [.int s0] lay M P = mG d 200 9 [a0, a1, a2, a3, a4, a5, a6, a7, a8, a9, a10] [.int (Int32.ofInt 1), .int s0] lay M P := e_iconst rfl
set_option maxRecDepth 20000 in
theorem g200_9 {d : Nat} {a0 a1 a2 a3 a4 a5 a6 a7 a8 a9 a10 : Option Value} {s0 : Int32} {s1 : Int32} {lay : List mShp} {M : mMem} {P : mPost} : mG (d) 200 9 [a0, a1, a2, a3, a4, a5, a6, a7, a8, a9, a10] [.int s0, .int s1] lay M P = mG d 200 11 [a0, a1, a2, a3, a4, a5, a6, a7, a8, a9, a10] [.int (Int32.ofInt 8), .int s0, .int s1] lay M P := e_bipush rfl
set_option maxRecDepth 20000 in
theorem g200_11 {d : Nat} {a0 a1 a2 a3 a4 a5 a6 a7 a8 a9 a10 : Option Value} {s0 : Int32} {s1 : Int32} {s2 : Int32} {lay : List mShp} {M : mMem} {P : mPost} : mG (d + 1) 200 11 [a0, a1, a2, a3, a4, a5, a6, a7, a8, a9, a10] [.int s0, .int s1, .int s2] lay M P = mF d 146 [.int s2, .int s1, .int s0] lay M (fun v lay1 M1 => mG (d + 1) 200 14 [a0, a1, a2, a3, a4, a5, a6, a7, a8, a9, a10] (v.toList ++ []) lay1 M1 P) := e_static3 (j := 146) rfl rfl rfl rfl rfl (Nat.le_of_ble_eq_true rfl)
set_option maxRecDepth 20000 in
theorem g200_14 {d : Nat} {a0 a1 a2 a3 a4 a5 a6 a7 a8 a9 a10 : Option Value} {s0 : Int32} {lay : List mShp} {M : mMem} {P : mPost} : mG (d) 200 14 [a0, a1, a2, a3, a4, a5, a6, a7, a8, a9, a10] [.int s0] lay M P = if s0 = 0 then mG d 200 17 [a0, a1, a2, a3, a4, a5, a6, a7, a8, a9, a10] [] lay M P else mG d 200 19 [a0, a1, a2, a3, a4, a5, a6, a7, a8, a9, a10] [] lay M P := e_if_ne rfl rfl
set_option maxRecDepth 20000 in
theorem g200_17 {d : Nat} {a0 a1 a2 a3 a4 a5 a6 a7 a8 a9 a10 : Option Value} {lay : List mShp} {M : mMem} {P : mPost} : mG (d) 200 17 [a0, a1, a2, a3, a4, a5, a6, a7, a8, a9, a10] [] lay M P = mG d 200 18 [a0, a1, a2, a3, a4, a5, a6, a7, a8, a9, a10] [.int (Int32.ofInt (-1))] lay M P := e_iconst rfl
set_option maxRecDepth 20000 in
theorem g200_18 {d : Nat} {a0 a1 a2 a3 a4 a5 a6 a7 a8 a9 a10 : Option Value} {s0 : Int32} {lay : List mShp} {M : mMem} {P : mPost} : mG (d) 200 18 [a0, a1, a2, a3, a4, a5, a6, a7, a8, a9, a10] [.int s0] lay M P = P (some (.int s0)) lay M := e_ireturnI rfl rfl
set_option maxRecDepth 20000 in
theorem g200_19 {d : Nat} {a1 a2 a3 a4 a5 a6 a7 a8 a9 a10 : Option Value} {x : Nat} {lay : List mShp} {M : mMem} {P : mPost} (hx : ¬ x = 0) : mG (d) 200 19 [some (.ref x), a1, a2, a3, a4, a5, a6, a7, a8, a9, a10] [] lay M P = mG d 200 20 [some (.ref x), a1, a2, a3, a4, a5, a6, a7, a8, a9, a10] [.ref x] lay M P := e_aload_nP hx (i := 0) rfl rfl rfl
set_option maxRecDepth 20000 in
theorem g200_20 {d : Nat} {a0 a1 a2 a3 a4 a5 a6 a7 a8 a9 a10 : Option Value} {s0 : Nat} {lay : List mShp} {M : mMem} {P : mPost} (hs : mSh lay s0 = some (13, 44)) : mG (d) 200 20 [a0, a1, a2, a3, a4, a5, a6, a7, a8, a9, a10] [.ref s0] lay M P = mG d 200 23 [a0, a1, a2, a3, a4, a5, a6, a7, a8, a9, a10] [.ref (M.2.2 s0 28)] lay M P := mG_of_and (mIsO_of hs (by decide)) (e_getA (ci := 10) (j := 28) rfl rfl rfl)
set_option maxRecDepth 20000 in
theorem g200_23 {d : Nat} {a0 a2 a3 a4 a5 a6 a7 a8 a9 a10 : Option Value} {s0 : Nat} {x : Int32} {lay : List mShp} {M : mMem} {P : mPost} : mG (d) 200 23 [a0, some (.int x), a2, a3, a4, a5, a6, a7, a8, a9, a10] [.ref s0] lay M P = mG d 200 24 [a0, some (.int x), a2, a3, a4, a5, a6, a7, a8, a9, a10] [.int x, .ref s0] lay M P := e_iload_n (i := 1) rfl rfl rfl
set_option maxRecDepth 20000 in
theorem g200_24 {d : Nat} {a0 a1 a2 a3 a4 a5 a6 a7 a8 a9 a10 : Option Value} {s0 : Int32} {s1 : Nat} {lay : List mShp} {M : mMem} {P : mPost} (hs : mSh lay s1 = some (0, 6)) : mG (d) 200 24 [a0, a1, a2, a3, a4, a5, a6, a7, a8, a9, a10] [.int s0, .ref s1] lay M P = (mIdx s0 6 = true ∧ mG d 200 25 [a0, a1, a2, a3, a4, a5, a6, a7, a8, a9, a10] [.int (M.1 s1 s0.toNatClampNeg)] lay M P) := e_iaload rfl hs
set_option maxRecDepth 20000 in
theorem g200_25 {d : Nat} {a0 a1 a2 a3 a4 a5 a6 a7 a8 a9 a10 : Option Value} {s0 : Int32} {lay : List mShp} {M : mMem} {P : mPost} : mG (d) 200 25 [a0, a1, a2, a3, a4, a5, a6, a7, a8, a9, a10] [.int s0] lay M P = if 0 < s0 then mG d 200 28 [a0, a1, a2, a3, a4, a5, a6, a7, a8, a9, a10] [] lay M P else mG d 200 31 [a0, a1, a2, a3, a4, a5, a6, a7, a8, a9, a10] [] lay M P := e_if_le rfl rfl
set_option maxRecDepth 20000 in
theorem g200_28 {d : Nat} {a0 a1 a2 a3 a4 a5 a6 a7 a8 a9 a10 : Option Value} {lay : List mShp} {M : mMem} {P : mPost} : mG (d) 200 28 [a0, a1, a2, a3, a4, a5, a6, a7, a8, a9, a10] [] lay M P = mG d 200 30 [a0, a1, a2, a3, a4, a5, a6, a7, a8, a9, a10] [.int (Int32.ofInt (-12))] lay M P := e_bipush rfl
set_option maxRecDepth 20000 in
theorem g200_30 {d : Nat} {a0 a1 a2 a3 a4 a5 a6 a7 a8 a9 a10 : Option Value} {s0 : Int32} {lay : List mShp} {M : mMem} {P : mPost} : mG (d) 200 30 [a0, a1, a2, a3, a4, a5, a6, a7, a8, a9, a10] [.int s0] lay M P = P (some (.int s0)) lay M := e_ireturnI rfl rfl
set_option maxRecDepth 20000 in
theorem g200_31 {d : Nat} {a0 a1 a2 a3 a4 a5 a6 a7 a8 a9 a10 : Option Value} {lay : List mShp} {M : mMem} {P : mPost} : mG (d) 200 31 [a0, a1, a2, a3, a4, a5, a6, a7, a8, a9, a10] [] lay M P = mG d 200 32 [a0, a1, a2, a3, a4, a5, a6, a7, a8, a9, a10] [.int (Int32.ofInt 0)] lay M P := e_iconst rfl
set_option maxRecDepth 20000 in
theorem g200_32 {d : Nat} {a0 a1 a2 a3 a4 a5 a6 a7 a8 a9 a10 : Option Value} {s0 : Int32} {lay : List mShp} {M : mMem} {P : mPost} (h0 : mNoL a3 = true) : mG (d) 200 32 [a0, a1, a2, a3, a4, a5, a6, a7, a8, a9, a10] [.int s0] lay M P = mG d 200 34 [a0, a1, a2, a3, some (.int s0), a5, a6, a7, a8, a9, a10] [] lay M P := e_istore (i := 4) rfl (by simp) (mS1_4 h0)
set_option maxRecDepth 20000 in
theorem g200_34 {d : Nat} {a0 a1 a2 a3 a4 a5 a6 a7 a8 a9 a10 : Option Value} {lay : List mShp} {M : mMem} {P : mPost} : mG (d) 200 34 [a0, a1, a2, a3, a4, a5, a6, a7, a8, a9, a10] [] lay M P = mG d 200 35 [a0, a1, a2, a3, a4, a5, a6, a7, a8, a9, a10] [.int (Int32.ofInt 0)] lay M P := e_iconst rfl
set_option maxRecDepth 20000 in
theorem g200_35 {d : Nat} {a0 a1 a2 a3 a4 a5 a6 a7 a8 a9 a10 : Option Value} {s0 : Int32} {lay : List mShp} {M : mMem} {P : mPost} (h0 : mNoL a4 = true) : mG (d) 200 35 [a0, a1, a2, a3, a4, a5, a6, a7, a8, a9, a10] [.int s0] lay M P = mG d 200 37 [a0, a1, a2, a3, a4, some (.int s0), a6, a7, a8, a9, a10] [] lay M P := e_istore (i := 5) rfl (by simp) (mS1_5 h0)
set_option maxRecDepth 20000 in
theorem g200_37 {d : Nat} {a0 a1 a2 a3 a4 a6 a7 a8 a9 a10 : Option Value} {x : Int32} {lay : List mShp} {M : mMem} {P : mPost} : mG (d) 200 37 [a0, a1, a2, a3, a4, some (.int x), a6, a7, a8, a9, a10] [] lay M P = mG d 200 39 [a0, a1, a2, a3, a4, some (.int x), a6, a7, a8, a9, a10] [.int x] lay M P := e_iload (i := 5) rfl rfl
set_option maxRecDepth 20000 in
theorem g200_39 {d : Nat} {a0 a1 a2 a4 a5 a6 a7 a8 a9 a10 : Option Value} {s0 : Int32} {x : Int32} {lay : List mShp} {M : mMem} {P : mPost} : mG (d) 200 39 [a0, a1, a2, some (.int x), a4, a5, a6, a7, a8, a9, a10] [.int s0] lay M P = mG d 200 40 [a0, a1, a2, some (.int x), a4, a5, a6, a7, a8, a9, a10] [.int x, .int s0] lay M P := e_iload_n (i := 3) rfl rfl rfl
set_option maxRecDepth 20000 in
theorem g200_40 {d : Nat} {a0 a1 a2 a3 a4 a5 a6 a7 a8 a9 a10 : Option Value} {s0 : Int32} {s1 : Int32} {lay : List mShp} {M : mMem} {P : mPost} : mG (d) 200 40 [a0, a1, a2, a3, a4, a5, a6, a7, a8, a9, a10] [.int s0, .int s1] lay M P = if s1 < s0 then mG d 200 43 [a0, a1, a2, a3, a4, a5, a6, a7, a8, a9, a10] [] lay M P else mG d 200 188 [a0, a1, a2, a3, a4, a5, a6, a7, a8, a9, a10] [] lay M P := e_icmp_ge rfl rfl
set_option maxRecDepth 20000 in
theorem g200_43 {d : Nat} {a0 a1 a2 a3 a5 a6 a7 a8 a9 a10 : Option Value} {x : Int32} {lay : List mShp} {M : mMem} {P : mPost} : mG (d) 200 43 [a0, a1, a2, a3, some (.int x), a5, a6, a7, a8, a9, a10] [] lay M P = mG d 200 45 [a0, a1, a2, a3, some (.int x), a5, a6, a7, a8, a9, a10] [.int x] lay M P := e_iload (i := 4) rfl rfl
set_option maxRecDepth 20000 in
theorem g200_45 {d : Nat} {a0 a1 a2 a3 a4 a6 a7 a8 a9 a10 : Option Value} {s0 : Int32} {x : Int32} {lay : List mShp} {M : mMem} {P : mPost} : mG (d) 200 45 [a0, a1, a2, a3, a4, some (.int x), a6, a7, a8, a9, a10] [.int s0] lay M P = mG d 200 47 [a0, a1, a2, a3, a4, some (.int x), a6, a7, a8, a9, a10] [.int x, .int s0] lay M P := e_iload (i := 5) rfl rfl
set_option maxRecDepth 20000 in
theorem g200_47 {d : Nat} {a0 a1 a2 a3 a4 a5 a6 a7 a8 a9 a10 : Option Value} {s0 : Int32} {s1 : Int32} {lay : List mShp} {M : mMem} {P : mPost} : mG (d) 200 47 [a0, a1, a2, a3, a4, a5, a6, a7, a8, a9, a10] [.int s0, .int s1] lay M P = if s1 = s0 then mG d 200 50 [a0, a1, a2, a3, a4, a5, a6, a7, a8, a9, a10] [] lay M P else mG d 200 188 [a0, a1, a2, a3, a4, a5, a6, a7, a8, a9, a10] [] lay M P := e_icmp_ne rfl rfl
set_option maxRecDepth 20000 in
theorem g200_50 {d : Nat} {a1 a2 a3 a4 a5 a6 a7 a8 a9 a10 : Option Value} {x : Nat} {lay : List mShp} {M : mMem} {P : mPost} (hx : ¬ x = 0) : mG (d) 200 50 [some (.ref x), a1, a2, a3, a4, a5, a6, a7, a8, a9, a10] [] lay M P = mG d 200 51 [some (.ref x), a1, a2, a3, a4, a5, a6, a7, a8, a9, a10] [.ref x] lay M P := e_aload_nP hx (i := 0) rfl rfl rfl
set_option maxRecDepth 20000 in
theorem g200_51 {d : Nat} {a0 a1 a2 a3 a4 a5 a6 a7 a8 a9 a10 : Option Value} {s0 : Nat} {lay : List mShp} {M : mMem} {P : mPost} (hs : mSh lay s0 = some (13, 44)) : mG (d) 200 51 [a0, a1, a2, a3, a4, a5, a6, a7, a8, a9, a10] [.ref s0] lay M P = mG d 200 54 [a0, a1, a2, a3, a4, a5, a6, a7, a8, a9, a10] [.int (M.1 s0 2)] lay M P := mG_of_and (mIsO_of hs (by decide)) (e_getI (ci := 10) (j := 2) rfl rfl rfl)
set_option maxRecDepth 20000 in
theorem g200_54 {d : Nat} {a0 a1 a2 a3 a4 a5 a6 a7 a8 a9 a10 : Option Value} {s0 : Int32} {lay : List mShp} {M : mMem} {P : mPost} : mG (d) 200 54 [a0, a1, a2, a3, a4, a5, a6, a7, a8, a9, a10] [.int s0] lay M P = mG d 200 56 [a0, a1, a2, a3, a4, a5, a6, a7, a8, a9, a10] [.int (Int32.ofInt 8), .int s0] lay M P := e_bipush rfl
set_option maxRecDepth 20000 in
theorem g200_56 {d : Nat} {a0 a1 a2 a3 a4 a5 a6 a7 a8 a9 a10 : Option Value} {s0 : Int32} {s1 : Int32} {lay : List mShp} {M : mMem} {P : mPost} : mG (d) 200 56 [a0, a1, a2, a3, a4, a5, a6, a7, a8, a9, a10] [.int s0, .int s1] lay M P = if s1 < s0 then mG d 200 59 [a0, a1, a2, a3, a4, a5, a6, a7, a8, a9, a10] [] lay M P else mG d 200 188 [a0, a1, a2, a3, a4, a5, a6, a7, a8, a9, a10] [] lay M P := e_icmp_ge rfl rfl
set_option maxRecDepth 20000 in
theorem g200_59 {d : Nat} {a0 a1 a3 a4 a5 a6 a7 a8 a9 a10 : Option Value} {x : Int32} {lay : List mShp} {M : mMem} {P : mPost} : mG (d) 200 59 [a0, a1, some (.int x), a3, a4, a5, a6, a7, a8, a9, a10] [] lay M P = mG d 200 60 [a0, a1, some (.int x), a3, a4, a5, a6, a7, a8, a9, a10] [.int x] lay M P := e_iload_n (i := 2) rfl rfl rfl
set_option maxRecDepth 20000 in
theorem g200_60 {d : Nat} {a0 a1 a2 a3 a4 a5 a6 a7 a8 a9 a10 : Option Value} {s0 : Int32} {lay : List mShp} {M : mMem} {P : mPost} : mG (d) 200 60 [a0, a1, a2, a3, a4, a5, a6, a7, a8, a9, a10] [.int s0] lay M P = mG d 200 61 [a0, a1, a2, a3, a4, a5, a6, a7, a8, a9, a10] [.long s0.toInt64] lay M P := e_i2l rfl
set_option maxRecDepth 20000 in
theorem g200_61 {d : Nat} {a0 a1 a2 a3 a4 a5 a6 a7 a8 a9 a10 : Option Value} {s0 : Int64} {lay : List mShp} {M : mMem} {P : mPost} : mG (d) 200 61 [a0, a1, a2, a3, a4, a5, a6, a7, a8, a9, a10] [.long s0] lay M P = mG d 200 64 [a0, a1, a2, a3, a4, a5, a6, a7, a8, a9, a10] [.long (Int64.ofInt 3), .long s0] lay M P := e_ldc2_w rfl rfl
set_option maxRecDepth 20000 in
theorem g200_64 {d : Nat} {a0 a1 a2 a3 a4 a6 a7 a8 a9 a10 : Option Value} {s0 : Int64} {s1 : Int64} {x : Int32} {lay : List mShp} {M : mMem} {P : mPost} : mG (d) 200 64 [a0, a1, a2, a3, a4, some (.int x), a6, a7, a8, a9, a10] [.long s0, .long s1] lay M P = mG d 200 66 [a0, a1, a2, a3, a4, some (.int x), a6, a7, a8, a9, a10] [.int x, .long s0, .long s1] lay M P := e_iload (i := 5) rfl rfl
set_option maxRecDepth 20000 in
theorem g200_66 {d : Nat} {a0 a1 a2 a3 a4 a5 a6 a7 a8 a9 a10 : Option Value} {s0 : Int32} {s1 : Int64} {s2 : Int64} {lay : List mShp} {M : mMem} {P : mPost} : mG (d) 200 66 [a0, a1, a2, a3, a4, a5, a6, a7, a8, a9, a10] [.int s0, .long s1, .long s2] lay M P = mG d 200 67 [a0, a1, a2, a3, a4, a5, a6, a7, a8, a9, a10] [.long s0.toInt64, .long s1, .long s2] lay M P := e_i2l rfl
set_option maxRecDepth 20000 in
theorem g200_67 {d : Nat} {a0 a1 a2 a3 a4 a5 a6 a7 a8 a9 a10 : Option Value} {s0 : Int64} {s1 : Int64} {s2 : Int64} {lay : List mShp} {M : mMem} {P : mPost} : mG (d) 200 67 [a0, a1, a2, a3, a4, a5, a6, a7, a8, a9, a10] [.long s0, .long s1, .long s2] lay M P = mG d 200 68 [a0, a1, a2, a3, a4, a5, a6, a7, a8, a9, a10] [.long (s1 * s0), .long s2] lay M P := e_lmul rfl
set_option maxRecDepth 20000 in
theorem g200_68 {d : Nat} {a0 a1 a2 a3 a4 a5 a6 a7 a8 a9 a10 : Option Value} {s0 : Int64} {s1 : Int64} {lay : List mShp} {M : mMem} {P : mPost} : mG (d) 200 68 [a0, a1, a2, a3, a4, a5, a6, a7, a8, a9, a10] [.long s0, .long s1] lay M P = mG d 200 69 [a0, a1, a2, a3, a4, a5, a6, a7, a8, a9, a10] [.long (s1 + s0)] lay M P := e_ladd rfl
set_option maxRecDepth 20000 in
theorem g200_69 {d : Nat} {a0 a1 a2 a3 a4 a5 a6 a7 a8 a9 a10 : Option Value} {s0 : Int64} {lay : List mShp} {M : mMem} {P : mPost} (h0 : mNoL a5 = true) : mG (d) 200 69 [a0, a1, a2, a3, a4, a5, a6, a7, a8, a9, a10] [.long s0] lay M P = mG d 200 71 [a0, a1, a2, a3, a4, a5, some (.long s0), none, a8, a9, a10] [] lay M P := e_lstore (i := 6) rfl (by simp) (mS2_6 h0)
set_option maxRecDepth 20000 in
theorem g200_71 {d : Nat} {a1 a2 a3 a4 a5 a6 a7 a8 a9 a10 : Option Value} {x : Nat} {lay : List mShp} {M : mMem} {P : mPost} (hx : ¬ x = 0) : mG (d) 200 71 [some (.ref x), a1, a2, a3, a4, a5, a6, a7, a8, a9, a10] [] lay M P = mG d 200 72 [some (.ref x), a1, a2, a3, a4, a5, a6, a7, a8, a9, a10] [.ref x] lay M P := e_aload_nP hx (i := 0) rfl rfl rfl
set_option maxRecDepth 20000 in
theorem g200_72 {d : Nat} {a0 a1 a2 a3 a4 a5 a6 a7 a8 a9 a10 : Option Value} {s0 : Nat} {lay : List mShp} {M : mMem} {P : mPost} (hs : mSh lay s0 = some (13, 44)) : mG (d) 200 72 [a0, a1, a2, a3, a4, a5, a6, a7, a8, a9, a10] [.ref s0] lay M P = mG d 200 75 [a0, a1, a2, a3, a4, a5, a6, a7, a8, a9, a10] [.ref (M.2.2 s0 28)] lay M P := mG_of_and (mIsO_of hs (by decide)) (e_getA (ci := 10) (j := 28) rfl rfl rfl)
set_option maxRecDepth 20000 in
theorem g200_75 {d : Nat} {a0 a2 a3 a4 a5 a6 a7 a8 a9 a10 : Option Value} {s0 : Nat} {x : Int32} {lay : List mShp} {M : mMem} {P : mPost} : mG (d) 200 75 [a0, some (.int x), a2, a3, a4, a5, a6, a7, a8, a9, a10] [.ref s0] lay M P = mG d 200 76 [a0, some (.int x), a2, a3, a4, a5, a6, a7, a8, a9, a10] [.int x, .ref s0] lay M P := e_iload_n (i := 1) rfl rfl rfl
set_option maxRecDepth 20000 in
theorem g200_76 {d : Nat} {a0 a1 a2 a3 a4 a5 a6 a7 a8 a9 a10 : Option Value} {s0 : Int32} {s1 : Nat} {lay : List mShp} {M : mMem} {P : mPost} (hs : mSh lay s1 = some (0, 6)) : mG (d) 200 76 [a0, a1, a2, a3, a4, a5, a6, a7, a8, a9, a10] [.int s0, .ref s1] lay M P = (mIdx s0 6 = true ∧ mG d 200 77 [a0, a1, a2, a3, a4, a5, a6, a7, a8, a9, a10] [.int (M.1 s1 s0.toNatClampNeg)] lay M P) := e_iaload rfl hs
set_option maxRecDepth 20000 in
theorem g200_77 {d : Nat} {a0 a1 a2 a3 a4 a5 a6 a7 a8 a9 a10 : Option Value} {s0 : Int32} {lay : List mShp} {M : mMem} {P : mPost} : mG (d) 200 77 [a0, a1, a2, a3, a4, a5, a6, a7, a8, a9, a10] [.int s0] lay M P = if s0 = 0 then mG d 200 80 [a0, a1, a2, a3, a4, a5, a6, a7, a8, a9, a10] [] lay M P else mG d 200 182 [a0, a1, a2, a3, a4, a5, a6, a7, a8, a9, a10] [] lay M P := e_if_ne rfl rfl
set_option maxRecDepth 20000 in
theorem g200_80 {d : Nat} {a0 a1 a3 a4 a5 a6 a7 a8 a9 a10 : Option Value} {x : Int32} {lay : List mShp} {M : mMem} {P : mPost} : mG (d) 200 80 [a0, a1, some (.int x), a3, a4, a5, a6, a7, a8, a9, a10] [] lay M P = mG d 200 81 [a0, a1, some (.int x), a3, a4, a5, a6, a7, a8, a9, a10] [.int x] lay M P := e_iload_n (i := 2) rfl rfl rfl
set_option maxRecDepth 20000 in
theorem g200_81 {d : Nat} {a0 a1 a2 a3 a4 a5 a6 a7 a8 a9 a10 : Option Value} {s0 : Int32} {lay : List mShp} {M : mMem} {P : mPost} : mG (d) 200 81 [a0, a1, a2, a3, a4, a5, a6, a7, a8, a9, a10] [.int s0] lay M P = if s0 < 0 then mG d 200 182 [a0, a1, a2, a3, a4, a5, a6, a7, a8, a9, a10] [] lay M P else mG d 200 84 [a0, a1, a2, a3, a4, a5, a6, a7, a8, a9, a10] [] lay M P := e_if_lt rfl rfl
set_option maxRecDepth 20000 in
theorem g200_84 {d : Nat} {a0 a1 a2 a3 a4 a5 a7 a8 a9 a10 : Option Value} {x : Int64} {lay : List mShp} {M : mMem} {P : mPost} : mG (d) 200 84 [a0, a1, a2, a3, a4, a5, some (.long x), a7, a8, a9, a10] [] lay M P = mG d 200 86 [a0, a1, a2, a3, a4, a5, some (.long x), a7, a8, a9, a10] [.long x] lay M P := e_lload (i := 6) rfl rfl
set_option maxRecDepth 20000 in
theorem g200_86 {d : Nat} {a0 a1 a2 a3 a4 a5 a6 a7 a8 a9 a10 : Option Value} {s0 : Int64} {lay : List mShp} {M : mMem} {P : mPost} : mG (d) 200 86 [a0, a1, a2, a3, a4, a5, a6, a7, a8, a9, a10] [.long s0] lay M P = mG d 200 89 [a0, a1, a2, a3, a4, a5, a6, a7, a8, a9, a10] [.long (Int64.ofInt 2), .long s0] lay M P := e_ldc2_w rfl rfl
set_option maxRecDepth 20000 in
theorem g200_89 {d : Nat} {a0 a1 a2 a3 a4 a5 a6 a7 a8 a9 a10 : Option Value} {s0 : Int64} {s1 : Int64} {lay : List mShp} {M : mMem} {P : mPost} : mG (d) 200 89 [a0, a1, a2, a3, a4, a5, a6, a7, a8, a9, a10] [.long s0, .long s1] lay M P = mG d 200 90 [a0, a1, a2, a3, a4, a5, a6, a7, a8, a9, a10] [.long (s1 + s0)] lay M P := e_ladd rfl
set_option maxRecDepth 20000 in
theorem g200_90 {d : Nat} {a1 a2 a3 a4 a5 a6 a7 a8 a9 a10 : Option Value} {s0 : Int64} {x : Nat} {lay : List mShp} {M : mMem} {P : mPost} (hx : ¬ x = 0) : mG (d) 200 90 [some (.ref x), a1, a2, a3, a4, a5, a6, a7, a8, a9, a10] [.long s0] lay M P = mG d 200 91 [some (.ref x), a1, a2, a3, a4, a5, a6, a7, a8, a9, a10] [.ref x, .long s0] lay M P := e_aload_nP hx (i := 0) rfl rfl rfl
set_option maxRecDepth 20000 in
theorem g200_91 {d : Nat} {a0 a1 a2 a3 a4 a5 a6 a7 a8 a9 a10 : Option Value} {s0 : Nat} {s1 : Int64} {lay : List mShp} {M : mMem} {P : mPost} (hs : mSh lay s0 = some (13, 44)) : mG (d) 200 91 [a0, a1, a2, a3, a4, a5, a6, a7, a8, a9, a10] [.ref s0, .long s1] lay M P = mG d 200 94 [a0, a1, a2, a3, a4, a5, a6, a7, a8, a9, a10] [.ref (M.2.2 s0 29), .long s1] lay M P := mG_of_and (mIsO_of hs (by decide)) (e_getA (ci := 10) (j := 29) rfl rfl rfl)
set_option maxRecDepth 20000 in
theorem g200_94 {d : Nat} {a0 a2 a3 a4 a5 a6 a7 a8 a9 a10 : Option Value} {s0 : Nat} {s1 : Int64} {x : Int32} {lay : List mShp} {M : mMem} {P : mPost} : mG (d) 200 94 [a0, some (.int x), a2, a3, a4, a5, a6, a7, a8, a9, a10] [.ref s0, .long s1] lay M P = mG d 200 95 [a0, some (.int x), a2, a3, a4, a5, a6, a7, a8, a9, a10] [.int x, .ref s0, .long s1] lay M P := e_iload_n (i := 1) rfl rfl rfl
set_option maxRecDepth 20000 in
theorem g200_95 {d : Nat} {a0 a1 a2 a3 a4 a5 a6 a7 a8 a9 a10 : Option Value} {s0 : Int32} {s1 : Nat} {s2 : Int64} {lay : List mShp} {M : mMem} {P : mPost} (hs : mSh lay s1 = some (0, 6)) : mG (d) 200 95 [a0, a1, a2, a3, a4, a5, a6, a7, a8, a9, a10] [.int s0, .ref s1, .long s2] lay M P = (mIdx s0 6 = true ∧ mG d 200 96 [a0, a1, a2, a3, a4, a5, a6, a7, a8, a9, a10] [.int (M.1 s1 s0.toNatClampNeg), .long s2] lay M P) := e_iaload rfl hs
set_option maxRecDepth 20000 in
theorem g200_96 {d : Nat} {a0 a1 a2 a3 a4 a5 a6 a7 a8 a9 a10 : Option Value} {s0 : Int32} {s1 : Int64} {lay : List mShp} {M : mMem} {P : mPost} : mG (d) 200 96 [a0, a1, a2, a3, a4, a5, a6, a7, a8, a9, a10] [.int s0, .long s1] lay M P = mG d 200 97 [a0, a1, a2, a3, a4, a5, a6, a7, a8, a9, a10] [.long s0.toInt64, .long s1] lay M P := e_i2l rfl
set_option maxRecDepth 20000 in
theorem g200_97 {d : Nat} {a0 a1 a2 a3 a4 a5 a6 a7 a8 a9 a10 : Option Value} {s0 : Int64} {s1 : Int64} {lay : List mShp} {M : mMem} {P : mPost} : mG (d) 200 97 [a0, a1, a2, a3, a4, a5, a6, a7, a8, a9, a10] [.long s0, .long s1] lay M P = mG d 200 98 [a0, a1, a2, a3, a4, a5, a6, a7, a8, a9, a10] [.int (lg_cmp s1 s0)] lay M P := e_lcmp rfl
set_option maxRecDepth 20000 in
theorem g200_98 {d : Nat} {a0 a1 a2 a3 a4 a5 a6 a7 a8 a9 a10 : Option Value} {s0 : Int32} {lay : List mShp} {M : mMem} {P : mPost} : mG (d) 200 98 [a0, a1, a2, a3, a4, a5, a6, a7, a8, a9, a10] [.int s0] lay M P = if s0 < 0 then mG d 200 101 [a0, a1, a2, a3, a4, a5, a6, a7, a8, a9, a10] [] lay M P else mG d 200 182 [a0, a1, a2, a3, a4, a5, a6, a7, a8, a9, a10] [] lay M P := e_if_ge rfl rfl
set_option maxRecDepth 20000 in
theorem g200_101 {d : Nat} {a1 a2 a3 a4 a5 a6 a7 a8 a9 a10 : Option Value} {x : Nat} {lay : List mShp} {M : mMem} {P : mPost} (hx : ¬ x = 0) : mG (d) 200 101 [some (.ref x), a1, a2, a3, a4, a5, a6, a7, a8, a9, a10] [] lay M P = mG d 200 102 [some (.ref x), a1, a2, a3, a4, a5, a6, a7, a8, a9, a10] [.ref x] lay M P := e_aload_nP hx (i := 0) rfl rfl rfl
set_option maxRecDepth 20000 in
theorem g200_102 {d : Nat} {a0 a2 a3 a4 a5 a6 a7 a8 a9 a10 : Option Value} {s0 : Nat} {x : Int32} {lay : List mShp} {M : mMem} {P : mPost} : mG (d) 200 102 [a0, some (.int x), a2, a3, a4, a5, a6, a7, a8, a9, a10] [.ref s0] lay M P = mG d 200 103 [a0, some (.int x), a2, a3, a4, a5, a6, a7, a8, a9, a10] [.int x, .ref s0] lay M P := e_iload_n (i := 1) rfl rfl rfl
set_option maxRecDepth 20000 in
theorem g200_103 {d : Nat} {a0 a1 a2 a3 a4 a5 a7 a8 a9 a10 : Option Value} {s0 : Int32} {s1 : Nat} {x : Int64} {lay : List mShp} {M : mMem} {P : mPost} : mG (d) 200 103 [a0, a1, a2, a3, a4, a5, some (.long x), a7, a8, a9, a10] [.int s0, .ref s1] lay M P = mG d 200 105 [a0, a1, a2, a3, a4, a5, some (.long x), a7, a8, a9, a10] [.long x, .int s0, .ref s1] lay M P := e_lload (i := 6) rfl rfl
set_option maxRecDepth 20000 in
theorem g200_105 {d : Nat} {a0 a1 a2 a3 a4 a5 a6 a7 a8 a9 a10 : Option Value} {s0 : Int64} {s1 : Int32} {s2 : Nat} {lay : List mShp} {M : mMem} {P : mPost} : mG (d) 200 105 [a0, a1, a2, a3, a4, a5, a6, a7, a8, a9, a10] [.long s0, .int s1, .ref s2] lay M P = mG d 200 106 [a0, a1, a2, a3, a4, a5, a6, a7, a8, a9, a10] [.int s0.toInt32, .int s1, .ref s2] lay M P := e_l2i rfl
set_option maxRecDepth 20000 in
theorem g200_106 {d : Nat} {a0 a1 a2 a3 a4 a5 a6 a7 a8 a9 a10 : Option Value} {s0 : Int32} {s1 : Int32} {s2 : Nat} {lay : List mShp} {M : mMem} {P : mPost} (hs : mSh lay s2 = some (13, 44)) : mG (d + 1) 200 106 [a0, a1, a2, a3, a4, a5, a6, a7, a8, a9, a10] [.int s0, .int s1, .ref s2] lay M P = mF d 199 [.ref s2, .int s1, .int s0] lay M (fun v lay1 M1 => mG (d + 1) 200 109 [a0, a1, a2, a3, a4, a5, a6, a7, a8, a9, a10] (v.toList ++ []) lay1 M1 P) := e_virtP2 (j := 199) (c := 10) rfl rfl rfl rfl rfl rfl hs (Nat.le_of_ble_eq_true rfl)
set_option maxRecDepth 20000 in
theorem g200_109 {d : Nat} {a0 a1 a2 a3 a4 a5 a6 a7 a8 a9 a10 : Option Value} {s0 : Int32} {lay : List mShp} {M : mMem} {P : mPost} (h0 : mNoL a7 = true) : mG (d) 200 109 [a0, a1, a2, a3, a4, a5, a6, a7, a8, a9, a10] [.int s0] lay M P = mG d 200 111 [a0, a1, a2, a3, a4, a5, a6, a7, some (.int s0), a9, a10] [] lay M P := e_istore (i := 8) rfl (by simp) (mS1_8 h0)
set_option maxRecDepth 20000 in
theorem g200_111 {d : Nat} {a1 a2 a3 a4 a5 a6 a7 a8 a9 a10 : Option Value} {x : Nat} {lay : List mShp} {M : mMem} {P : mPost} (hx : ¬ x = 0) : mG (d) 200 111 [some (.ref x), a1, a2, a3, a4, a5, a6, a7, a8, a9, a10] [] lay M P = mG d 200 112 [some (.ref x), a1, a2, a3, a4, a5, a6, a7, a8, a9, a10] [.ref x] lay M P := e_aload_nP hx (i := 0) rfl rfl rfl
set_option maxRecDepth 20000 in
theorem g200_112 {d : Nat} {a0 a2 a3 a4 a5 a6 a7 a8 a9 a10 : Option Value} {s0 : Nat} {x : Int32} {lay : List mShp} {M : mMem} {P : mPost} : mG (d) 200 112 [a0, some (.int x), a2, a3, a4, a5, a6, a7, a8, a9, a10] [.ref s0] lay M P = mG d 200 113 [a0, some (.int x), a2, a3, a4, a5, a6, a7, a8, a9, a10] [.int x, .ref s0] lay M P := e_iload_n (i := 1) rfl rfl rfl
set_option maxRecDepth 20000 in
theorem g200_113 {d : Nat} {a0 a1 a2 a3 a4 a5 a7 a8 a9 a10 : Option Value} {s0 : Int32} {s1 : Nat} {x : Int64} {lay : List mShp} {M : mMem} {P : mPost} : mG (d) 200 113 [a0, a1, a2, a3, a4, a5, some (.long x), a7, a8, a9, a10] [.int s0, .ref s1] lay M P = mG d 200 115 [a0, a1, a2, a3, a4, a5, some (.long x), a7, a8, a9, a10] [.long x, .int s0, .ref s1] lay M P := e_lload (i := 6) rfl rfl
set_option maxRecDepth 20000 in
theorem g200_115 {d : Nat} {a0 a1 a2 a3 a4 a5 a6 a7 a8 a9 a10 : Option Value} {s0 : Int64} {s1 : Int32} {s2 : Nat} {lay : List mShp} {M : mMem} {P : mPost} : mG (d) 200 115 [a0, a1, a2, a3, a4, a5, a6, a7, a8, a9, a10] [.long s0, .int s1, .ref s2] lay M P = mG d 200 116 [a0, a1, a2, a3, a4, a5, a6, a7, a8, a9, a10] [.int s0.toInt32, .int s1, .ref s2] lay M P := e_l2i rfl
set_option maxRecDepth 20000 in
theorem g200_116 {d : Nat} {a0 a1 a2 a3 a4 a5 a6 a7 a8 a9 a10 : Option Value} {s0 : Int32} {s1 : Int32} {s2 : Nat} {lay : List mShp} {M : mMem} {P : mPost} : mG (d) 200 116 [a0, a1, a2, a3, a4, a5, a6, a7, a8, a9, a10] [.int s0, .int s1, .ref s2] lay M P = mG d 200 117 [a0, a1, a2, a3, a4, a5, a6, a7, a8, a9, a10] [.int (Int32.ofInt 1), .int s0, .int s1, .ref s2] lay M P := e_iconst rfl
set_option maxRecDepth 20000 in
theorem g200_117 {d : Nat} {a0 a1 a2 a3 a4 a5 a6 a7 a8 a9 a10 : Option Value} {s0 : Int32} {s1 : Int32} {s2 : Int32} {s3 : Nat} {lay : List mShp} {M : mMem} {P : mPost} : mG (d) 200 117 [a0, a1, a2, a3, a4, a5, a6, a7, a8, a9, a10] [.int s0, .int s1, .int s2, .ref s3] lay M P = mG d 200 118 [a0, a1, a2, a3, a4, a5, a6, a7, a8, a9, a10] [.int (s1 + s0), .int s2, .ref s3] lay M P := e_iadd rfl
set_option maxRecDepth 20000 in
theorem g200_118 {d : Nat} {a0 a1 a2 a3 a4 a5 a6 a7 a8 a9 a10 : Option Value} {s0 : Int32} {s1 : Int32} {s2 : Nat} {lay : List mShp} {M : mMem} {P : mPost} (hs : mSh lay s2 = some (13, 44)) : mG (d + 1) 200 118 [a0, a1, a2, a3, a4, a5, a6, a7, a8, a9, a10] [.int s0, .int s1, .ref s2] lay M P = mF d 199 [.ref s2, .int s1, .int s0] lay M (fun v lay1 M1 => mG (d + 1) 200 121 [a0, a1, a2, a3, a4, a5, a6, a7, a8, a9, a10] (v.toList ++ []) lay1 M1 P) := e_virtP2 (j := 199) (c := 10) rfl rfl rfl rfl rfl rfl hs (Nat.le_of_ble_eq_true rfl)
set_option maxRecDepth 20000 in
theorem g200_121 {d : Nat} {a0 a1 a2 a3 a4 a5 a6 a7 a8 a9 a10 : Option Value} {s0 : Int32} {lay : List mShp} {M : mMem} {P : mPost} (h0 : mNoL a8 = true) : mG (d) 200 121 [a0, a1, a2, a3, a4, a5, a6, a7, a8, a9, a10] [.int s0] lay M P = mG d 200 123 [a0, a1, a2, a3, a4, a5, a6, a7, a8, some (.int s0), a10] [] lay M P := e_istore (i := 9) rfl (by simp) (mS1_9 h0)
set_option maxRecDepth 20000 in
theorem g200_123 {d : Nat} {a1 a2 a3 a4 a5 a6 a7 a8 a9 a10 : Option Value} {x : Nat} {lay : List mShp} {M : mMem} {P : mPost} (hx : ¬ x = 0) : mG (d) 200 123 [some (.ref x), a1, a2, a3, a4, a5, a6, a7, a8, a9, a10] [] lay M P = mG d 200 124 [some (.ref x), a1, a2, a3, a4, a5, a6, a7, a8, a9, a10] [.ref x] lay M P := e_aload_nP hx (i := 0) rfl rfl rfl
set_option maxRecDepth 20000 in
theorem g200_124 {d : Nat} {a0 a2 a3 a4 a5 a6 a7 a8 a9 a10 : Option Value} {s0 : Nat} {x : Int32} {lay : List mShp} {M : mMem} {P : mPost} : mG (d) 200 124 [a0, some (.int x), a2, a3, a4, a5, a6, a7, a8, a9, a10] [.ref s0] lay M P = mG d 200 125 [a0, some (.int x), a2, a3, a4, a5, a6, a7, a8, a9, a10] [.int x, .ref s0] lay M P := e_iload_n (i := 1) rfl rfl rfl
set_option maxRecDepth 20000 in
theorem g200_125 {d : Nat} {a0 a1 a2 a3 a4 a5 a7 a8 a9 a10 : Option Value} {s0 : Int32} {s1 : Nat} {x : Int64} {lay : List mShp} {M : mMem} {P : mPost} : mG (d) 200 125 [a0, a1, a2, a3, a4, a5, some (.long x), a7, a8, a9, a10] [.int s0, .ref s1] lay M P = mG d 200 127 [a0, a1, a2, a3, a4, a5, some (.long x), a7, a8, a9, a10] [.long x, .int s0, .ref s1] lay M P := e_lload (i := 6) rfl rfl
set_option maxRecDepth 20000 in
theorem g200_127 {d : Nat} {a0 a1 a2 a3 a4 a5 a6 a7 a8 a9 a10 : Option Value} {s0 : Int64} {s1 : Int32} {s2 : Nat} {lay : List mShp} {M : mMem} {P : mPost} : mG (d) 200 127 [a0, a1, a2, a3, a4, a5, a6, a7, a8, a9, a10] [.long s0, .int s1, .ref s2] lay M P = mG d 200 128 [a0, a1, a2, a3, a4, a5, a6, a7, a8, a9, a10] [.int s0.toInt32, .int s1, .ref s2] lay M P := e_l2i rfl
set_option maxRecDepth 20000 in
theorem g200_128 {d : Nat} {a0 a1 a2 a3 a4 a5 a6 a7 a8 a9 a10 : Option Value} {s0 : Int32} {s1 : Int32} {s2 : Nat} {lay : List mShp} {M : mMem} {P : mPost} : mG (d) 200 128 [a0, a1, a2, a3, a4, a5, a6, a7, a8, a9, a10] [.int s0, .int s1, .ref s2] lay M P = mG d 200 129 [a0, a1, a2, a3, a4, a5, a6, a7, a8, a9, a10] [.int (Int32.ofInt 2), .int s0, .int s1, .ref s2] lay M P := e_iconst rfl
set_option maxRecDepth 20000 in
theorem g200_129 {d : Nat} {a0 a1 a2 a3 a4 a5 a6 a7 a8 a9 a10 : Option Value} {s0 : Int32} {s1 : Int32} {s2 : Int32} {s3 : Nat} {lay : List mShp} {M : mMem} {P : mPost} : mG (d) 200 129 [a0, a1, a2, a3, a4, a5, a6, a7, a8, a9, a10] [.int s0, .int s1, .int s2, .ref s3] lay M P = mG d 200 130 [a0, a1, a2, a3, a4, a5, a6, a7, a8, a9, a10] [.int (s1 + s0), .int s2, .ref s3] lay M P := e_iadd rfl
set_option maxRecDepth 20000 in
theorem g200_130 {d : Nat} {a0 a1 a2 a3 a4 a5 a6 a7 a8 a9 a10 : Option Value} {s0 : Int32} {s1 : Int32} {s2 : Nat} {lay : List mShp} {M : mMem} {P : mPost} (hs : mSh lay s2 = some (13, 44)) : mG (d + 1) 200 130 [a0, a1, a2, a3, a4, a5, a6, a7, a8, a9, a10] [.int s0, .int s1, .ref s2] lay M P = mF d 199 [.ref s2, .int s1, .int s0] lay M (fun v lay1 M1 => mG (d + 1) 200 133 [a0, a1, a2, a3, a4, a5, a6, a7, a8, a9, a10] (v.toList ++ []) lay1 M1 P) := e_virtP2 (j := 199) (c := 10) rfl rfl rfl rfl rfl rfl hs (Nat.le_of_ble_eq_true rfl)
set_option maxRecDepth 20000 in
theorem g200_133 {d : Nat} {a0 a1 a2 a3 a4 a5 a6 a7 a8 a9 a10 : Option Value} {s0 : Int32} {lay : List mShp} {M : mMem} {P : mPost} (h0 : mNoL a9 = true) : mG (d) 200 133 [a0, a1, a2, a3, a4, a5, a6, a7, a8, a9, a10] [.int s0] lay M P = mG d 200 135 [a0, a1, a2, a3, a4, a5, a6, a7, a8, a9, some (.int s0)] [] lay M P := e_istore (i := 10) rfl (by simp) (mS1_10 h0)
set_option maxRecDepth 20000 in
theorem g200_135 {d : Nat} {a0 a1 a2 a3 a4 a5 a6 a7 a9 a10 : Option Value} {x : Int32} {lay : List mShp} {M : mMem} {P : mPost} : mG (d) 200 135 [a0, a1, a2, a3, a4, a5, a6, a7, some (.int x), a9, a10] [] lay M P = mG d 200 137 [a0, a1, a2, a3, a4, a5, a6, a7, some (.int x), a9, a10] [.int x] lay M P := e_iload (i := 8) rfl rfl
set_option maxRecDepth 20000 in
theorem g200_137 {d : Nat} {a0 a1 a2 a3 a4 a5 a6 a7 a8 a9 a10 : Option Value} {s0 : Int32} {lay : List mShp} {M : mMem} {P : mPost} : mG (d) 200 137 [a0, a1, a2, a3, a4, a5, a6, a7, a8, a9, a10] [.int s0] lay M P = mG d 200 138 [a0, a1, a2, a3, a4, a5, a6, a7, a8, a9, a10] [.int (Int32.ofInt 0), .int s0] lay M P := e_iconst rfl
set_option maxRecDepth 20000 in
theorem g200_138 {d : Nat} {a0 a1 a2 a3 a4 a5 a6 a7 a8 a9 a10 : Option Value} {s0 : Int32} {s1 : Int32} {lay : List mShp} {M : mMem} {P : mPost} : mG (d) 200 138 [a0, a1, a2, a3, a4, a5, a6, a7, a8, a9, a10] [.int s0, .int s1] lay M P = mG d 200 140 [a0, a1, a2, a3, a4, a5, a6, a7, a8, a9, a10] [.int (Int32.ofInt 35), .int s0, .int s1] lay M P := e_bipush rfl
set_option maxRecDepth 20000 in
theorem g200_140 {d : Nat} {a0 a1 a2 a3 a4 a5 a6 a7 a8 a9 a10 : Option Value} {s0 : Int32} {s1 : Int32} {s2 : Int32} {lay : List mShp} {M : mMem} {P : mPost} : mG (d + 1) 200 140 [a0, a1, a2, a3, a4, a5, a6, a7, a8, a9, a10] [.int s0, .int s1, .int s2] lay M P = mF d 146 [.int s2, .int s1, .int s0] lay M (fun v lay1 M1 => mG (d + 1) 200 143 [a0, a1, a2, a3, a4, a5, a6, a7, a8, a9, a10] (v.toList ++ []) lay1 M1 P) := e_static3 (j := 146) rfl rfl rfl rfl rfl (Nat.le_of_ble_eq_true rfl)
set_option maxRecDepth 20000 in
theorem g200_143 {d : Nat} {a0 a1 a2 a3 a4 a5 a6 a7 a8 a9 a10 : Option Value} {s0 : Int32} {lay : List mShp} {M : mMem} {P : mPost} : mG (d) 200 143 [a0, a1, a2, a3, a4, a5, a6, a7, a8, a9, a10] [.int s0] lay M P = if s0 = 0 then mG d 200 182 [a0, a1, a2, a3, a4, a5, a6, a7, a8, a9, a10] [] lay M P else mG d 200 146 [a0, a1, a2, a3, a4, a5, a6, a7, a8, a9, a10] [] lay M P := e_if_eq rfl rfl
set_option maxRecDepth 20000 in
theorem g200_146 {d : Nat} {a0 a1 a2 a3 a4 a5 a6 a7 a8 a10 : Option Value} {x : Int32} {lay : List mShp} {M : mMem} {P : mPost} : mG (d) 200 146 [a0, a1, a2, a3, a4, a5, a6, a7, a8, some (.int x), a10] [] lay M P = mG d 200 148 [a0, a1, a2, a3, a4, a5, a6, a7, a8, some (.int x), a10] [.int x] lay M P := e_iload (i := 9) rfl rfl
set_option maxRecDepth 20000 in
theorem g200_148 {d : Nat} {a0 a1 a2 a3 a4 a5 a6 a7 a8 a9 a10 : Option Value} {s0 : Int32} {lay : List mShp} {M : mMem} {P : mPost} : mG (d) 200 148 [a0, a1, a2, a3, a4, a5, a6, a7, a8, a9, a10] [.int s0] lay M P = mG d 200 149 [a0, a1, a2, a3, a4, a5, a6, a7, a8, a9, a10] [.int (Int32.ofInt 0), .int s0] lay M P := e_iconst rfl
set_option maxRecDepth 20000 in
theorem g200_149 {d : Nat} {a0 a1 a2 a3 a4 a5 a6 a7 a8 a9 a10 : Option Value} {s0 : Int32} {s1 : Int32} {lay : List mShp} {M : mMem} {P : mPost} : mG (d) 200 149 [a0, a1, a2, a3, a4, a5, a6, a7, a8, a9, a10] [.int s0, .int s1] lay M P = mG d 200 151 [a0, a1, a2, a3, a4, a5, a6, a7, a8, a9, a10] [.int (Int32.ofInt 9), .int s0, .int s1] lay M P := e_bipush rfl
set_option maxRecDepth 20000 in
theorem g200_151 {d : Nat} {a0 a1 a2 a3 a4 a5 a6 a7 a8 a9 a10 : Option Value} {s0 : Int32} {s1 : Int32} {s2 : Int32} {lay : List mShp} {M : mMem} {P : mPost} : mG (d + 1) 200 151 [a0, a1, a2, a3, a4, a5, a6, a7, a8, a9, a10] [.int s0, .int s1, .int s2] lay M P = mF d 146 [.int s2, .int s1, .int s0] lay M (fun v lay1 M1 => mG (d + 1) 200 154 [a0, a1, a2, a3, a4, a5, a6, a7, a8, a9, a10] (v.toList ++ []) lay1 M1 P) := e_static3 (j := 146) rfl rfl rfl rfl rfl (Nat.le_of_ble_eq_true rfl)
set_option maxRecDepth 20000 in
theorem g200_154 {d : Nat} {a0 a1 a2 a3 a4 a5 a6 a7 a8 a9 a10 : Option Value} {s0 : Int32} {lay : List mShp} {M : mMem} {P : mPost} : mG (d) 200 154 [a0, a1, a2, a3, a4, a5, a6, a7, a8, a9, a10] [.int s0] lay M P = if s0 = 0 then mG d 200 182 [a0, a1, a2, a3, a4, a5, a6, a7, a8, a9, a10] [] lay M P else mG d 200 157 [a0, a1, a2, a3, a4, a5, a6, a7, a8, a9, a10] [] lay M P := e_if_eq rfl rfl
set_option maxRecDepth 20000 in
theorem g200_157 {d : Nat} {a0 a1 a2 a3 a4 a5 a6 a7 a8 a9 : Option Value} {x : Int32} {lay : List mShp} {M : mMem} {P : mPost} : mG (d) 200 157 [a0, a1, a2, a3, a4, a5, a6, a7, a8, a9, some (.int x)] [] lay M P = mG d 200 159 [a0, a1, a2, a3, a4, a5, a6, a7, a8, a9, some (.int x)] [.int x] lay M P := e_iload (i := 10) rfl rfl
set_option maxRecDepth 20000 in
theorem g200_159 {d : Nat} {a0 a1 a2 a3 a4 a5 a6 a7 a8 a9 a10 : Option Value} {s0 : Int32} {lay : List mShp} {M : mMem} {P : mPost} : mG (d) 200 159 [a0, a1, a2, a3, a4, a5, a6, a7, a8, a9, a10] [.int s0] lay M P = mG d 200 160 [a0, a1, a2, a3, a4, a5, a6, a7, a8, a9, a10] [.int (Int32.ofInt 0), .int s0] lay M P := e_iconst rfl
set_option maxRecDepth 20000 in
theorem g200_160 {d : Nat} {a0 a1 a2 a3 a4 a5 a6 a7 a8 a9 a10 : Option Value} {s0 : Int32} {s1 : Int32} {lay : List mShp} {M : mMem} {P : mPost} : mG (d) 200 160 [a0, a1, a2, a3, a4, a5, a6, a7, a8, a9, a10] [.int s0, .int s1] lay M P = mG d 200 162 [a0, a1, a2, a3, a4, a5, a6, a7, a8, a9, a10] [.int (Int32.ofInt 9), .int s0, .int s1] lay M P := e_bipush rfl
set_option maxRecDepth 20000 in
theorem g200_162 {d : Nat} {a0 a1 a2 a3 a4 a5 a6 a7 a8 a9 a10 : Option Value} {s0 : Int32} {s1 : Int32} {s2 : Int32} {lay : List mShp} {M : mMem} {P : mPost} : mG (d + 1) 200 162 [a0, a1, a2, a3, a4, a5, a6, a7, a8, a9, a10] [.int s0, .int s1, .int s2] lay M P = mF d 146 [.int s2, .int s1, .int s0] lay M (fun v lay1 M1 => mG (d + 1) 200 165 [a0, a1, a2, a3, a4, a5, a6, a7, a8, a9, a10] (v.toList ++ []) lay1 M1 P) := e_static3 (j := 146) rfl rfl rfl rfl rfl (Nat.le_of_ble_eq_true rfl)
set_option maxRecDepth 20000 in
theorem g200_165 {d : Nat} {a0 a1 a2 a3 a4 a5 a6 a7 a8 a9 a10 : Option Value} {s0 : Int32} {lay : List mShp} {M : mMem} {P : mPost} : mG (d) 200 165 [a0, a1, a2, a3, a4, a5, a6, a7, a8, a9, a10] [.int s0] lay M P = if s0 = 0 then mG d 200 182 [a0, a1, a2, a3, a4, a5, a6, a7, a8, a9, a10] [] lay M P else mG d 200 168 [a0, a1, a2, a3, a4, a5, a6, a7, a8, a9, a10] [] lay M P := e_if_eq rfl rfl
set_option maxRecDepth 20000 in
theorem g200_168 {d : Nat} {a1 a2 a3 a4 a5 a6 a7 a8 a9 a10 : Option Value} {x : Nat} {lay : List mShp} {M : mMem} {P : mPost} (hx : ¬ x = 0) : mG (d) 200 168 [some (.ref x), a1, a2, a3, a4, a5, a6, a7, a8, a9, a10] [] lay M P = mG d 200 169 [some (.ref x), a1, a2, a3, a4, a5, a6, a7, a8, a9, a10] [.ref x] lay M P := e_aload_nP hx (i := 0) rfl rfl rfl
set_option maxRecDepth 20000 in
theorem g200_169 {d : Nat} {a0 a1 a2 a3 a4 a5 a6 a7 a9 a10 : Option Value} {s0 : Nat} {x : Int32} {lay : List mShp} {M : mMem} {P : mPost} : mG (d) 200 169 [a0, a1, a2, a3, a4, a5, a6, a7, some (.int x), a9, a10] [.ref s0] lay M P = mG d 200 171 [a0, a1, a2, a3, a4, a5, a6, a7, some (.int x), a9, a10] [.int x, .ref s0] lay M P := e_iload (i := 8) rfl rfl
set_option maxRecDepth 20000 in
theorem g200_171 {d : Nat} {a0 a1 a2 a3 a4 a5 a6 a7 a8 a10 : Option Value} {s0 : Int32} {s1 : Nat} {x : Int32} {lay : List mShp} {M : mMem} {P : mPost} : mG (d) 200 171 [a0, a1, a2, a3, a4, a5, a6, a7, a8, some (.int x), a10] [.int s0, .ref s1] lay M P = mG d 200 173 [a0, a1, a2, a3, a4, a5, a6, a7, a8, some (.int x), a10] [.int x, .int s0, .ref s1] lay M P := e_iload (i := 9) rfl rfl
set_option maxRecDepth 20000 in
theorem g200_173 {d : Nat} {a0 a1 a2 a3 a4 a5 a6 a7 a8 a9 : Option Value} {s0 : Int32} {s1 : Int32} {s2 : Nat} {x : Int32} {lay : List mShp} {M : mMem} {P : mPost} : mG (d) 200 173 [a0, a1, a2, a3, a4, a5, a6, a7, a8, a9, some (.int x)] [.int s0, .int s1, .ref s2] lay M P = mG d 200 175 [a0, a1, a2, a3, a4, a5, a6, a7, a8, a9, some (.int x)] [.int x, .int s0, .int s1, .ref s2] lay M P := e_iload (i := 10) rfl rfl
set_option maxRecDepth 20000 in
theorem g200_175 {d : Nat} {a0 a1 a2 a3 a4 a5 a6 a7 a8 a9 a10 : Option Value} {s0 : Int32} {s1 : Int32} {s2 : Int32} {s3 : Nat} {lay : List mShp} {M : mMem} {P : mPost} (hs : mSh lay s3 = some (13, 44)) : mG (d + 1) 200 175 [a0, a1, a2, a3, a4, a5, a6, a7, a8, a9, a10] [.int s0, .int s1, .int s2, .ref s3] lay M P = mF d 154 [.ref s3, .int s2, .int s1, .int s0] lay M (fun v lay1 M1 => mG (d + 1) 200 178 [a0, a1, a2, a3, a4, a5, a6, a7, a8, a9, a10] (v.toList ++ []) lay1 M1 P) := e_virtP3 (j := 154) (c := 10) rfl rfl rfl rfl rfl rfl hs (Nat.le_of_ble_eq_true rfl)
set_option maxRecDepth 20000 in
theorem g200_178 {d : Nat} {a0 a1 a2 a3 a4 a5 a6 a7 a8 a9 a10 : Option Value} {s0 : Int32} {lay : List mShp} {M : mMem} {P : mPost} : mG (d) 200 178 [a0, a1, a2, a3, a4, a5, a6, a7, a8, a9, a10] [.int s0] lay M P = mG d 200 179 [a0, a1, a2, a3, a4, a5, a6, a7, a8, a9, a10] [] lay M P := e_popi rfl
set_option maxRecDepth 20000 in
theorem g200_179 {d : Nat} {a0 a1 a2 a3 a5 a6 a7 a8 a9 a10 : Option Value} {x : Int32} {lay : List mShp} {M : mMem} {P : mPost} (h0 : mNoL a3 = true) : mG (d) 200 179 [a0, a1, a2, a3, some (.int x), a5, a6, a7, a8, a9, a10] [] lay M P = mG d 200 182 [a0, a1, a2, a3, some (.int (x + Int32.ofInt 1)), a5, a6, a7, a8, a9, a10] [] lay M P := e_iinc (n := 4) rfl rfl (mS1_4 h0)
set_option maxRecDepth 20000 in
theorem g200_182 {d : Nat} {a0 a1 a2 a3 a4 a6 a7 a8 a9 a10 : Option Value} {x : Int32} {lay : List mShp} {M : mMem} {P : mPost} (h0 : mNoL a4 = true) : mG (d) 200 182 [a0, a1, a2, a3, a4, some (.int x), a6, a7, a8, a9, a10] [] lay M P = mG d 200 185 [a0, a1, a2, a3, a4, some (.int (x + Int32.ofInt 1)), a6, a7, a8, a9, a10] [] lay M P := e_iinc (n := 5) rfl rfl (mS1_5 h0)
set_option maxRecDepth 20000 in
theorem g200_185 {d : Nat} {a0 a1 a2 a3 a4 a5 a6 a7 a8 a9 a10 : Option Value} {lay : List mShp} {M : mMem} {P : mPost} : mG (d) 200 185 [a0, a1, a2, a3, a4, a5, a6, a7, a8, a9, a10] [] lay M P = mG d 200 37 [a0, a1, a2, a3, a4, a5, a6, a7, a8, a9, a10] [] lay M P := e_goto rfl rfl
set_option maxRecDepth 20000 in
theorem g200_188 {d : Nat} {a0 a1 a2 a3 a5 a6 a7 a8 a9 a10 : Option Value} {x : Int32} {lay : List mShp} {M : mMem} {P : mPost} : mG (d) 200 188 [a0, a1, a2, a3, some (.int x), a5, a6, a7, a8, a9, a10] [] lay M P = mG d 200 190 [a0, a1, a2, a3, some (.int x), a5, a6, a7, a8, a9, a10] [.int x] lay M P := e_iload (i := 4) rfl rfl
set_option maxRecDepth 20000 in
theorem g200_190 {d : Nat} {a0 a1 a2 a3 a4 a5 a6 a7 a8 a9 a10 : Option Value} {s0 : Int32} {lay : List mShp} {M : mMem} {P : mPost} : mG (d) 200 190 [a0, a1, a2, a3, a4, a5, a6, a7, a8, a9, a10] [.int s0] lay M P = P (some (.int s0)) lay M := e_ireturnI rfl rfl
-- 201 X10_wrong
theorem g201_in {d : Nat} {x0 : Nat} {x1 : Int32} {x2 : Int32} {lay : List mShp} {M : mMem} {P : mPost} : mF d 201 [.ref x0, .int x1, .int x2] lay M P = mG d 201 0 [some (.ref x0), some (.int x1), some (.int x2), none, none] [] lay M P := mF_in rfl rfl
set_option maxRecDepth 20000 in
theorem g201_0 {d : Nat} {a1 a2 a3 a4 : Option Value} {x : Nat} {lay : List mShp} {M : mMem} {P : mPost} (hx : ¬ x = 0) : mG (d) 201 0 [some (.ref x), a1, a2, a3, a4] [] lay M P = mG d 201 1 [some (.ref x), a1, a2, a3, a4] [.ref x] lay M P := e_aload_nP hx (i := 0) rfl rfl rfl
set_option maxRecDepth 20000 in
theorem g201_1 {d : Nat} {a0 a1 a2 a3 a4 : Option Value} {s0 : Nat} {lay : List mShp} {M : mMem} {P : mPost} : mG (d) 201 1 [a0, a1, a2, a3, a4] [.ref s0] lay M P = mG d 201 2 [a0, a1, a2, a3, a4] [.int (Int32.ofInt 0), .ref s0] lay M P := e_iconst rfl
set_option maxRecDepth 20000 in
theorem g201_2 {d : Nat} {a0 a1 a2 a3 a4 : Option Value} {s0 : Int32} {s1 : Nat} {lay : List mShp} {M : mMem} {P : mPost} (hs : mSh lay s1 = some (13, 44)) : mG (d + 1) 201 2 [a0, a1, a2, a3, a4] [.int s0, .ref s1] lay M P = mF d 149 [.ref s1, .int s0] lay M (fun v lay1 M1 => mG (d + 1) 201 5 [a0, a1, a2, a3, a4] (v.toList ++ []) lay1 M1 P) := e_virtP1 (j := 149) (c := 10) rfl rfl rfl rfl rfl rfl hs (Nat.le_of_ble_eq_true rfl)
set_option maxRecDepth 20000 in
theorem g201_5 {d : Nat} {a0 a1 a2 a3 a4 : Option Value} {lay : List mShp} {M : mMem} {P : mPost} : mG (d) 201 5 [a0, a1, a2, a3, a4] [] lay M P = mG d 201 7 [a0, a1, a2, a3, a4] [.int (Int32.ofInt (-2))] lay M P := e_bipush rfl
set_option maxRecDepth 20000 in
theorem g201_7 {d : Nat} {a0 a1 a2 a3 a4 : Option Value} {s0 : Int32} {lay : List mShp} {M : mMem} {P : mPost} (h0 : mNoL a2 = true) : mG (d) 201 7 [a0, a1, a2, a3, a4] [.int s0] lay M P = mG d 201 8 [a0, a1, a2, some (.int s0), a4] [] lay M P := e_istore_n (i := 3) rfl rfl (by simp) (mS1_3 h0)
set_option maxRecDepth 20000 in
theorem g201_8 {d : Nat} {a0 a1 a2 a3 a4 : Option Value} {lay : List mShp} {M : mMem} {P : mPost} : mG (d) 201 8 [a0, a1, a2, a3, a4] [] lay M P = mG d 201 9 [a0, a1, a2, a3, a4] [.int (Int32.ofInt 0)] lay M P := e_iconst rfl
set_option maxRecDepth 20000 in
theorem g201_9 {d : Nat} {a0 a1 a2 a3 a4 : Option Value} {s0 : Int32} {lay : List mShp} {M : mMem} {P : mPost} (h0 : mNoL a3 = true) : mG (d) 201 9 [a0, a1, a2, a3, a4] [.int s0] lay M P = mG d 201 11 [a0, a1, a2, a3, some (.int s0)] [] lay M P := e_istore (i := 4) rfl (by simp) (mS1_4 h0)
set_option maxRecDepth 20000 in
theorem g201_11 {d : Nat} {a0 a1 a2 a3 : Option Value} {x : Int32} {lay : List mShp} {M : mMem} {P : mPost} : mG (d) 201 11 [a0, a1, a2, a3, some (.int x)] [] lay M P = mG d 201 13 [a0, a1, a2, a3, some (.int x)] [.int x] lay M P := e_iload (i := 4) rfl rfl
set_option maxRecDepth 20000 in
theorem g201_13 {d : Nat} {a0 a1 a2 a3 a4 : Option Value} {s0 : Int32} {lay : List mShp} {M : mMem} {P : mPost} : mG (d) 201 13 [a0, a1, a2, a3, a4] [.int s0] lay M P = mG d 201 15 [a0, a1, a2, a3, a4] [.int (Int32.ofInt 41), .int s0] lay M P := e_bipush rfl
set_option maxRecDepth 20000 in
theorem g201_15 {d : Nat} {a1 a2 a3 a4 : Option Value} {s0 : Int32} {s1 : Int32} {x : Nat} {lay : List mShp} {M : mMem} {P : mPost} (hx : ¬ x = 0) : mG (d) 201 15 [some (.ref x), a1, a2, a3, a4] [.int s0, .int s1] lay M P = mG d 201 16 [some (.ref x), a1, a2, a3, a4] [.ref x, .int s0, .int s1] lay M P := e_aload_nP hx (i := 0) rfl rfl rfl
set_option maxRecDepth 20000 in
theorem g201_16 {d : Nat} {a0 a1 a2 a3 a4 : Option Value} {s0 : Nat} {s1 : Int32} {s2 : Int32} {lay : List mShp} {M : mMem} {P : mPost} (hs : mSh lay s0 = some (13, 44)) : mG (d) 201 16 [a0, a1, a2, a3, a4] [.ref s0, .int s1, .int s2] lay M P = mG d 201 19 [a0, a1, a2, a3, a4] [.ref (M.2.2 s0 29), .int s1, .int s2] lay M P := mG_of_and (mIsO_of hs (by decide)) (e_getA (ci := 10) (j := 29) rfl rfl rfl)
set_option maxRecDepth 20000 in
theorem g201_19 {d : Nat} {a0 a2 a3 a4 : Option Value} {s0 : Nat} {s1 : Int32} {s2 : Int32} {x : Int32} {lay : List mShp} {M : mMem} {P : mPost} : mG (d) 201 19 [a0, some (.int x), a2, a3, a4] [.ref s0, .int s1, .int s2] lay M P = mG d 201 20 [a0, some (.int x), a2, a3, a4] [.int x, .ref s0, .int s1, .int s2] lay M P := e_iload_n (i := 1) rfl rfl rfl
set_option maxRecDepth 20000 in
theorem g201_20 {d : Nat} {a0 a1 a2 a3 a4 : Option Value} {s0 : Int32} {s1 : Nat} {s2 : Int32} {s3 : Int32} {lay : List mShp} {M : mMem} {P : mPost} (hs : mSh lay s1 = some (0, 6)) : mG (d) 201 20 [a0, a1, a2, a3, a4] [.int s0, .ref s1, .int s2, .int s3] lay M P = (mIdx s0 6 = true ∧ mG d 201 21 [a0, a1, a2, a3, a4] [.int (M.1 s1 s0.toNatClampNeg), .int s2, .int s3] lay M P) := e_iaload rfl hs
set_option maxRecDepth 20000 in
theorem g201_21 {d : Nat} {a0 a1 a2 a3 a4 : Option Value} {s0 : Int32} {s1 : Int32} {s2 : Int32} {lay : List mShp} {M : mMem} {P : mPost} : mG (d) 201 21 [a0, a1, a2, a3, a4] [.int s0, .int s1, .int s2] lay M P = mG d 201 24 [a0, a1, a2, a3, a4] [.int (if s0 < s1 then s0 else s1), .int s2] lay M P := e_min rfl rfl (Nat.le_of_ble_eq_true rfl)
set_option maxRecDepth 20000 in
theorem g201_24 {d : Nat} {a0 a1 a2 a3 a4 : Option Value} {s0 : Int32} {s1 : Int32} {lay : List mShp} {M : mMem} {P : mPost} : mG (d) 201 24 [a0, a1, a2, a3, a4] [.int s0, .int s1] lay M P = if s1 < s0 then mG d 201 27 [a0, a1, a2, a3, a4] [] lay M P else mG d 201 67 [a0, a1, a2, a3, a4] [] lay M P := e_icmp_ge rfl rfl
set_option maxRecDepth 20000 in
theorem g201_27 {d : Nat} {a0 a1 a2 a4 : Option Value} {x : Int32} {lay : List mShp} {M : mMem} {P : mPost} : mG (d) 201 27 [a0, a1, a2, some (.int x), a4] [] lay M P = mG d 201 28 [a0, a1, a2, some (.int x), a4] [.int x] lay M P := e_iload_n (i := 3) rfl rfl rfl
set_option maxRecDepth 20000 in
theorem g201_28 {d : Nat} {a0 a1 a2 a3 a4 : Option Value} {s0 : Int32} {lay : List mShp} {M : mMem} {P : mPost} : mG (d) 201 28 [a0, a1, a2, a3, a4] [.int s0] lay M P = mG d 201 30 [a0, a1, a2, a3, a4] [.int (Int32.ofInt (-2)), .int s0] lay M P := e_bipush rfl
set_option maxRecDepth 20000 in
theorem g201_30 {d : Nat} {a0 a1 a2 a3 a4 : Option Value} {s0 : Int32} {s1 : Int32} {lay : List mShp} {M : mMem} {P : mPost} : mG (d) 201 30 [a0, a1, a2, a3, a4] [.int s0, .int s1] lay M P = if s1 = s0 then mG d 201 33 [a0, a1, a2, a3, a4] [] lay M P else mG d 201 67 [a0, a1, a2, a3, a4] [] lay M P := e_icmp_ne rfl rfl
set_option maxRecDepth 20000 in
theorem g201_33 {d : Nat} {a1 a2 a3 a4 : Option Value} {x : Nat} {lay : List mShp} {M : mMem} {P : mPost} (hx : ¬ x = 0) : mG (d) 201 33 [some (.ref x), a1, a2, a3, a4] [] lay M P = mG d 201 34 [some (.ref x), a1, a2, a3, a4] [.ref x] lay M P := e_aload_nP hx (i := 0) rfl rfl rfl
set_option maxRecDepth 20000 in
theorem g201_34 {d : Nat} {a0 a1 a3 a4 : Option Value} {s0 : Nat} {x : Int32} {lay : List mShp} {M : mMem} {P : mPost} : mG (d) 201 34 [a0, a1, some (.int x), a3, a4] [.ref s0] lay M P = mG d 201 35 [a0, a1, some (.int x), a3, a4] [.int x, .ref s0] lay M P := e_iload_n (i := 2) rfl rfl rfl
set_option maxRecDepth 20000 in
theorem g201_35 {d : Nat} {a0 a1 a2 a3 a4 : Option Value} {s0 : Int32} {s1 : Nat} {lay : List mShp} {M : mMem} {P : mPost} : mG (d) 201 35 [a0, a1, a2, a3, a4] [.int s0, .ref s1] lay M P = mG d 201 36 [a0, a1, a2, a3, a4] [.int (Int32.ofInt 3), .int s0, .ref s1] lay M P := e_iconst rfl
set_option maxRecDepth 20000 in
theorem g201_36 {d : Nat} {a0 a1 a2 a3 a4 : Option Value} {s0 : Int32} {s1 : Int32} {s2 : Nat} {lay : List mShp} {M : mMem} {P : mPost} (hs : mSh lay s2 = some (13, 44)) : mG (d + 1) 201 36 [a0, a1, a2, a3, a4] [.int s0, .int s1, .ref s2] lay M P = mF d 152 [.ref s2, .int s1, .int s0] lay M (fun v lay1 M1 => mG (d + 1) 201 39 [a0, a1, a2, a3, a4] (v.toList ++ []) lay1 M1 P) := e_virtP2 (j := 152) (c := 10) rfl rfl rfl rfl rfl rfl hs (Nat.le_of_ble_eq_true rfl)
set_option maxRecDepth 20000 in
theorem g201_39 {d : Nat} {a1 a2 a3 a4 : Option Value} {s0 : Int32} {x : Nat} {lay : List mShp} {M : mMem} {P : mPost} (hx : ¬ x = 0) : mG (d) 201 39 [some (.ref x), a1, a2, a3, a4] [.int s0] lay M P = mG d 201 40 [some (.ref x), a1, a2, a3, a4] [.ref x, .int s0] lay M P := e_aload_nP hx (i := 0) rfl rfl rfl
set_option maxRecDepth 20000 in
theorem g201_40 {d : Nat} {a0 a2 a3 a4 : Option Value} {s0 : Nat} {s1 : Int32} {x : Int32} {lay : List mShp} {M : mMem} {P : mPost} : mG (d) 201 40 [a0, some (.int x), a2, a3, a4] [.ref s0, .int s1] lay M P = mG d 201 41 [a0, some (.int x), a2, a3, a4] [.int x, .ref s0, .int s1] lay M P := e_iload_n (i := 1) rfl rfl rfl
set_option maxRecDepth 20000 in
theorem g201_41 {d : Nat} {a0 a1 a2 a3 : Option Value} {s0 : Int32} {s1 : Nat} {s2 : Int32} {x : Int32} {lay : List mShp} {M : mMem} {P : mPost} : mG (d) 201 41 [a0, a1, a2, a3, some (.int x)] [.int s0, .ref s1, .int s2] lay M P = mG d 201 43 [a0, a1, a2, a3, some (.int x)] [.int x, .int s0, .ref s1, .int s2] lay M P := e_iload (i := 4) rfl rfl
set_option maxRecDepth 20000 in
theorem g201_43 {d : Nat} {a0 a1 a2 a3 a4 : Option Value} {s0 : Int32} {s1 : Int32} {s2 : Nat} {s3 : Int32} {lay : List mShp} {M : mMem} {P : mPost} (hs : mSh lay s2 = some (13, 44)) : mG (d + 1) 201 43 [a0, a1, a2, a3, a4] [.int s0, .int s1, .ref s2, .int s3] lay M P = mF d 199 [.ref s2, .int s1, .int s0] lay M (fun v lay1 M1 => mG (d + 1) 201 46 [a0, a1, a2, a3, a4] (v.toList ++ [.int s3]) lay1 M1 P) := e_virtP2 (j := 199) (c := 10) rfl rfl rfl rfl rfl rfl hs (Nat.le_of_ble_eq_true rfl)
set_option maxRecDepth 20000 in
theorem g201_46 {d : Nat} {a0 a1 a2 a3 a4 : Option Value} {s0 : Int32} {s1 : Int32} {lay : List mShp} {M : mMem} {P : mPost} : mG (d) 201 46 [a0, a1, a2, a3, a4] [.int s0, .int s1] lay M P = if s1 = s0 then mG d 201 49 [a0, a1, a2, a3, a4] [] lay M P else mG d 201 54 [a0, a1, a2, a3, a4] [] lay M P := e_icmp_ne rfl rfl
set_option maxRecDepth 20000 in
theorem g201_49 {d : Nat} {a0 a1 a2 a3 a4 : Option Value} {lay : List mShp} {M : mMem} {P : mPost} : mG (d) 201 49 [a0, a1, a2, a3, a4] [] lay M P = mG d 201 51 [a0, a1, a2, a3, a4] [.int (Int32.ofInt (-2))] lay M P := e_bipush rfl
set_option maxRecDepth 20000 in
theorem g201_51 {d : Nat} {a0 a1 a2 a3 a4 : Option Value} {s0 : Int32} {lay : List mShp} {M : mMem} {P : mPost} : mG (d) 201 51 [a0, a1, a2, a3, a4] [.int s0] lay M P = mG d 201 56 [a0, a1, a2, a3, a4] [.int s0] lay M P := e_goto rfl rfl
set_option maxRecDepth 20000 in
theorem g201_54 {d : Nat} {a0 a1 a2 a3 : Option Value} {x : Int32} {lay : List mShp} {M : mMem} {P : mPost} : mG (d) 201 54 [a0, a1, a2, a3, some (.int x)] [] lay M P = mG d 201 56 [a0, a1, a2, a3, some (.int x)] [.int x] lay M P := e_iload (i := 4) rfl rfl
set_option maxRecDepth 20000 in
theorem g201_56 {d : Nat} {a0 a1 a2 a3 a4 : Option Value} {s0 : Int32} {lay : List mShp} {M : mMem} {P : mPost} (h0 : mNoL a2 = true) : mG (d) 201 56 [a0, a1, a2, a3, a4] [.int s0] lay M P = mG d 201 57 [a0, a1, a2, some (.int s0), a4] [] lay M P := e_istore_n (i := 3) rfl rfl (by simp) (mS1_3 h0)
set_option maxRecDepth 20000 in
theorem g201_57 {d : Nat} {a1 a2 a3 a4 : Option Value} {x : Nat} {lay : List mShp} {M : mMem} {P : mPost} (hx : ¬ x = 0) : mG (d) 201 57 [some (.ref x), a1, a2, a3, a4] [] lay M P = mG d 201 58 [some (.ref x), a1, a2, a3, a4] [.ref x] lay M P := e_aload_nP hx (i := 0) rfl rfl rfl
set_option maxRecDepth 20000 in
theorem g201_58 {d : Nat} {a0 a1 a2 a3 a4 : Option Value} {s0 : Nat} {lay : List mShp} {M : mMem} {P : mPost} (hs : mSh lay s0 = some (13, 44)) : mG (d + 1) 201 58 [a0, a1, a2, a3, a4] [.ref s0] lay M P = mF d 179 [.ref s0] lay M (fun v lay1 M1 => mG (d + 1) 201 61 [a0, a1, a2, a3, a4] (v.toList ++ []) lay1 M1 P) := e_virtP0 (j := 179) (c := 10) rfl rfl rfl rfl rfl rfl hs (Nat.le_of_ble_eq_true rfl)
set_option maxRecDepth 20000 in
theorem g201_61 {d : Nat} {a0 a1 a2 a3 : Option Value} {x : Int32} {lay : List mShp} {M : mMem} {P : mPost} (h0 : mNoL a3 = true) : mG (d) 201 61 [a0, a1, a2, a3, some (.int x)] [] lay M P = mG d 201 64 [a0, a1, a2, a3, some (.int (x + Int32.ofInt 1))] [] lay M P := e_iinc (n := 4) rfl rfl (mS1_4 h0)
set_option maxRecDepth 20000 in
theorem g201_64 {d : Nat} {a0 a1 a2 a3 a4 : Option Value} {lay : List mShp} {M : mMem} {P : mPost} : mG (d) 201 64 [a0, a1, a2, a3, a4] [] lay M P = mG d 201 11 [a0, a1, a2, a3, a4] [] lay M P := e_goto rfl rfl
set_option maxRecDepth 20000 in
theorem g201_67 {d : Nat} {a1 a2 a3 a4 : Option Value} {x : Nat} {lay : List mShp} {M : mMem} {P : mPost} (hx : ¬ x = 0) : mG (d) 201 67 [some (.ref x), a1, a2, a3, a4] [] lay M P = mG d 201 68 [some (.ref x), a1, a2, a3, a4] [.ref x] lay M P := e_aload_nP hx (i := 0) rfl rfl rfl
set_option maxRecDepth 20000 in
theorem g201_68 {d : Nat} {a0 a1 a2 a3 a4 : Option Value} {s0 : Nat} {lay : List mShp} {M : mMem} {P : mPost} : mG (d) 201 68 [a0, a1, a2, a3, a4] [.ref s0] lay M P = mG d 201 69 [a0, a1, a2, a3, a4] [.int (Int32.ofInt 0), .ref s0] lay M P := e_iconst rfl
set_option maxRecDepth 20000 in
theorem g201_69 {d : Nat} {a0 a1 a2 a3 a4 : Option Value} {s0 : Int32} {s1 : Nat} {lay : List mShp} {M : mMem} {P : mPost} (hs : mSh lay s1 = some (13, 44)) : mG (d + 1) 201 69 [a0, a1, a2, a3, a4] [.int s0, .ref s1] lay M P = mF d 150 [.ref s1, .int s0] lay M (fun v lay1 M1 => mG (d + 1) 201 72 [a0, a1, a2, a3, a4] (v.toList ++ []) lay1 M1 P) := e_virtP1 (j := 150) (c := 10) rfl rfl rfl rfl rfl rfl hs (Nat.le_of_ble_eq_true rfl)
set_option maxRecDepth 20000 in
theorem g201_72 {d : Nat} {a0 a1 a2 a4 : Option Value} {x : Int32} {lay : List mShp} {M : mMem} {P : mPost} : mG (d) 201 72 [a0, a1, a2, some (.int x), a4] [] lay M P = mG d 201 73 [a0, a1, a2, some (.int x), a4] [.int x] lay M P := e_iload_n (i := 3) rfl rfl rfl
set_option maxRecDepth 20000 in
theorem g201_73 {d : Nat} {a0 a1 a2 a3 a4 : Option Value} {s0 : Int32} {lay : List mShp} {M : mMem} {P : mPost} : mG (d) 201 73 [a0, a1, a2, a3, a4] [.int s0] lay M P = P (some (.int s0)) lay M := e_ireturnI rfl rfl
-- 202 X10_judge
theorem g202_in {d : Nat} {x0 : Nat} {x1 : Int32} {x2 : Int32} {lay : List mShp} {M : mMem} {P : mPost} : mF d 202 [.ref x0, .int x1, .int x2] lay M P = mG d 202 0 [some (.ref x0), some (.int x1), some (.int x2)] [] lay M P := mF_in rfl rfl
set_option maxRecDepth 20000 in
theorem g202_0 {d : Nat} {a0 a2 : Option Value} {x : Int32} {lay : List mShp} {M : mMem} {P : mPost} : mG (d) 202 0 [a0, some (.int x), a2] [] lay M P = mG d 202 1 [a0, some (.int x), a2] [.int x] lay M P := e_iload_n (i := 1) rfl rfl rfl
set_option maxRecDepth 20000 in
theorem g202_1 {d : Nat} {a0 a1 a2 : Option Value} {s0 : Int32} {lay : List mShp} {M : mMem} {P : mPost} : mG (d + 1) 202 1 [a0, a1, a2] [.int s0] lay M P = mF d 197 [.int s0] lay M (fun v lay1 M1 => mG (d + 1) 202 4 [a0, a1, a2] (v.toList ++ []) lay1 M1 P) := e_static1 (j := 197) rfl rfl rfl rfl rfl (Nat.le_of_ble_eq_true rfl)
set_option maxRecDepth 20000 in
theorem g202_4 {d : Nat} {a0 a1 a2 : Option Value} {s0 : Int32} {lay : List mShp} {M : mMem} {P : mPost} : mG (d) 202 4 [a0, a1, a2] [.int s0] lay M P = if s0 = 0 then mG d 202 15 [a0, a1, a2] [] lay M P else mG d 202 7 [a0, a1, a2] [] lay M P := e_if_eq rfl rfl
set_option maxRecDepth 20000 in
theorem g202_7 {d : Nat} {a1 a2 : Option Value} {x : Nat} {lay : List mShp} {M : mMem} {P : mPost} (hx : ¬ x = 0) : mG (d) 202 7 [some (.ref x), a1, a2] [] lay M P = mG d 202 8 [some (.ref x), a1, a2] [.ref x] lay M P := e_aload_nP hx (i := 0) rfl rfl rfl
set_option maxRecDepth 20000 in
theorem g202_8 {d : Nat} {a0 a1 : Option Value} {s0 : Nat} {x : Int32} {lay : List mShp} {M : mMem} {P : mPost} : mG (d) 202 8 [a0, a1, some (.int x)] [.ref s0] lay M P = mG d 202 9 [a0, a1, some (.int x)] [.int x, .ref s0] lay M P := e_iload_n (i := 2) rfl rfl rfl
set_option maxRecDepth 20000 in
theorem g202_9 {d : Nat} {a0 a1 a2 : Option Value} {s0 : Int32} {s1 : Nat} {lay : List mShp} {M : mMem} {P : mPost} (hs : mSh lay s1 = some (13, 44)) : mG (d + 1) 202 9 [a0, a1, a2] [.int s0, .ref s1] lay M P = mF d 151 [.ref s1, .int s0] lay M (fun v lay1 M1 => mG (d + 1) 202 12 [a0, a1, a2] (v.toList ++ []) lay1 M1 P) := e_virtP1 (j := 151) (c := 10) rfl rfl rfl rfl rfl rfl hs (Nat.le_of_ble_eq_true rfl)
set_option maxRecDepth 20000 in
theorem g202_12 {d : Nat} {a0 a1 a2 : Option Value} {s0 : Int32} {lay : List mShp} {M : mMem} {P : mPost} : mG (d) 202 12 [a0, a1, a2] [.int s0] lay M P = if s0 = 0 then mG d 202 15 [a0, a1, a2] [] lay M P else mG d 202 17 [a0, a1, a2] [] lay M P := e_if_ne rfl rfl
set_option maxRecDepth 20000 in
theorem g202_15 {d : Nat} {a0 a1 a2 : Option Value} {lay : List mShp} {M : mMem} {P : mPost} : mG (d) 202 15 [a0, a1, a2] [] lay M P = mG d 202 16 [a0, a1, a2] [.int (Int32.ofInt (-1))] lay M P := e_iconst rfl
set_option maxRecDepth 20000 in
theorem g202_16 {d : Nat} {a0 a1 a2 : Option Value} {s0 : Int32} {lay : List mShp} {M : mMem} {P : mPost} : mG (d) 202 16 [a0, a1, a2] [.int s0] lay M P = P (some (.int s0)) lay M := e_ireturnI rfl rfl
set_option maxRecDepth 20000 in
theorem g202_17 {d : Nat} {a1 a2 : Option Value} {x : Nat} {lay : List mShp} {M : mMem} {P : mPost} (hx : ¬ x = 0) : mG (d) 202 17 [some (.ref x), a1, a2] [] lay M P = mG d 202 18 [some (.ref x), a1, a2] [.ref x] lay M P := e_aload_nP hx (i := 0) rfl rfl rfl
set_option maxRecDepth 20000 in
theorem g202_18 {d : Nat} {a0 a2 : Option Value} {s0 : Nat} {x : Int32} {lay : List mShp} {M : mMem} {P : mPost} : mG (d) 202 18 [a0, some (.int x), a2] [.ref s0] lay M P = mG d 202 19 [a0, some (.int x), a2] [.int x, .ref s0] lay M P := e_iload_n (i := 1) rfl rfl rfl
set_option maxRecDepth 20000 in
theorem g202_19 {d : Nat} {a0 a1 a2 : Option Value} {s0 : Int32} {s1 : Nat} {lay : List mShp} {M : mMem} {P : mPost} (hs : mSh lay s1 = some (13, 44)) : mG (d + 1) 202 19 [a0, a1, a2] [.int s0, .ref s1] lay M P = mF d 198 [.ref s1, .int s0] lay M (fun v lay1 M1 => mG (d + 1) 202 22 [a0, a1, a2] (v.toList ++ []) lay1 M1 P) := e_virtP1 (j := 198) (c := 10) rfl rfl rfl rfl rfl rfl hs (Nat.le_of_ble_eq_true rfl)
set_option maxRecDepth 20000 in
theorem g202_22 {d : Nat} {a0 a1 a2 : Option Value} {s0 : Int32} {lay : List mShp} {M : mMem} {P : mPost} : mG (d) 202 22 [a0, a1, a2] [.int s0] lay M P = mG d 202 23 [a0, a1, a2] [.int (Int32.ofInt 1), .int s0] lay M P := e_iconst rfl
set_option maxRecDepth 20000 in
theorem g202_23 {d : Nat} {a0 a1 a2 : Option Value} {s0 : Int32} {s1 : Int32} {lay : List mShp} {M : mMem} {P : mPost} : mG (d) 202 23 [a0, a1, a2] [.int s0, .int s1] lay M P = if s1 < s0 then mG d 202 26 [a0, a1, a2] [] lay M P else mG d 202 34 [a0, a1, a2] [] lay M P := e_icmp_ge rfl rfl
set_option maxRecDepth 20000 in
theorem g202_26 {d : Nat} {a1 a2 : Option Value} {x : Nat} {lay : List mShp} {M : mMem} {P : mPost} (hx : ¬ x = 0) : mG (d) 202 26 [some (.ref x), a1, a2] [] lay M P = mG d 202 27 [some (.ref x), a1, a2] [.ref x] lay M P := e_aload_nP hx (i := 0) rfl rfl rfl
set_option maxRecDepth 20000 in
theorem g202_27 {d : Nat} {a0 a2 : Option Value} {s0 : Nat} {x : Int32} {lay : List mShp} {M : mMem} {P : mPost} : mG (d) 202 27 [a0, some (.int x), a2] [.ref s0] lay M P = mG d 202 28 [a0, some (.int x), a2] [.int x, .ref s0] lay M P := e_iload_n (i := 1) rfl rfl rfl
set_option maxRecDepth 20000 in
theorem g202_28 {d : Nat} {a0 a1 a2 : Option Value} {s0 : Int32} {s1 : Nat} {lay : List mShp} {M : mMem} {P : mPost} (hs : mSh lay s1 = some (13, 44)) : mG (d + 1) 202 28 [a0, a1, a2] [.int s0, .ref s1] lay M P = mF d 198 [.ref s1, .int s0] lay M (fun v lay1 M1 => mG (d + 1) 202 31 [a0, a1, a2] (v.toList ++ []) lay1 M1 P) := e_virtP1 (j := 198) (c := 10) rfl rfl rfl rfl rfl rfl hs (Nat.le_of_ble_eq_true rfl)
set_option maxRecDepth 20000 in
theorem g202_31 {d : Nat} {a0 a1 a2 : Option Value} {s0 : Int32} {lay : List mShp} {M : mMem} {P : mPost} : mG (d) 202 31 [a0, a1, a2] [.int s0] lay M P = mG d 202 40 [a0, a1, a2] [.int s0] lay M P := e_goto rfl rfl
set_option maxRecDepth 20000 in
theorem g202_34 {d : Nat} {a1 a2 : Option Value} {x : Nat} {lay : List mShp} {M : mMem} {P : mPost} (hx : ¬ x = 0) : mG (d) 202 34 [some (.ref x), a1, a2] [] lay M P = mG d 202 35 [some (.ref x), a1, a2] [.ref x] lay M P := e_aload_nP hx (i := 0) rfl rfl rfl
set_option maxRecDepth 20000 in
theorem g202_35 {d : Nat} {a0 a2 : Option Value} {s0 : Nat} {x : Int32} {lay : List mShp} {M : mMem} {P : mPost} : mG (d) 202 35 [a0, some (.int x), a2] [.ref s0] lay M P = mG d 202 36 [a0, some (.int x), a2] [.int x, .ref s0] lay M P := e_iload_n (i := 1) rfl rfl rfl
set_option maxRecDepth 20000 in
theorem g202_36 {d : Nat} {a0 a1 : Option Value} {s0 : Int32} {s1 : Nat} {x : Int32} {lay : List mShp} {M : mMem} {P : mPost} : mG (d) 202 36 [a0, a1, some (.int x)] [.int s0, .ref s1] lay M P = mG d 202 37 [a0, a1, some (.int x)] [.int x, .int s0, .ref s1] lay M P := e_iload_n (i := 2) rfl rfl rfl
set_option maxRecDepth 20000 in
theorem g202_37 {d : Nat} {a0 a1 a2 : Option Value} {s0 : Int32} {s1 : Int32} {s2 : Nat} {lay : List mShp} {M : mMem} {P : mPost} (hs : mSh lay s2 = some (13, 44)) : mG (d + 1) 202 37 [a0, a1, a2] [.int s0, .int s1, .ref s2] lay M P = mF d 201 [.ref s2, .int s1, .int s0] lay M (fun v lay1 M1 => mG (d + 1) 202 40 [a0, a1, a2] (v.toList ++ []) lay1 M1 P) := e_virtP2 (j := 201) (c := 10) rfl rfl rfl rfl rfl rfl hs (Nat.le_of_ble_eq_true rfl)
set_option maxRecDepth 20000 in
theorem g202_40 {d : Nat} {a0 a1 a2 : Option Value} {s0 : Int32} {lay : List mShp} {M : mMem} {P : mPost} : mG (d) 202 40 [a0, a1, a2] [.int s0] lay M P = P (some (.int s0)) lay M := e_ireturnI rfl rfl
-- 203 X10_fits
theorem g203_in {d : Nat} {x0 : Nat} {x1 : Int32} {x2 : Int32} {x3 : Int32} {lay : List mShp} {M : mMem} {P : mPost} : mF d 203 [.ref x0, .int x1, .int x2, .int x3] lay M P = mG d 203 0 [some (.ref x0), some (.int x1), some (.int x2), some (.int x3), none, none, none, none, none, none, none, none] [] lay M P := mF_in rfl rfl
set_option maxRecDepth 20000 in
theorem g203_0 {d : Nat} {a0 a2 a3 a4 a5 a6 a7 a8 a9 a10 a11 : Option Value} {x : Int32} {lay : List mShp} {M : mMem} {P : mPost} : mG (d) 203 0 [a0, some (.int x), a2, a3, a4, a5, a6, a7, a8, a9, a10, a11] [] lay M P = mG d 203 1 [a0, some (.int x), a2, a3, a4, a5, a6, a7, a8, a9, a10, a11] [.int x] lay M P := e_iload_n (i := 1) rfl rfl rfl
set_option maxRecDepth 20000 in
theorem g203_1 {d : Nat} {a0 a1 a2 a3 a4 a5 a6 a7 a8 a9 a10 a11 : Option Value} {s0 : Int32} {lay : List mShp} {M : mMem} {P : mPost} : mG (d + 1) 203 1 [a0, a1, a2, a3, a4, a5, a6, a7, a8, a9, a10, a11] [.int s0] lay M P = mF d 197 [.int s0] lay M (fun v lay1 M1 => mG (d + 1) 203 4 [a0, a1, a2, a3, a4, a5, a6, a7, a8, a9, a10, a11] (v.toList ++ []) lay1 M1 P) := e_static1 (j := 197) rfl rfl rfl rfl rfl (Nat.le_of_ble_eq_true rfl)
set_option maxRecDepth 20000 in
theorem g203_4 {d : Nat} {a0 a1 a2 a3 a4 a5 a6 a7 a8 a9 a10 a11 : Option Value} {s0 : Int32} {lay : List mShp} {M : mMem} {P : mPost} : mG (d) 203 4 [a0, a1, a2, a3, a4, a5, a6, a7, a8, a9, a10, a11] [.int s0] lay M P = if s0 = 0 then mG d 203 42 [a0, a1, a2, a3, a4, a5, a6, a7, a8, a9, a10, a11] [] lay M P else mG d 203 7 [a0, a1, a2, a3, a4, a5, a6, a7, a8, a9, a10, a11] [] lay M P := e_if_eq rfl rfl
set_option maxRecDepth 20000 in
theorem g203_7 {d : Nat} {a0 a1 a3 a4 a5 a6 a7 a8 a9 a10 a11 : Option Value} {x : Int32} {lay : List mShp} {M : mMem} {P : mPost} : mG (d) 203 7 [a0, a1, some (.int x), a3, a4, a5, a6, a7, a8, a9, a10, a11] [] lay M P = mG d 203 8 [a0, a1, some (.int x), a3, a4, a5, a6, a7, a8, a9, a10, a11] [.int x] lay M P := e_iload_n (i := 2) rfl rfl rfl
set_option maxRecDepth 20000 in
theorem g203_8 {d : Nat} {a0 a1 a2 a3 a4 a5 a6 a7 a8 a9 a10 a11 : Option Value} {s0 : Int32} {lay : List mShp} {M : mMem} {P : mPost} : mG (d) 203 8 [a0, a1, a2, a3, a4, a5, a6, a7, a8, a9, a10, a11] [.int s0] lay M P = if s0 < 0 then mG d 203 42 [a0, a1, a2, a3, a4, a5, a6, a7, a8, a9, a10, a11] [] lay M P else mG d 203 11 [a0, a1, a2, a3, a4, a5, a6, a7, a8, a9, a10, a11] [] lay M P := e_if_lt rfl rfl
set_option maxRecDepth 20000 in
theorem g203_11 {d : Nat} {a1 a2 a3 a4 a5 a6 a7 a8 a9 a10 a11 : Option Value} {x : Nat} {lay : List mShp} {M : mMem} {P : mPost} (hx : ¬ x = 0) : mG (d) 203 11 [some (.ref x), a1, a2, a3, a4, a5, a6, a7, a8, a9, a10, a11] [] lay M P = mG d 203 12 [some (.ref x), a1, a2, a3, a4, a5, a6, a7, a8, a9, a10, a11] [.ref x] lay M P := e_aload_nP hx (i := 0) rfl rfl rfl
set_option maxRecDepth 20000 in
theorem g203_12 {d : Nat} {a0 a1 a3 a4 a5 a6 a7 a8 a9 a10 a11 : Option Value} {s0 : Nat} {x : Int32} {lay : List mShp} {M : mMem} {P : mPost} : mG (d) 203 12 [a0, a1, some (.int x), a3, a4, a5, a6, a7, a8, a9, a10, a11] [.ref s0] lay M P = mG d 203 13 [a0, a1, some (.int x), a3, a4, a5, a6, a7, a8, a9, a10, a11] [.int x, .ref s0] lay M P := e_iload_n (i := 2) rfl rfl rfl
set_option maxRecDepth 20000 in
theorem g203_13 {d : Nat} {a0 a1 a2 a3 a4 a5 a6 a7 a8 a9 a10 a11 : Option Value} {s0 : Int32} {s1 : Nat} {lay : List mShp} {M : mMem} {P : mPost} : mG (d) 203 13 [a0, a1, a2, a3, a4, a5, a6, a7, a8, a9, a10, a11] [.int s0, .ref s1] lay M P = mG d 203 15 [a0, a1, a2, a3, a4, a5, a6, a7, a8, a9, a10, a11] [.int (Int32.ofInt 10), .int s0, .ref s1] lay M P := e_bipush rfl
set_option maxRecDepth 20000 in
theorem g203_15 {d : Nat} {a0 a1 a2 a3 a4 a5 a6 a7 a8 a9 a10 a11 : Option Value} {s0 : Int32} {s1 : Int32} {s2 : Nat} {lay : List mShp} {M : mMem} {P : mPost} : mG (d) 203 15 [a0, a1, a2, a3, a4, a5, a6, a7, a8, a9, a10, a11] [.int s0, .int s1, .ref s2] lay M P = (s0 ≠ 0 ∧ mG d 203 16 [a0, a1, a2, a3, a4, a5, a6, a7, a8, a9, a10, a11] [.int (s1 / s0), .ref s2] lay M P) := e_idiv rfl
set_option maxRecDepth 20000 in
theorem g203_16 {d : Nat} {a0 a1 a2 a3 a4 a5 a6 a7 a8 a9 a10 a11 : Option Value} {s0 : Int32} {s1 : Nat} {lay : List mShp} {M : mMem} {P : mPost} (hs : mSh lay s1 = some (13, 44)) : mG (d + 1) 203 16 [a0, a1, a2, a3, a4, a5, a6, a7, a8, a9, a10, a11] [.int s0, .ref s1] lay M P = mF d 151 [.ref s1, .int s0] lay M (fun v lay1 M1 => mG (d + 1) 203 19 [a0, a1, a2, a3, a4, a5, a6, a7, a8, a9, a10, a11] (v.toList ++ []) lay1 M1 P) := e_virtP1 (j := 151) (c := 10) rfl rfl rfl rfl rfl rfl hs (Nat.le_of_ble_eq_true rfl)
set_option maxRecDepth 20000 in
theorem g203_19 {d : Nat} {a0 a1 a2 a3 a4 a5 a6 a7 a8 a9 a10 a11 : Option Value} {s0 : Int32} {lay : List mShp} {M : mMem} {P : mPost} : mG (d) 203 19 [a0, a1, a2, a3, a4, a5, a6, a7, a8, a9, a10, a11] [.int s0] lay M P = if s0 = 0 then mG d 203 42 [a0, a1, a2, a3, a4, a5, a6, a7, a8, a9, a10, a11] [] lay M P else mG d 203 22 [a0, a1, a2, a3, a4, a5, a6, a7, a8, a9, a10, a11] [] lay M P := e_if_eq rfl rfl
set_option maxRecDepth 20000 in
theorem g203_22 {d : Nat} {a1 a2 a3 a4 a5 a6 a7 a8 a9 a10 a11 : Option Value} {x : Nat} {lay : List mShp} {M : mMem} {P : mPost} (hx : ¬ x = 0) : mG (d) 203 22 [some (.ref x), a1, a2, a3, a4, a5, a6, a7, a8, a9, a10, a11] [] lay M P = mG d 203 23 [some (.ref x), a1, a2, a3, a4, a5, a6, a7, a8, a9, a10, a11] [.ref x] lay M P := e_aload_nP hx (i := 0) rfl rfl rfl
set_option maxRecDepth 20000 in
theorem g203_23 {d : Nat} {a0 a1 a3 a4 a5 a6 a7 a8 a9 a10 a11 : Option Value} {s0 : Nat} {x : Int32} {lay : List mShp} {M : mMem} {P : mPost} : mG (d) 203 23 [a0, a1, some (.int x), a3, a4, a5, a6, a7, a8, a9, a10, a11] [.ref s0] lay M P = mG d 203 24 [a0, a1, some (.int x), a3, a4, a5, a6, a7, a8, a9, a10, a11] [.int x, .ref s0] lay M P := e_iload_n (i := 2) rfl rfl rfl
set_option maxRecDepth 20000 in
theorem g203_24 {d : Nat} {a0 a1 a2 a3 a4 a5 a6 a7 a8 a9 a10 a11 : Option Value} {s0 : Int32} {s1 : Nat} {lay : List mShp} {M : mMem} {P : mPost} : mG (d) 203 24 [a0, a1, a2, a3, a4, a5, a6, a7, a8, a9, a10, a11] [.int s0, .ref s1] lay M P = mG d 203 26 [a0, a1, a2, a3, a4, a5, a6, a7, a8, a9, a10, a11] [.int (Int32.ofInt 10), .int s0, .ref s1] lay M P := e_bipush rfl
set_option maxRecDepth 20000 in
theorem g203_26 {d : Nat} {a0 a1 a2 a3 a4 a5 a6 a7 a8 a9 a10 a11 : Option Value} {s0 : Int32} {s1 : Int32} {s2 : Nat} {lay : List mShp} {M : mMem} {P : mPost} : mG (d) 203 26 [a0, a1, a2, a3, a4, a5, a6, a7, a8, a9, a10, a11] [.int s0, .int s1, .ref s2] lay M P = (s0 ≠ 0 ∧ mG d 203 27 [a0, a1, a2, a3, a4, a5, a6, a7, a8, a9, a10, a11] [.int (s1 - s1 / s0 * s0), .ref s2] lay M P) := e_irem rfl
set_option maxRecDepth 20000 in
theorem g203_27 {d : Nat} {a0 a1 a2 a3 a4 a5 a6 a7 a8 a9 a10 a11 : Option Value} {s0 : Int32} {s1 : Nat} {lay : List mShp} {M : mMem} {P : mPost} (hs : mSh lay s1 = some (13, 44)) : mG (d + 1) 203 27 [a0, a1, a2, a3, a4, a5, a6, a7, a8, a9, a10, a11] [.int s0, .ref s1] lay M P = mF d 151 [.ref s1, .int s0] lay M (fun v lay1 M1 => mG (d + 1) 203 30 [a0, a1, a2, a3, a4, a5, a6, a7, a8, a9, a10, a11] (v.toList ++ []) lay1 M1 P) := e_virtP1 (j := 151) (c := 10) rfl rfl rfl rfl rfl rfl hs (Nat.le_of_ble_eq_true rfl)
set_option maxRecDepth 20000 in
theorem g203_30 {d : Nat} {a0 a1 a2 a3 a4 a5 a6 a7 a8 a9 a10 a11 : Option Value} {s0 : Int32} {lay : List mShp} {M : mMem} {P : mPost} : mG (d) 203 30 [a0, a1, a2, a3, a4, a5, a6, a7, a8, a9, a10, a11] [.int s0] lay M P = if s0 = 0 then mG d 203 42 [a0, a1, a2, a3, a4, a5, a6, a7, a8, a9, a10, a11] [] lay M P else mG d 203 33 [a0, a1, a2, a3, a4, a5, a6, a7, a8, a9, a10, a11] [] lay M P := e_if_eq rfl rfl
set_option maxRecDepth 20000 in
theorem g203_33 {d : Nat} {a0 a1 a2 a4 a5 a6 a7 a8 a9 a10 a11 : Option Value} {x : Int32} {lay : List mShp} {M : mMem} {P : mPost} : mG (d) 203 33 [a0, a1, a2, some (.int x), a4, a5, a6, a7, a8, a9, a10, a11] [] lay M P = mG d 203 34 [a0, a1, a2, some (.int x), a4, a5, a6, a7, a8, a9, a10, a11] [.int x] lay M P := e_iload_n (i := 3) rfl rfl rfl
set_option maxRecDepth 20000 in
theorem g203_34 {d : Nat} {a0 a1 a2 a3 a4 a5 a6 a7 a8 a9 a10 a11 : Option Value} {s0 : Int32} {lay : List mShp} {M : mMem} {P : mPost} : mG (d) 203 34 [a0, a1, a2, a3, a4, a5, a6, a7, a8, a9, a10, a11] [.int s0] lay M P = mG d 203 35 [a0, a1, a2, a3, a4, a5, a6, a7, a8, a9, a10, a11] [.int (Int32.ofInt 0), .int s0] lay M P := e_iconst rfl
set_option maxRecDepth 20000 in
theorem g203_35 {d : Nat} {a0 a1 a2 a3 a4 a5 a6 a7 a8 a9 a10 a11 : Option Value} {s0 : Int32} {s1 : Int32} {lay : List mShp} {M : mMem} {P : mPost} : mG (d) 203 35 [a0, a1, a2, a3, a4, a5, a6, a7, a8, a9, a10, a11] [.int s0, .int s1] lay M P = mG d 203 36 [a0, a1, a2, a3, a4, a5, a6, a7, a8, a9, a10, a11] [.int (Int32.ofInt 2), .int s0, .int s1] lay M P := e_iconst rfl
set_option maxRecDepth 20000 in
theorem g203_36 {d : Nat} {a0 a1 a2 a3 a4 a5 a6 a7 a8 a9 a10 a11 : Option Value} {s0 : Int32} {s1 : Int32} {s2 : Int32} {lay : List mShp} {M : mMem} {P : mPost} : mG (d + 1) 203 36 [a0, a1, a2, a3, a4, a5, a6, a7, a8, a9, a10, a11] [.int s0, .int s1, .int s2] lay M P = mF d 146 [.int s2, .int s1, .int s0] lay M (fun v lay1 M1 => mG (d + 1) 203 39 [a0, a1, a2, a3, a4, a5, a6, a7, a8, a9, a10, a11] (v.toList ++ []) lay1 M1 P) := e_static3 (j := 146) rfl rfl rfl rfl rfl (Nat.le_of_ble_eq_true rfl)
set_option maxRecDepth 20000 in
theorem g203_39 {d : Nat} {a0 a1 a2 a3 a4 a5 a6 a7 a8 a9 a10 a11 : Option Value} {s0 : Int32} {lay : List mShp} {M : mMem} {P : mPost} : mG (d) 203 39 [a0, a1, a2, a3, a4, a5, a6, a7, a8, a9, a10, a11] [.int s0] lay M P = if s0 = 0 then mG d 203 42 [a0, a1, a2, a3, a4, a5, a6, a7, a8, a9, a10, a11] [] lay M P else mG d 203 44 [a0, a1, a2, a3, a4, a5, a6, a7, a8, a9, a10, a11] [] lay M P := e_if_ne rfl rfl
set_option maxRecDepth 20000 in
theorem g203_42 {d : Nat} {a0 a1 a2 a3 a4 a5 a6 a7 a8 a9 a10 a11 : Option Value} {lay : List mShp} {M : mMem} {P : mPost} : mG (d) 203 42 [a0, a1, a2, a3, a4, a5, a6, a7, a8, a9, a10, a11] [] lay M P = mG d 203 43 [a0, a1, a2, a3, a4, a5, a6, a7, a8, a9, a10, a11] [.int (Int32.ofInt (-1))] lay M P := e_iconst rfl
set_option maxRecDepth 20000 in
theorem g203_43 {d : Nat} {a0 a1 a2 a3 a4 a5 a6 a7 a8 a9 a10 a11 : Option Value} {s0 : Int32} {lay : List mShp} {M : mMem} {P : mPost} : mG (d) 203 43 [a0, a1, a2, a3, a4, a5, a6, a7, a8, a9, a10, a11] [.int s0] lay M P = P (some (.int s0)) lay M := e_ireturnI rfl rfl
set_option maxRecDepth 20000 in
theorem g203_44 {d : Nat} {a1 a2 a3 a4 a5 a6 a7 a8 a9 a10 a11 : Option Value} {x : Nat} {lay : List mShp} {M : mMem} {P : mPost} (hx : ¬ x = 0) : mG (d) 203 44 [some (.ref x), a1, a2, a3, a4, a5, a6, a7, a8, a9, a10, a11] [] lay M P = mG d 203 45 [some (.ref x), a1, a2, a3, a4, a5, a6, a7, a8, a9, a10, a11] [.ref x] lay M P := e_aload_nP hx (i := 0) rfl rfl rfl
set_option maxRecDepth 20000 in
theorem g203_45 {d : Nat} {a0 a2 a3 a4 a5 a6 a7 a8 a9 a10 a11 : Option Value} {s0 : Nat} {x : Int32} {lay : List mShp} {M : mMem} {P : mPost} : mG (d) 203 45 [a0, some (.int x), a2, a3, a4, a5, a6, a7, a8, a9, a10, a11] [.ref s0] lay M P = mG d 203 46 [a0, some (.int x), a2, a3, a4, a5, a6, a7, a8, a9, a10, a11] [.int x, .ref s0] lay M P := e_iload_n (i := 1) rfl rfl rfl
set_option maxRecDepth 20000 in
theorem g203_46 {d : Nat} {a0 a1 a2 a3 a4 a5 a6 a7 a8 a9 a10 a11 : Option Value} {s0 : Int32} {s1 : Nat} {lay : List mShp} {M : mMem} {P : mPost} (hs : mSh lay s1 = some (13, 44)) : mG (d + 1) 203 46 [a0, a1, a2, a3, a4, a5, a6, a7, a8, a9, a10, a11] [.int s0, .ref s1] lay M P = mF d 198 [.ref s1, .int s0] lay M (fun v lay1 M1 => mG (d + 1) 203 49 [a0, a1, a2, a3, a4, a5, a6, a7, a8, a9, a10, a11] (v.toList ++ []) lay1 M1 P) := e_virtP1 (j := 198) (c := 10) rfl rfl rfl rfl rfl rfl hs (Nat.le_of_ble_eq_true rfl)
set_option maxRecDepth 20000 in
theorem g203_49 {d : Nat} {a0 a1 a2 a3 a4 a5 a6 a7 a8 a9 a10 a11 : Option Value} {s0 : Int32} {lay : List mShp} {M : mMem} {P : mPost} : mG (d) 203 49 [a0, a1, a2, a3, a4, a5, a6, a7, a8, a9, a10, a11] [.int s0] lay M P = mG d 203 50 [a0, a1, a2, a3, a4, a5, a6, a7, a8, a9, a10, a11] [.int (Int32.ofInt 1), .int s0] lay M P := e_iconst rfl
set_option maxRecDepth 20000 in
theorem g203_50 {d : Nat} {a0 a1 a2 a3 a4 a5 a6 a7 a8 a9 a10 a11 : Option Value} {s0 : Int32} {s1 : Int32} {lay : List mShp} {M : mMem} {P : mPost} : mG (d) 203 50 [a0, a1, a2, a3, a4, a5, a6, a7, a8, a9, a10, a11] [.int s0, .int s1] lay M P = if s1 < s0 then mG d 203 53 [a0, a1, a2, a3, a4, a5, a6, a7, a8, a9, a10, a11] [] lay M P else mG d 203 59 [a0, a1, a2, a3, a4, a5, a6, a7, a8, a9, a10, a11] [] lay M P := e_icmp_ge rfl rfl
set_option maxRecDepth 20000 in
theorem g203_53 {d : Nat} {a1 a2 a3 a4 a5 a6 a7 a8 a9 a10 a11 : Option Value} {x : Nat} {lay : List mShp} {M : mMem} {P : mPost} (hx : ¬ x = 0) : mG (d) 203 53 [some (.ref x), a1, a2, a3, a4, a5, a6, a7, a8, a9, a10, a11] [] lay M P = mG d 203 54 [some (.ref x), a1, a2, a3, a4, a5, a6, a7, a8, a9, a10, a11] [.ref x] lay M P := e_aload_nP hx (i := 0) rfl rfl rfl
set_option maxRecDepth 20000 in
theorem g203_54 {d : Nat} {a0 a2 a3 a4 a5 a6 a7 a8 a9 a10 a11 : Option Value} {s0 : Nat} {x : Int32} {lay : List mShp} {M : mMem} {P : mPost} : mG (d) 203 54 [a0, some (.int x), a2, a3, a4, a5, a6, a7, a8, a9, a10, a11] [.ref s0] lay M P = mG d 203 55 [a0, some (.int x), a2, a3, a4, a5, a6, a7, a8, a9, a10, a11] [.int x, .ref s0] lay M P := e_iload_n (i := 1) rfl rfl rfl
set_option maxRecDepth 20000 in
theorem g203_55 {d : Nat} {a0 a1 a2 a3 a4 a5 a6 a7 a8 a9 a10 a11 : Option Value} {s0 : Int32} {s1 : Nat} {lay : List mShp} {M : mMem} {P : mPost} (hs : mSh lay s1 = some (13, 44)) : mG (d + 1) 203 55 [a0, a1, a2, a3, a4, a5, a6, a7, a8, a9, a10, a11] [.int s0, .ref s1] lay M P = mF d 198 [.ref s1, .int s0] lay M (fun v lay1 M1 => mG (d + 1) 203 58 [a0, a1, a2, a3, a4, a5, a6, a7, a8, a9, a10, a11] (v.toList ++ []) lay1 M1 P) := e_virtP1 (j := 198) (c := 10) rfl rfl rfl rfl rfl rfl hs (Nat.le_of_ble_eq_true rfl)
set_option maxRecDepth 20000 in
theorem g203_58 {d : Nat} {a0 a1 a2 a3 a4 a5 a6 a7 a8 a9 a10 a11 : Option Value} {s0 : Int32} {lay : List mShp} {M : mMem} {P : mPost} : mG (d) 203 58 [a0, a1, a2, a3, a4, a5, a6, a7, a8, a9, a10, a11] [.int s0] lay M P = P (some (.int s0)) lay M := e_ireturnI rfl rfl
set_option maxRecDepth 20000 in
theorem g203_59 {d : Nat} {a0 a1 a3 a4 a5 a6 a7 a8 a9 a10 a11 : Option Value} {x : Int32} {lay : List mShp} {M : mMem} {P : mPost} : mG (d) 203 59 [a0, a1, some (.int x), a3, a4, a5, a6, a7, a8, a9, a10, a11] [] lay M P = mG d 203 60 [a0, a1, some (.int x), a3, a4, a5, a6, a7, a8, a9, a10, a11] [.int x] lay M P := e_iload_n (i := 2) rfl rfl rfl
set_option maxRecDepth 20000 in
theorem g203_60 {d : Nat} {a0 a1 a2 a3 a4 a5 a6 a7 a8 a9 a10 a11 : Option Value} {s0 : Int32} {lay : List mShp} {M : mMem} {P : mPost} : mG (d) 203 60 [a0, a1, a2, a3, a4, a5, a6, a7, a8, a9, a10, a11] [.int s0] lay M P = mG d 203 62 [a0, a1, a2, a3, a4, a5, a6, a7, a8, a9, a10, a11] [.int (Int32.ofInt 10), .int s0] lay M P := e_bipush rfl
set_option maxRecDepth 20000 in
theorem g203_62 {d : Nat} {a0 a1 a2 a3 a4 a5 a6 a7 a8 a9 a10 a11 : Option Value} {s0 : Int32} {s1 : Int32} {lay : List mShp} {M : mMem} {P : mPost} : mG (d) 203 62 [a0, a1, a2, a3, a4, a5, a6, a7, a8, a9, a10, a11] [.int s0, .int s1] lay M P = (s0 ≠ 0 ∧ mG d 203 63 [a0, a1, a2, a3, a4, a5, a6, a7, a8, a9, a10, a11] [.int (s1 / s0)] lay M P) := e_idiv rfl
set_option maxRecDepth 20000 in
theorem g203_63 {d : Nat} {a0 a1 a2 a3 a4 a5 a6 a7 a8 a9 a10 a11 : Option Value} {s0 : Int32} {lay : List mShp} {M : mMem} {P : mPost} (h0 : mNoL a3 = true) : mG (d) 203 63 [a0, a1, a2, a3, a4, a5, a6, a7, a8, a9, a10, a11] [.int s0] lay M P = mG d 203 65 [a0, a1, a2, a3, some (.int s0), a5, a6, a7, a8, a9, a10, a11] [] lay M P := e_istore (i := 4) rfl (by simp) (mS1_4 h0)
set_option maxRecDepth 20000 in
theorem g203_65 {d : Nat} {a0 a1 a3 a4 a5 a6 a7 a8 a9 a10 a11 : Option Value} {x : Int32} {lay : List mShp} {M : mMem} {P : mPost} : mG (d) 203 65 [a0, a1, some (.int x), a3, a4, a5, a6, a7, a8, a9, a10, a11] [] lay M P = mG d 203 66 [a0, a1, some (.int x), a3, a4, a5, a6, a7, a8, a9, a10, a11] [.int x] lay M P := e_iload_n (i := 2) rfl rfl rfl
set_option maxRecDepth 20000 in
theorem g203_66 {d : Nat} {a0 a1 a2 a3 a4 a5 a6 a7 a8 a9 a10 a11 : Option Value} {s0 : Int32} {lay : List mShp} {M : mMem} {P : mPost} : mG (d) 203 66 [a0, a1, a2, a3, a4, a5, a6, a7, a8, a9, a10, a11] [.int s0] lay M P = mG d 203 68 [a0, a1, a2, a3, a4, a5, a6, a7, a8, a9, a10, a11] [.int (Int32.ofInt 10), .int s0] lay M P := e_bipush rfl
set_option maxRecDepth 20000 in
theorem g203_68 {d : Nat} {a0 a1 a2 a3 a4 a5 a6 a7 a8 a9 a10 a11 : Option Value} {s0 : Int32} {s1 : Int32} {lay : List mShp} {M : mMem} {P : mPost} : mG (d) 203 68 [a0, a1, a2, a3, a4, a5, a6, a7, a8, a9, a10, a11] [.int s0, .int s1] lay M P = (s0 ≠ 0 ∧ mG d 203 69 [a0, a1, a2, a3, a4, a5, a6, a7, a8, a9, a10, a11] [.int (s1 - s1 / s0 * s0)] lay M P) := e_irem rfl
set_option maxRecDepth 20000 in
theorem g203_69 {d : Nat} {a0 a1 a2 a3 a4 a5 a6 a7 a8 a9 a10 a11 : Option Value} {s0 : Int32} {lay : List mShp} {M : mMem} {P : mPost} (h0 : mNoL a4 = true) : mG (d) 203 69 [a0, a1, a2, a3, a4, a5, a6, a7, a8, a9, a10, a11] [.int s0] lay M P = mG d 203 71 [a0, a1, a2, a3, a4, some (.int s0), a6, a7, a8, a9, a10, a11] [] lay M P := e_istore (i := 5) rfl (by simp) (mS1_5 h0)
set_option maxRecDepth 20000 in
theorem g203_71 {d : Nat} {a0 a1 a2 a4 a5 a6 a7 a8 a9 a10 a11 : Option Value} {x : Int32} {lay : List mShp} {M : mMem} {P : mPost} : mG (d) 203 71 [a0, a1, a2, some (.int x), a4, a5, a6, a7, a8, a9, a10, a11] [] lay M P = mG d 203 72 [a0, a1, a2, some (.int x), a4, a5, a6, a7, a8, a9, a10, a11] [.int x] lay M P := e_iload_n (i := 3) rfl rfl rfl
set_option maxRecDepth 20000 in
theorem g203_72 {d : Nat} {a0 a1 a2 a3 a4 a5 a6 a7 a8 a9 a10 a11 : Option Value} {s0 : Int32} {lay : List mShp} {M : mMem} {P : mPost} : mG (d) 203 72 [a0, a1, a2, a3, a4, a5, a6, a7, a8, a9, a10, a11] [.int s0] lay M P = mG d 203 73 [a0, a1, a2, a3, a4, a5, a6, a7, a8, a9, a10, a11] [.int (Int32.ofInt 2), .int s0] lay M P := e_iconst rfl
set_option maxRecDepth 20000 in
theorem g203_73 {d : Nat} {a0 a1 a2 a3 a4 a5 a6 a7 a8 a9 a10 a11 : Option Value} {s0 : Int32} {s1 : Int32} {lay : List mShp} {M : mMem} {P : mPost} : mG (d) 203 73 [a0, a1, a2, a3, a4, a5, a6, a7, a8, a9, a10, a11] [.int s0, .int s1] lay M P = if s1 = s0 then mG d 203 76 [a0, a1, a2, a3, a4, a5, a6, a7, a8, a9, a10, a11] [] lay M P else mG d 203 80 [a0, a1, a2, a3, a4, a5, a6, a7, a8, a9, a10, a11] [] lay M P := e_icmp_ne rfl rfl
set_option maxRecDepth 20000 in
theorem g203_76 {d : Nat} {a0 a1 a2 a3 a4 a5 a6 a7 a8 a9 a10 a11 : Option Value} {lay : List mShp} {M : mMem} {P : mPost} : mG (d) 203 76 [a0, a1, a2, a3, a4, a5, a6, a7, a8, a9, a10, a11] [] lay M P = mG d 203 77 [a0, a1, a2, a3, a4, a5, a6, a7, a8, a9, a10, a11] [.int (Int32.ofInt 4)] lay M P := e_iconst rfl
set_option maxRecDepth 20000 in
theorem g203_77 {d : Nat} {a0 a1 a2 a3 a4 a5 a6 a7 a8 a9 a10 a11 : Option Value} {s0 : Int32} {lay : List mShp} {M : mMem} {P : mPost} : mG (d) 203 77 [a0, a1, a2, a3, a4, a5, a6, a7, a8, a9, a10, a11] [.int s0] lay M P = mG d 203 81 [a0, a1, a2, a3, a4, a5, a6, a7, a8, a9, a10, a11] [.int s0] lay M P := e_goto rfl rfl
set_option maxRecDepth 20000 in
theorem g203_80 {d : Nat} {a0 a1 a2 a3 a4 a5 a6 a7 a8 a9 a10 a11 : Option Value} {lay : List mShp} {M : mMem} {P : mPost} : mG (d) 203 80 [a0, a1, a2, a3, a4, a5, a6, a7, a8, a9, a10, a11] [] lay M P = mG d 203 81 [a0, a1, a2, a3, a4, a5, a6, a7, a8, a9, a10, a11] [.int (Int32.ofInt 1)] lay M P := e_iconst rfl
set_option maxRecDepth 20000 in
theorem g203_81 {d : Nat} {a0 a1 a2 a3 a4 a5 a6 a7 a8 a9 a10 a11 : Option Value} {s0 : Int32} {lay : List mShp} {M : mMem} {P : mPost} (h0 : mNoL a5 = true) : mG (d) 203 81 [a0, a1, a2, a3, a4, a5, a6, a7, a8, a9, a10, a11] [.int s0] lay M P = mG d 203 83 [a0, a1, a2, a3, a4, a5, some (.int s0), a7, a8, a9, a10, a11] [] lay M P := e_istore (i := 6) rfl (by simp) (mS1_6 h0)
set_option maxRecDepth 20000 in
theorem g203_83 {d : Nat} {a1 a2 a3 a4 a5 a6 a7 a8 a9 a10 a11 : Option Value} {x : Nat} {lay : List mShp} {M : mMem} {P : mPost} (hx : ¬ x = 0) : mG (d) 203 83 [some (.ref x), a1, a2, a3, a4, a5, a6, a7, a8, a9, a10, a11] [] lay M P = mG d 203 84 [some (.ref x), a1, a2, a3, a4, a5, a6, a7, a8, a9, a10, a11] [.ref x] lay M P := e_aload_nP hx (i := 0) rfl rfl rfl
set_option maxRecDepth 20000 in
theorem g203_84 {d : Nat} {a0 a1 a2 a3 a4 a6 a7 a8 a9 a10 a11 : Option Value} {s0 : Nat} {x : Int32} {lay : List mShp} {M : mMem} {P : mPost} : mG (d) 203 84 [a0, a1, a2, a3, a4, some (.int x), a6, a7, a8, a9, a10, a11] [.ref s0] lay M P = mG d 203 86 [a0, a1, a2, a3, a4, some (.int x), a6, a7, a8, a9, a10, a11] [.int x, .ref s0] lay M P := e_iload (i := 5) rfl rfl
set_option maxRecDepth 20000 in
theorem g203_86 {d : Nat} {a0 a1 a2 a3 a4 a5 a7 a8 a9 a10 a11 : Option Value} {s0 : Int32} {s1 : Nat} {x : Int32} {lay : List mShp} {M : mMem} {P : mPost} : mG (d) 203 86 [a0, a1, a2, a3, a4, a5, some (.int x), a7, a8, a9, a10, a11] [.int s0, .ref s1] lay M P = mG d 203 88 [a0, a1, a2, a3, a4, a5, some (.int x), a7, a8, a9, a10, a11] [.int x, .int s0, .ref s1] lay M P := e_iload (i := 6) rfl rfl
set_option maxRecDepth 20000 in
theorem g203_88 {d : Nat} {a0 a1 a2 a3 a4 a5 a6 a7 a8 a9 a10 a11 : Option Value} {s0 : Int32} {s1 : Int32} {s2 : Nat} {lay : List mShp} {M : mMem} {P : mPost} (hs : mSh lay s2 = some (13, 44)) : mG (d + 1) 203 88 [a0, a1, a2, a3, a4, a5, a6, a7, a8, a9, a10, a11] [.int s0, .int s1, .ref s2] lay M P = mF d 152 [.ref s2, .int s1, .int s0] lay M (fun v lay1 M1 => mG (d + 1) 203 91 [a0, a1, a2, a3, a4, a5, a6, a7, a8, a9, a10, a11] (v.toList ++ []) lay1 M1 P) := e_virtP2 (j := 152) (c := 10) rfl rfl rfl rfl rfl rfl hs (Nat.le_of_ble_eq_true rfl)
set_option maxRecDepth 20000 in
theorem g203_91 {d : Nat} {a0 a1 a2 a3 a4 a5 a6 a7 a8 a9 a10 a11 : Option Value} {s0 : Int32} {lay : List mShp} {M : mMem} {P : mPost} (h0 : mNoL a6 = true) : mG (d) 203 91 [a0, a1, a2, a3, a4, a5, a6, a7, a8, a9, a10, a11] [.int s0] lay M P = mG d 203 93 [a0, a1, a2, a3, a4, a5, a6, some (.int s0), a8, a9, a10, a11] [] lay M P := e_istore (i := 7) rfl (by simp) (mS1_7 h0)
set_option maxRecDepth 20000 in
theorem g203_93 {d : Nat} {a0 a1 a2 a3 a4 a5 a6 a7 a8 a9 a10 a11 : Option Value} {lay : List mShp} {M : mMem} {P : mPost} : mG (d) 203 93 [a0, a1, a2, a3, a4, a5, a6, a7, a8, a9, a10, a11] [] lay M P = mG d 203 94 [a0, a1, a2, a3, a4, a5, a6, a7, a8, a9, a10, a11] [.int (Int32.ofInt 0)] lay M P := e_iconst rfl
set_option maxRecDepth 20000 in
theorem g203_94 {d : Nat} {a0 a1 a2 a3 a4 a5 a6 a7 a8 a9 a10 a11 : Option Value} {s0 : Int32} {lay : List mShp} {M : mMem} {P : mPost} (h0 : mNoL a7 = true) : mG (d) 203 94 [a0, a1, a2, a3, a4, a5, a6, a7, a8, a9, a10, a11] [.int s0] lay M P = mG d 203 96 [a0, a1, a2, a3, a4, a5, a6, a7, some (.int s0), a9, a10, a11] [] lay M P := e_istore (i := 8) rfl (by simp) (mS1_8 h0)
set_option maxRecDepth 20000 in
theorem g203_96 {d : Nat} {a0 a1 a2 a3 a4 a5 a6 a7 a8 a9 a10 a11 : Option Value} {lay : List mShp} {M : mMem} {P : mPost} : mG (d) 203 96 [a0, a1, a2, a3, a4, a5, a6, a7, a8, a9, a10, a11] [] lay M P = mG d 203 98 [a0, a1, a2, a3, a4, a5, a6, a7, a8, a9, a10, a11] [.int (Int32.ofInt (-2))] lay M P := e_bipush rfl
set_option maxRecDepth 20000 in
theorem g203_98 {d : Nat} {a0 a1 a2 a3 a4 a5 a6 a7 a8 a9 a10 a11 : Option Value} {s0 : Int32} {lay : List mShp} {M : mMem} {P : mPost} (h0 : mNoL a8 = true) : mG (d) 203 98 [a0, a1, a2, a3, a4, a5, a6, a7, a8, a9, a10, a11] [.int s0] lay M P = mG d 203 100 [a0, a1, a2, a3, a4, a5, a6, a7, a8, some (.int s0), a10, a11] [] lay M P := e_istore (i := 9) rfl (by simp) (mS1_9 h0)
set_option maxRecDepth 20000 in
theorem g203_100 {d : Nat} {a0 a1 a2 a3 a4 a5 a6 a7 a8 a9 a10 a11 : Option Value} {lay : List mShp} {M : mMem} {P : mPost} : mG (d) 203 100 [a0, a1, a2, a3, a4, a5, a6, a7, a8, a9, a10, a11] [] lay M P = mG d 203 101 [a0, a1, a2, a3, a4, a5, a6, a7, a8, a9, a10, a11] [.int (Int32.ofInt 0)] lay M P := e_iconst rfl
set_option maxRecDepth 20000 in
theorem g203_101 {d : Nat} {a0 a1 a2 a3 a4 a5 a6 a7 a8 a9 a10 a11 : Option Value} {s0 : Int32} {lay : List mShp} {M : mMem} {P : mPost} (h0 : mNoL a9 = true) : mG (d) 203 101 [a0, a1, a2, a3, a4, a5, a6, a7, a8, a9, a10, a11] [.int s0] lay M P = mG d 203 103 [a0, a1, a2, a3, a4, a5, a6, a7, a8, a9, some (.int s0), a11] [] lay M P := e_istore (i := 10) rfl (by simp) (mS1_10 h0)
set_option maxRecDepth 20000 in
theorem g203_103 {d : Nat} {a0 a1 a2 a4 a5 a6 a7 a8 a9 a10 a11 : Option Value} {x : Int32} {lay : List mShp} {M : mMem} {P : mPost} : mG (d) 203 103 [a0, a1, a2, some (.int x), a4, a5, a6, a7, a8, a9, a10, a11] [] lay M P = mG d 203 104 [a0, a1, a2, some (.int x), a4, a5, a6, a7, a8, a9, a10, a11] [.int x] lay M P := e_iload_n (i := 3) rfl rfl rfl
set_option maxRecDepth 20000 in
theorem g203_104 {d : Nat} {a0 a1 a2 a3 a4 a5 a6 a7 a8 a9 a10 a11 : Option Value} {s0 : Int32} {lay : List mShp} {M : mMem} {P : mPost} : mG (d) 203 104 [a0, a1, a2, a3, a4, a5, a6, a7, a8, a9, a10, a11] [.int s0] lay M P = mG d 203 105 [a0, a1, a2, a3, a4, a5, a6, a7, a8, a9, a10, a11] [.int (Int32.ofInt 2), .int s0] lay M P := e_iconst rfl
set_option maxRecDepth 20000 in
theorem g203_105 {d : Nat} {a0 a1 a2 a3 a4 a5 a6 a7 a8 a9 a10 a11 : Option Value} {s0 : Int32} {s1 : Int32} {lay : List mShp} {M : mMem} {P : mPost} : mG (d) 203 105 [a0, a1, a2, a3, a4, a5, a6, a7, a8, a9, a10, a11] [.int s0, .int s1] lay M P = if s1 = s0 then mG d 203 108 [a0, a1, a2, a3, a4, a5, a6, a7, a8, a9, a10, a11] [] lay M P else mG d 203 112 [a0, a1, a2, a3, a4, a5, a6, a7, a8, a9, a10, a11] [] lay M P := e_icmp_ne rfl rfl
set_option maxRecDepth 20000 in
theorem g203_108 {d : Nat} {a0 a1 a2 a3 a4 a5 a6 a7 a8 a9 a10 a11 : Option Value} {lay : List mShp} {M : mMem} {P : mPost} : mG (d) 203 108 [a0, a1, a2, a3, a4, a5, a6, a7, a8, a9, a10, a11] [] lay M P = mG d 203 109 [a0, a1, a2, a3, a4, a5, a6, a7, a8, a9, a10, a11] [.int (Int32.ofInt (-1))] lay M P := e_iconst rfl
set_option maxRecDepth 20000 in
theorem g203_109 {d : Nat} {a0 a1 a2 a3 a4 a5 a6 a7 a8 a9 a10 a11 : Option Value} {s0 : Int32} {lay : List mShp} {M : mMem} {P : mPost} : mG (d) 203 109 [a0, a1, a2, a3, a4, a5, a6, a7, a8, a9, a10, a11] [.int s0] lay M P = mG d 203 113 [a0, a1, a2, a3, a4, a5, a6, a7, a8, a9, a10, a11] [.int s0] lay M P := e_goto rfl rfl
set_option maxRecDepth 20000 in
theorem g203_112 {d : Nat} {a0 a1 a2 a3 a4 a5 a6 a7 a8 a9 a10 a11 : Option Value} {lay : List mShp} {M : mMem} {P : mPost} : mG (d) 203 112 [a0, a1, a2, a3, a4, a5, a6, a7, a8, a9, a10, a11] [] lay M P = mG d 203 113 [a0, a1, a2, a3, a4, a5, a6, a7, a8, a9, a10, a11] [.int (Int32.ofInt 0)] lay M P := e_iconst rfl
set_option maxRecDepth 20000 in
theorem g203_113 {d : Nat} {a0 a1 a2 a3 a4 a5 a6 a7 a8 a9 a10 a11 : Option Value} {s0 : Int32} {lay : List mShp} {M : mMem} {P : mPost} (h0 : mNoL a10 = true) : mG (d) 203 113 [a0, a1, a2, a3, a4, a5, a6, a7, a8, a9, a10, a11] [.int s0] lay M P = mG d 203 115 [a0, a1, a2, a3, a4, a5, a6, a7, a8, a9, a10, some (.int s0)] [] lay M P := e_istore (i := 11) rfl (by simp) (mS1_11 h0)
set_option maxRecDepth 20000 in
theorem g203_115 {d : Nat} {a0 a1 a2 a3 a4 a5 a6 a7 a8 a9 a10 : Option Value} {x : Int32} {lay : List mShp} {M : mMem} {P : mPost} : mG (d) 203 115 [a0, a1, a2, a3, a4, a5, a6, a7, a8, a9, a10, some (.int x)] [] lay M P = mG d 203 117 [a0, a1, a2, a3, a4, a5, a6, a7, a8, a9, a10, some (.int x)] [.int x] lay M P := e_iload (i := 11) rfl rfl
set_option maxRecDepth 20000 in
theorem g203_117 {d : Nat} {a0 a1 a2 a4 a5 a6 a7 a8 a9 a10 a11 : Option Value} {s0 : Int32} {x : Int32} {lay : List mShp} {M : mMem} {P : mPost} : mG (d) 203 117 [a0, a1, a2, some (.int x), a4, a5, a6, a7, a8, a9, a10, a11] [.int s0] lay M P = mG d 203 118 [a0, a1, a2, some (.int x), a4, a5, a6, a7, a8, a9, a10, a11] [.int x, .int s0] lay M P := e_iload_n (i := 3) rfl rfl rfl
set_option maxRecDepth 20000 in
theorem g203_118 {d : Nat} {a0 a1 a2 a3 a4 a5 a6 a7 a8 a9 a10 a11 : Option Value} {s0 : Int32} {s1 : Int32} {lay : List mShp} {M : mMem} {P : mPost} : mG (d) 203 118 [a0, a1, a2, a3, a4, a5, a6, a7, a8, a9, a10, a11] [.int s0, .int s1] lay M P = mG d 203 119 [a0, a1, a2, a3, a4, a5, a6, a7, a8, a9, a10, a11] [.int (Int32.ofInt 2), .int s0, .int s1] lay M P := e_iconst rfl
set_option maxRecDepth 20000 in
theorem g203_119 {d : Nat} {a0 a1 a2 a3 a4 a5 a6 a7 a8 a9 a10 a11 : Option Value} {s0 : Int32} {s1 : Int32} {s2 : Int32} {lay : List mShp} {M : mMem} {P : mPost} : mG (d) 203 119 [a0, a1, a2, a3, a4, a5, a6, a7, a8, a9, a10, a11] [.int s0, .int s1, .int s2] lay M P = if s1 = s0 then mG d 203 122 [a0, a1, a2, a3, a4, a5, a6, a7, a8, a9, a10, a11] [.int s2] lay M P else mG d 203 131 [a0, a1, a2, a3, a4, a5, a6, a7, a8, a9, a10, a11] [.int s2] lay M P := e_icmp_ne rfl rfl
set_option maxRecDepth 20000 in
theorem g203_122 {d : Nat} {a1 a2 a3 a4 a5 a6 a7 a8 a9 a10 a11 : Option Value} {s0 : Int32} {x : Nat} {lay : List mShp} {M : mMem} {P : mPost} (hx : ¬ x = 0) : mG (d) 203 122 [some (.ref x), a1, a2, a3, a4, a5, a6, a7, a8, a9, a10, a11] [.int s0] lay M P = mG d 203 123 [some (.ref x), a1, a2, a3, a4, a5, a6, a7, a8, a9, a10, a11] [.ref x, .int s0] lay M P := e_aload_nP hx (i := 0) rfl rfl rfl
set_option maxRecDepth 20000 in
theorem g203_123 {d : Nat} {a0 a1 a2 a3 a4 a5 a6 a7 a8 a9 a10 a11 : Option Value} {s0 : Nat} {s1 : Int32} {lay : List mShp} {M : mMem} {P : mPost} (hs : mSh lay s0 = some (13, 44)) : mG (d) 203 123 [a0, a1, a2, a3, a4, a5, a6, a7, a8, a9, a10, a11] [.ref s0, .int s1] lay M P = mG d 203 126 [a0, a1, a2, a3, a4, a5, a6, a7, a8, a9, a10, a11] [.int (M.1 s0 2), .int s1] lay M P := mG_of_and (mIsO_of hs (by decide)) (e_getI (ci := 10) (j := 2) rfl rfl rfl)
set_option maxRecDepth 20000 in
theorem g203_126 {d : Nat} {a0 a1 a2 a3 a4 a5 a6 a7 a8 a9 a10 a11 : Option Value} {s0 : Int32} {s1 : Int32} {lay : List mShp} {M : mMem} {P : mPost} : mG (d) 203 126 [a0, a1, a2, a3, a4, a5, a6, a7, a8, a9, a10, a11] [.int s0, .int s1] lay M P = mG d 203 127 [a0, a1, a2, a3, a4, a5, a6, a7, a8, a9, a10, a11] [.int (Int32.ofInt 1), .int s0, .int s1] lay M P := e_iconst rfl
set_option maxRecDepth 20000 in
theorem g203_127 {d : Nat} {a0 a1 a2 a3 a4 a5 a6 a7 a8 a9 a10 a11 : Option Value} {s0 : Int32} {s1 : Int32} {s2 : Int32} {lay : List mShp} {M : mMem} {P : mPost} : mG (d) 203 127 [a0, a1, a2, a3, a4, a5, a6, a7, a8, a9, a10, a11] [.int s0, .int s1, .int s2] lay M P = mG d 203 128 [a0, a1, a2, a3, a4, a5, a6, a7, a8, a9, a10, a11] [.int (s1 - s0), .int s2] lay M P := e_isub rfl
set_option maxRecDepth 20000 in
theorem g203_128 {d : Nat} {a0 a1 a2 a3 a4 a5 a6 a7 a8 a9 a10 a11 : Option Value} {s0 : Int32} {s1 : Int32} {lay : List mShp} {M : mMem} {P : mPost} : mG (d) 203 128 [a0, a1, a2, a3, a4, a5, a6, a7, a8, a9, a10, a11] [.int s0, .int s1] lay M P = mG d 203 133 [a0, a1, a2, a3, a4, a5, a6, a7, a8, a9, a10, a11] [.int s0, .int s1] lay M P := e_goto rfl rfl
set_option maxRecDepth 20000 in
theorem g203_131 {d : Nat} {a0 a1 a2 a3 a4 a5 a6 a7 a8 a9 a10 a11 : Option Value} {s0 : Int32} {lay : List mShp} {M : mMem} {P : mPost} : mG (d) 203 131 [a0, a1, a2, a3, a4, a5, a6, a7, a8, a9, a10, a11] [.int s0] lay M P = mG d 203 133 [a0, a1, a2, a3, a4, a5, a6, a7, a8, a9, a10, a11] [.int (Int32.ofInt 9), .int s0] lay M P := e_bipush rfl
set_option maxRecDepth 20000 in
theorem g203_133 {d : Nat} {a0 a1 a2 a3 a4 a5 a6 a7 a8 a9 a10 a11 : Option Value} {s0 : Int32} {s1 : Int32} {lay : List mShp} {M : mMem} {P : mPost} : mG (d) 203 133 [a0, a1, a2, a3, a4, a5, a6, a7, a8, a9, a10, a11] [.int s0, .int s1] lay M P = if s0 < s1 then mG d 203 216 [a0, a1, a2, a3, a4, a5, a6, a7, a8, a9, a10, a11] [] lay M P else mG d 203 136 [a0, a1, a2, a3, a4, a5, a6, a7, a8, a9, a10, a11] [] lay M P := e_icmp_gt rfl rfl
set_option maxRecDepth 20000 in
theorem g203_136 {d : Nat} {a1 a2 a3 a4 a5 a6 a7 a8 a9 a10 a11 : Option Value} {x : Nat} {lay : List mShp} {M : mMem} {P : mPost} (hx : ¬ x = 0) : mG (d) 203 136 [some (.ref x), a1, a2, a3, a4, a5, a6, a7, a8, a9, a10, a11] [] lay M P = mG d 203 137 [some (.ref x), a1, a2, a3, a4, a5, a6, a7, a8, a9, a10, a11] [.ref x] lay M P := e_aload_nP hx (i := 0) rfl rfl rfl
set_option maxRecDepth 20000 in
theorem g203_137 {d : Nat} {a0 a1 a2 a3 a4 a6 a7 a8 a9 a10 a11 : Option Value} {s0 : Nat} {x : Int32} {lay : List mShp} {M : mMem} {P : mPost} : mG (d) 203 137 [a0, a1, a2, a3, a4, some (.int x), a6, a7, a8, a9, a10, a11] [.ref s0] lay M P = mG d 203 139 [a0, a1, a2, a3, a4, some (.int x), a6, a7, a8, a9, a10, a11] [.int x, .ref s0] lay M P := e_iload (i := 5) rfl rfl
set_option maxRecDepth 20000 in
theorem g203_139 {d : Nat} {a0 a1 a2 a3 a4 a5 a7 a8 a9 a10 a11 : Option Value} {s0 : Int32} {s1 : Nat} {x : Int32} {lay : List mShp} {M : mMem} {P : mPost} : mG (d) 203 139 [a0, a1, a2, a3, a4, a5, some (.int x), a7, a8, a9, a10, a11] [.int s0, .ref s1] lay M P = mG d 203 141 [a0, a1, a2, a3, a4, a5, some (.int x), a7, a8, a9, a10, a11] [.int x, .int s0, .ref s1] lay M P := e_iload (i := 6) rfl rfl
set_option maxRecDepth 20000 in
theorem g203_141 {d : Nat} {a0 a1 a2 a3 a4 a5 a6 a7 a8 a9 a10 : Option Value} {s0 : Int32} {s1 : Int32} {s2 : Nat} {x : Int32} {lay : List mShp} {M : mMem} {P : mPost} : mG (d) 203 141 [a0, a1, a2, a3, a4, a5, a6, a7, a8, a9, a10, some (.int x)] [.int s0, .int s1, .ref s2] lay M P = mG d 203 143 [a0, a1, a2, a3, a4, a5, a6, a7, a8, a9, a10, some (.int x)] [.int x, .int s0, .int s1, .ref s2] lay M P := e_iload (i := 11) rfl rfl
set_option maxRecDepth 20000 in
theorem g203_143 {d : Nat} {a0 a1 a2 a3 a4 a5 a6 a7 a8 a9 a10 a11 : Option Value} {s0 : Int32} {s1 : Int32} {s2 : Int32} {s3 : Nat} {lay : List mShp} {M : mMem} {P : mPost} (hs : mSh lay s3 = some (13, 44)) : mG (d + 1) 203 143 [a0, a1, a2, a3, a4, a5, a6, a7, a8, a9, a10, a11] [.int s0, .int s1, .int s2, .ref s3] lay M P = mF d 153 [.ref s3, .int s2, .int s1, .int s0] lay M (fun v lay1 M1 => mG (d + 1) 203 146 [a0, a1, a2, a3, a4, a5, a6, a7, a8, a9, a10, a11] (v.toList ++ []) lay1 M1 P) := e_virtP3 (j := 153) (c := 10) rfl rfl rfl rfl rfl rfl hs (Nat.le_of_ble_eq_true rfl)
set_option maxRecDepth 20000 in
theorem g203_146 {d : Nat} {a0 a1 a2 a4 a5 a6 a7 a8 a9 a10 a11 : Option Value} {x : Int32} {lay : List mShp} {M : mMem} {P : mPost} : mG (d) 203 146 [a0, a1, a2, some (.int x), a4, a5, a6, a7, a8, a9, a10, a11] [] lay M P = mG d 203 147 [a0, a1, a2, some (.int x), a4, a5, a6, a7, a8, a9, a10, a11] [.int x] lay M P := e_iload_n (i := 3) rfl rfl rfl
set_option maxRecDepth 20000 in
theorem g203_147 {d : Nat} {a0 a1 a2 a3 a4 a5 a6 a7 a8 a9 a10 a11 : Option Value} {s0 : Int32} {lay : List mShp} {M : mMem} {P : mPost} : mG (d) 203 147 [a0, a1, a2, a3, a4, a5, a6, a7, a8, a9, a10, a11] [.int s0] lay M P = mG d 203 148 [a0, a1, a2, a3, a4, a5, a6, a7, a8, a9, a10, a11] [.int (Int32.ofInt 2), .int s0] lay M P := e_iconst rfl
set_option maxRecDepth 20000 in
theorem g203_148 {d : Nat} {a0 a1 a2 a3 a4 a5 a6 a7 a8 a9 a10 a11 : Option Value} {s0 : Int32} {s1 : Int32} {lay : List mShp} {M : mMem} {P : mPost} : mG (d) 203 148 [a0, a1, a2, a3, a4, a5, a6, a7, a8, a9, a10, a11] [.int s0, .int s1] lay M P = if s1 < s0 then mG d 203 158 [a0, a1, a2, a3, a4, a5, a6, a7, a8, a9, a10, a11] [] lay M P else mG d 203 151 [a0, a1, a2, a3, a4, a5, a6, a7, a8, a9, a10, a11] [] lay M P := e_icmp_lt rfl rfl
set_option maxRecDepth 20000 in
theorem g203_151 {d : Nat} {a0 a1 a2 a3 a4 a5 a6 a7 a8 a9 a10 : Option Value} {x : Int32} {lay : List mShp} {M : mMem} {P : mPost} : mG (d) 203 151 [a0, a1, a2, a3, a4, a5, a6, a7, a8, a9, a10, some (.int x)] [] lay M P = mG d 203 153 [a0, a1, a2, a3, a4, a5, a6, a7, a8, a9, a10, some (.int x)] [.int x] lay M P := e_iload (i := 11) rfl rfl
set_option maxRecDepth 20000 in
theorem g203_153 {d : Nat} {a0 a1 a2 a3 a4 a6 a7 a8 a9 a10 a11 : Option Value} {s0 : Int32} {x : Int32} {lay : List mShp} {M : mMem} {P : mPost} : mG (d) 203 153 [a0, a1, a2, a3, a4, some (.int x), a6, a7, a8, a9, a10, a11] [.int s0] lay M P = mG d 203 155 [a0, a1, a2, a3, a4, some (.int x), a6, a7, a8, a9, a10, a11] [.int x, .int s0] lay M P := e_iload (i := 5) rfl rfl
set_option maxRecDepth 20000 in
theorem g203_155 {d : Nat} {a0 a1 a2 a3 a4 a5 a6 a7 a8 a9 a10 a11 : Option Value} {s0 : Int32} {s1 : Int32} {lay : List mShp} {M : mMem} {P : mPost} : mG (d) 203 155 [a0, a1, a2, a3, a4, a5, a6, a7, a8, a9, a10, a11] [.int s0, .int s1] lay M P = if s1 = s0 then mG d 203 210 [a0, a1, a2, a3, a4, a5, a6, a7, a8, a9, a10, a11] [] lay M P else mG d 203 158 [a0, a1, a2, a3, a4, a5, a6, a7, a8, a9, a10, a11] [] lay M P := e_icmp_eq rfl rfl
set_option maxRecDepth 20000 in
theorem g203_158 {d : Nat} {a1 a2 a3 a4 a5 a6 a7 a8 a9 a10 a11 : Option Value} {x : Nat} {lay : List mShp} {M : mMem} {P : mPost} (hx : ¬ x = 0) : mG (d) 203 158 [some (.ref x), a1, a2, a3, a4, a5, a6, a7, a8, a9, a10, a11] [] lay M P = mG d 203 159 [some (.ref x), a1, a2, a3, a4, a5, a6, a7, a8, a9, a10, a11] [.ref x] lay M P := e_aload_nP hx (i := 0) rfl rfl rfl
set_option maxRecDepth 20000 in
theorem g203_159 {d : Nat} {a0 a2 a3 a4 a5 a6 a7 a8 a9 a10 a11 : Option Value} {s0 : Nat} {x : Int32} {lay : List mShp} {M : mMem} {P : mPost} : mG (d) 203 159 [a0, some (.int x), a2, a3, a4, a5, a6, a7, a8, a9, a10, a11] [.ref s0] lay M P = mG d 203 160 [a0, some (.int x), a2, a3, a4, a5, a6, a7, a8, a9, a10, a11] [.int x, .ref s0] lay M P := e_iload_n (i := 1) rfl rfl rfl
set_option maxRecDepth 20000 in
theorem g203_160 {d : Nat} {a0 a1 a2 a3 a5 a6 a7 a8 a9 a10 a11 : Option Value} {s0 : Int32} {s1 : Nat} {x : Int32} {lay : List mShp} {M : mMem} {P : mPost} : mG (d) 203 160 [a0, a1, a2, a3, some (.int x), a5, a6, a7, a8, a9, a10, a11] [.int s0, .ref s1] lay M P = mG d 203 162 [a0, a1, a2, a3, some (.int x), a5, a6, a7, a8, a9, a10, a11] [.int x, .int s0, .ref s1] lay M P := e_iload (i := 4) rfl rfl
set_option maxRecDepth 20000 in
theorem g203_162 {d : Nat} {a0 a1 a2 a3 a4 a5 a6 a7 a8 a9 a10 a11 : Option Value} {s0 : Int32} {s1 : Int32} {s2 : Nat} {lay : List mShp} {M : mMem} {P : mPost} (hs : mSh lay s2 = some (13, 44)) : mG (d + 1) 203 162 [a0, a1, a2, a3, a4, a5, a6, a7, a8, a9, a10, a11] [.int s0, .int s1, .ref s2] lay M P = mF d 201 [.ref s2, .int s1, .int s0] lay M (fun v lay1 M1 => mG (d + 1) 203 165 [a0, a1, a2, a3, a4, a5, a6, a7, a8, a9, a10, a11] (v.toList ++ []) lay1 M1 P) := e_virtP2 (j := 201) (c := 10) rfl rfl rfl rfl rfl rfl hs (Nat.le_of_ble_eq_true rfl)
set_option maxRecDepth 20000 in
theorem g203_165 {d : Nat} {a0 a1 a2 a3 a4 a5 a6 a7 a8 a9 a10 a11 : Option Value} {s0 : Int32} {lay : List mShp} {M : mMem} {P : mPost} : mG (d) 203 165 [a0, a1, a2, a3, a4, a5, a6, a7, a8, a9, a10, a11] [.int s0] lay M P = mG d 203 167 [a0, a1, a2, a3, a4, a5, a6, a7, a8, a9, a10, a11] [.int (Int32.ofInt (-2)), .int s0] lay M P := e_bipush rfl
set_option maxRecDepth 20000 in
theorem g203_167 {d : Nat} {a0 a1 a2 a3 a4 a5 a6 a7 a8 a9 a10 a11 : Option Value} {s0 : Int32} {s1 : Int32} {lay : List mShp} {M : mMem} {P : mPost} : mG (d) 203 167 [a0, a1, a2, a3, a4, a5, a6, a7, a8, a9, a10, a11] [.int s0, .int s1] lay M P = if s1 = s0 then mG d 203 170 [a0, a1, a2, a3, a4, a5, a6, a7, a8, a9, a10, a11] [] lay M P else mG d 203 210 [a0, a1, a2, a3, a4, a5, a6, a7, a8, a9, a10, a11] [] lay M P := e_icmp_ne rfl rfl
set_option maxRecDepth 20000 in
theorem g203_170 {d : Nat} {a0 a1 a2 a3 a4 a5 a6 a7 a9 a10 a11 : Option Value} {x : Int32} {lay : List mShp} {M : mMem} {P : mPost} (h0 : mNoL a7 = true) : mG (d) 203 170 [a0, a1, a2, a3, a4, a5, a6, a7, some (.int x), a9, a10, a11] [] lay M P = mG d 203 173 [a0, a1, a2, a3, a4, a5, a6, a7, some (.int (x + Int32.ofInt 1)), a9, a10, a11] [] lay M P := e_iinc (n := 8) rfl rfl (mS1_8 h0)
set_option maxRecDepth 20000 in
theorem g203_173 {d : Nat} {a0 a1 a2 a3 a4 a5 a6 a7 a8 a10 a11 : Option Value} {x : Int32} {lay : List mShp} {M : mMem} {P : mPost} : mG (d) 203 173 [a0, a1, a2, a3, a4, a5, a6, a7, a8, some (.int x), a10, a11] [] lay M P = mG d 203 175 [a0, a1, a2, a3, a4, a5, a6, a7, a8, some (.int x), a10, a11] [.int x] lay M P := e_iload (i := 9) rfl rfl
set_option maxRecDepth 20000 in
theorem g203_175 {d : Nat} {a0 a1 a2 a3 a4 a5 a6 a7 a8 a9 a10 a11 : Option Value} {s0 : Int32} {lay : List mShp} {M : mMem} {P : mPost} : mG (d) 203 175 [a0, a1, a2, a3, a4, a5, a6, a7, a8, a9, a10, a11] [.int s0] lay M P = mG d 203 177 [a0, a1, a2, a3, a4, a5, a6, a7, a8, a9, a10, a11] [.int (Int32.ofInt (-2)), .int s0] lay M P := e_bipush rfl
set_option maxRecDepth 20000 in
theorem g203_177 {d : Nat} {a0 a1 a2 a3 a4 a5 a6 a7 a8 a9 a10 a11 : Option Value} {s0 : Int32} {s1 : Int32} {lay : List mShp} {M : mMem} {P : mPost} : mG (d) 203 177 [a0, a1, a2, a3, a4, a5, a6, a7, a8, a9, a10, a11] [.int s0, .int s1] lay M P = if s1 = s0 then mG d 203 180 [a0, a1, a2, a3, a4, a5, a6, a7, a8, a9, a10, a11] [] lay M P else mG d 203 185 [a0, a1, a2, a3, a4, a5, a6, a7, a8, a9, a10, a11] [] lay M P := e_icmp_ne rfl rfl
set_option maxRecDepth 20000 in
theorem g203_180 {d : Nat} {a0 a1 a2 a3 a4 a5 a6 a7 a8 a9 a10 : Option Value} {x : Int32} {lay : List mShp} {M : mMem} {P : mPost} : mG (d) 203 180 [a0, a1, a2, a3, a4, a5, a6, a7, a8, a9, a10, some (.int x)] [] lay M P = mG d 203 182 [a0, a1, a2, a3, a4, a5, a6, a7, a8, a9, a10, some (.int x)] [.int x] lay M P := e_iload (i := 11) rfl rfl
set_option maxRecDepth 20000 in
theorem g203_182 {d : Nat} {a0 a1 a2 a3 a4 a5 a6 a7 a8 a9 a10 a11 : Option Value} {s0 : Int32} {lay : List mShp} {M : mMem} {P : mPost} : mG (d) 203 182 [a0, a1, a2, a3, a4, a5, a6, a7, a8, a9, a10, a11] [.int s0] lay M P = mG d 203 187 [a0, a1, a2, a3, a4, a5, a6, a7, a8, a9, a10, a11] [.int s0] lay M P := e_goto rfl rfl
set_option maxRecDepth 20000 in
theorem g203_185 {d : Nat} {a0 a1 a2 a3 a4 a5 a6 a7 a8 a10 a11 : Option Value} {x : Int32} {lay : List mShp} {M : mMem} {P : mPost} : mG (d) 203 185 [a0, a1, a2, a3, a4, a5, a6, a7, a8, some (.int x), a10, a11] [] lay M P = mG d 203 187 [a0, a1, a2, a3, a4, a5, a6, a7, a8, some (.int x), a10, a11] [.int x] lay M P := e_iload (i := 9) rfl rfl
set_option maxRecDepth 20000 in
theorem g203_187 {d : Nat} {a0 a1 a2 a3 a4 a5 a6 a7 a8 a9 a10 a11 : Option Value} {s0 : Int32} {lay : List mShp} {M : mMem} {P : mPost} (h0 : mNoL a8 = true) : mG (d) 203 187 [a0, a1, a2, a3, a4, a5, a6, a7, a8, a9, a10, a11] [.int s0] lay M P = mG d 203 189 [a0, a1, a2, a3, a4, a5, a6, a7, a8, some (.int s0), a10, a11] [] lay M P := e_istore (i := 9) rfl (by simp) (mS1_9 h0)
set_option maxRecDepth 20000 in
theorem g203_189 {d : Nat} {a0 a1 a2 a3 a4 a5 a6 a7 a8 a9 a11 : Option Value} {x : Int32} {lay : List mShp} {M : mMem} {P : mPost} : mG (d) 203 189 [a0, a1, a2, a3, a4, a5, a6, a7, a8, a9, some (.int x), a11] [] lay M P = mG d 203 191 [a0, a1, a2, a3, a4, a5, a6, a7, a8, a9, some (.int x), a11] [.int x] lay M P := e_iload (i := 10) rfl rfl
set_option maxRecDepth 20000 in
theorem g203_191 {d : Nat} {a0 a1 a2 a3 a4 a5 a6 a7 a8 a9 a10 : Option Value} {s0 : Int32} {x : Int32} {lay : List mShp} {M : mMem} {P : mPost} : mG (d) 203 191 [a0, a1, a2, a3, a4, a5, a6, a7, a8, a9, a10, some (.int x)] [.int s0] lay M P = mG d 203 193 [a0, a1, a2, a3, a4, a5, a6, a7, a8, a9, a10, some (.int x)] [.int x, .int s0] lay M P := e_iload (i := 11) rfl rfl
set_option maxRecDepth 20000 in
theorem g203_193 {d : Nat} {a0 a1 a2 a3 a4 a5 a6 a7 a8 a9 a10 a11 : Option Value} {s0 : Int32} {s1 : Int32} {lay : List mShp} {M : mMem} {P : mPost} : mG (d) 203 193 [a0, a1, a2, a3, a4, a5, a6, a7, a8, a9, a10, a11] [.int s0, .int s1] lay M P = mG d 203 194 [a0, a1, a2, a3, a4, a5, a6, a7, a8, a9, a10, a11] [.int (Int32.ofInt (-1)), .int s0, .int s1] lay M P := e_iconst rfl
set_option maxRecDepth 20000 in
theorem g203_194 {d : Nat} {a0 a1 a2 a3 a4 a5 a6 a7 a8 a9 a10 a11 : Option Value} {s0 : Int32} {s1 : Int32} {s2 : Int32} {lay : List mShp} {M : mMem} {P : mPost} : mG (d) 203 194 [a0, a1, a2, a3, a4, a5, a6, a7, a8, a9, a10, a11] [.int s0, .int s1, .int s2] lay M P = if s1 = s0 then mG d 203 197 [a0, a1, a2, a3, a4, a5, a6, a7, a8, a9, a10, a11] [.int s2] lay M P else mG d 203 203 [a0, a1, a2, a3, a4, a5, a6, a7, a8, a9, a10, a11] [.int s2] lay M P := e_icmp_ne rfl rfl
set_option maxRecDepth 20000 in
theorem g203_197 {d : Nat} {a0 a1 a2 a3 a4 a5 a6 a7 a8 a9 a10 a11 : Option Value} {s0 : Int32} {lay : List mShp} {M : mMem} {P : mPost} : mG (d) 203 197 [a0, a1, a2, a3, a4, a5, a6, a7, a8, a9, a10, a11] [.int s0] lay M P = mG d 203 200 [a0, a1, a2, a3, a4, a5, a6, a7, a8, a9, a10, a11] [.int (Int32.ofInt 256), .int s0] lay M P := e_sipush rfl
set_option maxRecDepth 20000 in
theorem g203_200 {d : Nat} {a0 a1 a2 a3 a4 a5 a6 a7 a8 a9 a10 a11 : Option Value} {s0 : Int32} {s1 : Int32} {lay : List mShp} {M : mMem} {P : mPost} : mG (d) 203 200 [a0, a1, a2, a3, a4, a5, a6, a7, a8, a9, a10, a11] [.int s0, .int s1] lay M P = mG d 203 207 [a0, a1, a2, a3, a4, a5, a6, a7, a8, a9, a10, a11] [.int s0, .int s1] lay M P := e_goto rfl rfl
set_option maxRecDepth 20000 in
theorem g203_203 {d : Nat} {a0 a1 a2 a3 a4 a5 a6 a7 a8 a9 a10 a11 : Option Value} {s0 : Int32} {lay : List mShp} {M : mMem} {P : mPost} : mG (d) 203 203 [a0, a1, a2, a3, a4, a5, a6, a7, a8, a9, a10, a11] [.int s0] lay M P = mG d 203 204 [a0, a1, a2, a3, a4, a5, a6, a7, a8, a9, a10, a11] [.int (Int32.ofInt 1), .int s0] lay M P := e_iconst rfl
set_option maxRecDepth 20000 in
theorem g203_204 {d : Nat} {a0 a1 a2 a3 a4 a5 a6 a7 a8 a9 a10 : Option Value} {s0 : Int32} {s1 : Int32} {x : Int32} {lay : List mShp} {M : mMem} {P : mPost} : mG (d) 203 204 [a0, a1, a2, a3, a4, a5, a6, a7, a8, a9, a10, some (.int x)] [.int s0, .int s1] lay M P = mG d 203 206 [a0, a1, a2, a3, a4, a5, a6, a7, a8, a9, a10, some (.int x)] [.int x, .int s0, .int s1] lay M P := e_iload (i := 11) rfl rfl
set_option maxRecDepth 20000 in
theorem g203_206 {d : Nat} {a0 a1 a2 a3 a4 a5 a6 a7 a8 a9 a10 a11 : Option Value} {s0 : Int32} {s1 : Int32} {s2 : Int32} {lay : List mShp} {M : mMem} {P : mPost} : mG (d) 203 206 [a0, a1, a2, a3, a4, a5, a6, a7, a8, a9, a10, a11] [.int s0, .int s1, .int s2] lay M P = mG d 203 207 [a0, a1, a2, a3, a4, a5, a6, a7, a8, a9, a10, a11] [.int (s1 <<< (s0 &&& 31)), .int s2] lay M P := e_ishl rfl
set_option maxRecDepth 20000 in
theorem g203_207 {d : Nat} {a0 a1 a2 a3 a4 a5 a6 a7 a8 a9 a10 a11 : Option Value} {s0 : Int32} {s1 : Int32} {lay : List mShp} {M : mMem} {P : mPost} : mG (d) 203 207 [a0, a1, a2, a3, a4, a5, a6, a7, a8, a9, a10, a11] [.int s0, .int s1] lay M P = mG d 203 208 [a0, a1, a2, a3, a4, a5, a6, a7, a8, a9, a10, a11] [.int (s1 ||| s0)] lay M P := e_ior rfl
set_option maxRecDepth 20000 in
theorem g203_208 {d : Nat} {a0 a1 a2 a3 a4 a5 a6 a7 a8 a9 a10 a11 : Option Value} {s0 : Int32} {lay : List mShp} {M : mMem} {P : mPost} (h0 : mNoL a9 = true) : mG (d) 203 208 [a0, a1, a2, a3, a4, a5, a6, a7, a8, a9, a10, a11] [.int s0] lay M P = mG d 203 210 [a0, a1, a2, a3, a4, a5, a6, a7, a8, a9, some (.int s0), a11] [] lay M P := e_istore (i := 10) rfl (by simp) (mS1_10 h0)
set_option maxRecDepth 20000 in
theorem g203_210 {d : Nat} {a0 a1 a2 a3 a4 a5 a6 a7 a8 a9 a10 : Option Value} {x : Int32} {lay : List mShp} {M : mMem} {P : mPost} (h0 : mNoL a10 = true) : mG (d) 203 210 [a0, a1, a2, a3, a4, a5, a6, a7, a8, a9, a10, some (.int x)] [] lay M P = mG d 203 213 [a0, a1, a2, a3, a4, a5, a6, a7, a8, a9, a10, some (.int (x + Int32.ofInt 1))] [] lay M P := e_iinc (n := 11) rfl rfl (mS1_11 h0)
set_option maxRecDepth 20000 in
theorem g203_213 {d : Nat} {a0 a1 a2 a3 a4 a5 a6 a7 a8 a9 a10 a11 : Option Value} {lay : List mShp} {M : mMem} {P : mPost} : mG (d) 203 213 [a0, a1, a2, a3, a4, a5, a6, a7, a8, a9, a10, a11] [] lay M P = mG d 203 115 [a0, a1, a2, a3, a4, a5, a6, a7, a8, a9, a10, a11] [] lay M P := e_goto rfl rfl
set_option maxRecDepth 20000 in
theorem g203_216 {d : Nat} {a1 a2 a3 a4 a5 a6 a7 a8 a9 a10 a11 : Option Value} {x : Nat} {lay : List mShp} {M : mMem} {P : mPost} (hx : ¬ x = 0) : mG (d) 203 216 [some (.ref x), a1, a2, a3, a4, a5, a6, a7, a8, a9, a10, a11] [] lay M P = mG d 203 217 [some (.ref x), a1, a2, a3, a4, a5, a6, a7, a8, a9, a10, a11] [.ref x] lay M P := e_aload_nP hx (i := 0) rfl rfl rfl
set_option maxRecDepth 20000 in
theorem g203_217 {d : Nat} {a0 a1 a2 a3 a4 a6 a7 a8 a9 a10 a11 : Option Value} {s0 : Nat} {x : Int32} {lay : List mShp} {M : mMem} {P : mPost} : mG (d) 203 217 [a0, a1, a2, a3, a4, some (.int x), a6, a7, a8, a9, a10, a11] [.ref s0] lay M P = mG d 203 219 [a0, a1, a2, a3, a4, some (.int x), a6, a7, a8, a9, a10, a11] [.int x, .ref s0] lay M P := e_iload (i := 5) rfl rfl
set_option maxRecDepth 20000 in
theorem g203_219 {d : Nat} {a0 a1 a2 a3 a4 a5 a7 a8 a9 a10 a11 : Option Value} {s0 : Int32} {s1 : Nat} {x : Int32} {lay : List mShp} {M : mMem} {P : mPost} : mG (d) 203 219 [a0, a1, a2, a3, a4, a5, some (.int x), a7, a8, a9, a10, a11] [.int s0, .ref s1] lay M P = mG d 203 221 [a0, a1, a2, a3, a4, a5, some (.int x), a7, a8, a9, a10, a11] [.int x, .int s0, .ref s1] lay M P := e_iload (i := 6) rfl rfl
set_option maxRecDepth 20000 in
theorem g203_221 {d : Nat} {a0 a1 a2 a3 a4 a5 a6 a8 a9 a10 a11 : Option Value} {s0 : Int32} {s1 : Int32} {s2 : Nat} {x : Int32} {lay : List mShp} {M : mMem} {P : mPost} : mG (d) 203 221 [a0, a1, a2, a3, a4, a5, a6, some (.int x), a8, a9, a10, a11] [.int s0, .int s1, .ref s2] lay M P = mG d 203 223 [a0, a1, a2, a3, a4, a5, a6, some (.int x), a8, a9, a10, a11] [.int x, .int s0, .int s1, .ref s2] lay M P := e_iload (i := 7) rfl rfl
set_option maxRecDepth 20000 in
theorem g203_223 {d : Nat} {a0 a1 a2 a3 a4 a5 a6 a7 a8 a9 a10 a11 : Option Value} {s0 : Int32} {s1 : Int32} {s2 : Int32} {s3 : Nat} {lay : List mShp} {M : mMem} {P : mPost} (hs : mSh lay s3 = some (13, 44)) : mG (d + 1) 203 223 [a0, a1, a2, a3, a4, a5, a6, a7, a8, a9, a10, a11] [.int s0, .int s1, .int s2, .ref s3] lay M P = mF d 153 [.ref s3, .int s2, .int s1, .int s0] lay M (fun v lay1 M1 => mG (d + 1) 203 226 [a0, a1, a2, a3, a4, a5, a6, a7, a8, a9, a10, a11] (v.toList ++ []) lay1 M1 P) := e_virtP3 (j := 153) (c := 10) rfl rfl rfl rfl rfl rfl hs (Nat.le_of_ble_eq_true rfl)
set_option maxRecDepth 20000 in
theorem g203_226 {d : Nat} {a0 a1 a2 a4 a5 a6 a7 a8 a9 a10 a11 : Option Value} {x : Int32} {lay : List mShp} {M : mMem} {P : mPost} : mG (d) 203 226 [a0, a1, a2, some (.int x), a4, a5, a6, a7, a8, a9, a10, a11] [] lay M P = mG d 203 227 [a0, a1, a2, some (.int x), a4, a5, a6, a7, a8, a9, a10, a11] [.int x] lay M P := e_iload_n (i := 3) rfl rfl rfl
set_option maxRecDepth 20000 in
theorem g203_227 {d : Nat} {a0 a1 a2 a3 a4 a5 a6 a7 a8 a9 a10 a11 : Option Value} {s0 : Int32} {lay : List mShp} {M : mMem} {P : mPost} : mG (d) 203 227 [a0, a1, a2, a3, a4, a5, a6, a7, a8, a9, a10, a11] [.int s0] lay M P = if s0 = 0 then mG d 203 230 [a0, a1, a2, a3, a4, a5, a6, a7, a8, a9, a10, a11] [] lay M P else mG d 203 235 [a0, a1, a2, a3, a4, a5, a6, a7, a8, a9, a10, a11] [] lay M P := e_if_ne rfl rfl
set_option maxRecDepth 20000 in
theorem g203_230 {d : Nat} {a0 a1 a2 a3 a4 a5 a6 a7 a9 a10 a11 : Option Value} {x : Int32} {lay : List mShp} {M : mMem} {P : mPost} : mG (d) 203 230 [a0, a1, a2, a3, a4, a5, a6, a7, some (.int x), a9, a10, a11] [] lay M P = mG d 203 232 [a0, a1, a2, a3, a4, a5, a6, a7, some (.int x), a9, a10, a11] [.int x] lay M P := e_iload (i := 8) rfl rfl
set_option maxRecDepth 20000 in
theorem g203_232 {d : Nat} {a0 a1 a2 a3 a4 a5 a6 a7 a8 a9 a10 a11 : Option Value} {s0 : Int32} {lay : List mShp} {M : mMem} {P : mPost} : mG (d) 203 232 [a0, a1, a2, a3, a4, a5, a6, a7, a8, a9, a10, a11] [.int s0] lay M P = mG d 203 247 [a0, a1, a2, a3, a4, a5, a6, a7, a8, a9, a10, a11] [.int s0] lay M P := e_goto rfl rfl
set_option maxRecDepth 20000 in
theorem g203_235 {d : Nat} {a0 a1 a2 a4 a5 a6 a7 a8 a9 a10 a11 : Option Value} {x : Int32} {lay : List mShp} {M : mMem} {P : mPost} : mG (d) 203 235 [a0, a1, a2, some (.int x), a4, a5, a6, a7, a8, a9, a10, a11] [] lay M P = mG d 203 236 [a0, a1, a2, some (.int x), a4, a5, a6, a7, a8, a9, a10, a11] [.int x] lay M P := e_iload_n (i := 3) rfl rfl rfl
set_option maxRecDepth 20000 in
theorem g203_236 {d : Nat} {a0 a1 a2 a3 a4 a5 a6 a7 a8 a9 a10 a11 : Option Value} {s0 : Int32} {lay : List mShp} {M : mMem} {P : mPost} : mG (d) 203 236 [a0, a1, a2, a3, a4, a5, a6, a7, a8, a9, a10, a11] [.int s0] lay M P = mG d 203 237 [a0, a1, a2, a3, a4, a5, a6, a7, a8, a9, a10, a11] [.int (Int32.ofInt 1), .int s0] lay M P := e_iconst rfl
set_option maxRecDepth 20000 in
theorem g203_237 {d : Nat} {a0 a1 a2 a3 a4 a5 a6 a7 a8 a9 a10 a11 : Option Value} {s0 : Int32} {s1 : Int32} {lay : List mShp} {M : mMem} {P : mPost} : mG (d) 203 237 [a0, a1, a2, a3, a4, a5, a6, a7, a8, a9, a10, a11] [.int s0, .int s1] lay M P = if s1 = s0 then mG d 203 240 [a0, a1, a2, a3, a4, a5, a6, a7, a8, a9, a10, a11] [] lay M P else mG d 203 245 [a0, a1, a2, a3, a4, a5, a6, a7, a8, a9, a10, a11] [] lay M P := e_icmp_ne rfl rfl
set_option maxRecDepth 20000 in
theorem g203_240 {d : Nat} {a0 a1 a2 a3 a4 a5 a6 a7 a8 a10 a11 : Option Value} {x : Int32} {lay : List mShp} {M : mMem} {P : mPost} : mG (d) 203 240 [a0, a1, a2, a3, a4, a5, a6, a7, a8, some (.int x), a10, a11] [] lay M P = mG d 203 242 [a0, a1, a2, a3, a4, a5, a6, a7, a8, some (.int x), a10, a11] [.int x] lay M P := e_iload (i := 9) rfl rfl
set_option maxRecDepth 20000 in
theorem g203_242 {d : Nat} {a0 a1 a2 a3 a4 a5 a6 a7 a8 a9 a10 a11 : Option Value} {s0 : Int32} {lay : List mShp} {M : mMem} {P : mPost} : mG (d) 203 242 [a0, a1, a2, a3, a4, a5, a6, a7, a8, a9, a10, a11] [.int s0] lay M P = mG d 203 247 [a0, a1, a2, a3, a4, a5, a6, a7, a8, a9, a10, a11] [.int s0] lay M P := e_goto rfl rfl
set_option maxRecDepth 20000 in
theorem g203_245 {d : Nat} {a0 a1 a2 a3 a4 a5 a6 a7 a8 a9 a11 : Option Value} {x : Int32} {lay : List mShp} {M : mMem} {P : mPost} : mG (d) 203 245 [a0, a1, a2, a3, a4, a5, a6, a7, a8, a9, some (.int x), a11] [] lay M P = mG d 203 247 [a0, a1, a2, a3, a4, a5, a6, a7, a8, a9, some (.int x), a11] [.int x] lay M P := e_iload (i := 10) rfl rfl
set_option maxRecDepth 20000 in
theorem g203_247 {d : Nat} {a0 a1 a2 a3 a4 a5 a6 a7 a8 a9 a10 a11 : Option Value} {s0 : Int32} {lay : List mShp} {M : mMem} {P : mPost} : mG (d) 203 247 [a0, a1, a2, a3, a4, a5, a6, a7, a8, a9, a10, a11] [.int s0] lay M P = P (some (.int s0)) lay M := e_ireturnI rfl rfl
-- 204 X10_can
theorem g204_in {d : Nat} {x0 : Nat} {x1 : Int32} {x2 : Int32} {lay : List mShp} {M : mMem} {P : mPost} : mF d 204 [.ref x0, .int x1, .int x2] lay M P = mG d 204 0 [some (.ref x0), some (.int x1), some (.int x2), none, none, none, none] [] lay M P := mF_in rfl rfl
set_option maxRecDepth 20000 in
theorem g204_0 {d : Nat} {a0 a2 a3 a4 a5 a6 : Option Value} {x : Int32} {lay : List mShp} {M : mMem} {P : mPost} : mG (d) 204 0 [a0, some (.int x), a2, a3, a4, a5, a6] [] lay M P = mG d 204 1 [a0, some (.int x), a2, a3, a4, a5, a6] [.int x] lay M P := e_iload_n (i := 1) rfl rfl rfl
set_option maxRecDepth 20000 in
theorem g204_1 {d : Nat} {a0 a1 a2 a3 a4 a5 a6 : Option Value} {s0 : Int32} {lay : List mShp} {M : mMem} {P : mPost} : mG (d + 1) 204 1 [a0, a1, a2, a3, a4, a5, a6] [.int s0] lay M P = mF d 197 [.int s0] lay M (fun v lay1 M1 => mG (d + 1) 204 4 [a0, a1, a2, a3, a4, a5, a6] (v.toList ++ []) lay1 M1 P) := e_static1 (j := 197) rfl rfl rfl rfl rfl (Nat.le_of_ble_eq_true rfl)
set_option maxRecDepth 20000 in
theorem g204_4 {d : Nat} {a0 a1 a2 a3 a4 a5 a6 : Option Value} {s0 : Int32} {lay : List mShp} {M : mMem} {P : mPost} : mG (d) 204 4 [a0, a1, a2, a3, a4, a5, a6] [.int s0] lay M P = if s0 = 0 then mG d 204 25 [a0, a1, a2, a3, a4, a5, a6] [] lay M P else mG d 204 7 [a0, a1, a2, a3, a4, a5, a6] [] lay M P := e_if_eq rfl rfl
set_option maxRecDepth 20000 in
theorem g204_7 {d : Nat} {a0 a1 a3 a4 a5 a6 : Option Value} {x : Int32} {lay : List mShp} {M : mMem} {P : mPost} : mG (d) 204 7 [a0, a1, some (.int x), a3, a4, a5, a6] [] lay M P = mG d 204 8 [a0, a1, some (.int x), a3, a4, a5, a6] [.int x] lay M P := e_iload_n (i := 2) rfl rfl rfl
set_option maxRecDepth 20000 in
theorem g204_8 {d : Nat} {a0 a1 a2 a3 a4 a5 a6 : Option Value} {s0 : Int32} {lay : List mShp} {M : mMem} {P : mPost} : mG (d) 204 8 [a0, a1, a2, a3, a4, a5, a6] [.int s0] lay M P = mG d 204 9 [a0, a1, a2, a3, a4, a5, a6] [.int (Int32.ofInt 0), .int s0] lay M P := e_iconst rfl
set_option maxRecDepth 20000 in
theorem g204_9 {d : Nat} {a0 a1 a2 a3 a4 a5 a6 : Option Value} {s0 : Int32} {s1 : Int32} {lay : List mShp} {M : mMem} {P : mPost} : mG (d) 204 9 [a0, a1, a2, a3, a4, a5, a6] [.int s0, .int s1] lay M P = mG d 204 10 [a0, a1, a2, a3, a4, a5, a6] [.int (Int32.ofInt 1), .int s0, .int s1] lay M P := e_iconst rfl
set_option maxRecDepth 20000 in
theorem g204_10 {d : Nat} {a0 a1 a2 a3 a4 a5 a6 : Option Value} {s0 : Int32} {s1 : Int32} {s2 : Int32} {lay : List mShp} {M : mMem} {P : mPost} : mG (d + 1) 204 10 [a0, a1, a2, a3, a4, a5, a6] [.int s0, .int s1, .int s2] lay M P = mF d 146 [.int s2, .int s1, .int s0] lay M (fun v lay1 M1 => mG (d + 1) 204 13 [a0, a1, a2, a3, a4, a5, a6] (v.toList ++ []) lay1 M1 P) := e_static3 (j := 146) rfl rfl rfl rfl rfl (Nat.le_of_ble_eq_true rfl)
set_option maxRecDepth 20000 in
theorem g204_13 {d : Nat} {a0 a1 a2 a3 a4 a5 a6 : Option Value} {s0 : Int32} {lay : List mShp} {M : mMem} {P : mPost} : mG (d) 204 13 [a0, a1, a2, a3, a4, a5, a6] [.int s0] lay M P = if s0 = 0 then mG d 204 25 [a0, a1, a2, a3, a4, a5, a6] [] lay M P else mG d 204 16 [a0, a1, a2, a3, a4, a5, a6] [] lay M P := e_if_eq rfl rfl
set_option maxRecDepth 20000 in
theorem g204_16 {d : Nat} {a1 a2 a3 a4 a5 a6 : Option Value} {x : Nat} {lay : List mShp} {M : mMem} {P : mPost} (hx : ¬ x = 0) : mG (d) 204 16 [some (.ref x), a1, a2, a3, a4, a5, a6] [] lay M P = mG d 204 17 [some (.ref x), a1, a2, a3, a4, a5, a6] [.ref x] lay M P := e_aload_nP hx (i := 0) rfl rfl rfl
set_option maxRecDepth 20000 in
theorem g204_17 {d : Nat} {a0 a2 a3 a4 a5 a6 : Option Value} {s0 : Nat} {x : Int32} {lay : List mShp} {M : mMem} {P : mPost} : mG (d) 204 17 [a0, some (.int x), a2, a3, a4, a5, a6] [.ref s0] lay M P = mG d 204 18 [a0, some (.int x), a2, a3, a4, a5, a6] [.int x, .ref s0] lay M P := e_iload_n (i := 1) rfl rfl rfl
set_option maxRecDepth 20000 in
theorem g204_18 {d : Nat} {a0 a1 a2 a3 a4 a5 a6 : Option Value} {s0 : Int32} {s1 : Nat} {lay : List mShp} {M : mMem} {P : mPost} (hs : mSh lay s1 = some (13, 44)) : mG (d + 1) 204 18 [a0, a1, a2, a3, a4, a5, a6] [.int s0, .ref s1] lay M P = mF d 198 [.ref s1, .int s0] lay M (fun v lay1 M1 => mG (d + 1) 204 21 [a0, a1, a2, a3, a4, a5, a6] (v.toList ++ []) lay1 M1 P) := e_virtP1 (j := 198) (c := 10) rfl rfl rfl rfl rfl rfl hs (Nat.le_of_ble_eq_true rfl)
set_option maxRecDepth 20000 in
theorem g204_21 {d : Nat} {a0 a1 a2 a3 a4 a5 a6 : Option Value} {s0 : Int32} {lay : List mShp} {M : mMem} {P : mPost} : mG (d) 204 21 [a0, a1, a2, a3, a4, a5, a6] [.int s0] lay M P = mG d 204 22 [a0, a1, a2, a3, a4, a5, a6] [.int (Int32.ofInt 1), .int s0] lay M P := e_iconst rfl
set_option maxRecDepth 20000 in
theorem g204_22 {d : Nat} {a0 a1 a2 a3 a4 a5 a6 : Option Value} {s0 : Int32} {s1 : Int32} {lay : List mShp} {M : mMem} {P : mPost} : mG (d) 204 22 [a0, a1, a2, a3, a4, a5, a6] [.int s0, .int s1] lay M P = if s1 < s0 then mG d 204 25 [a0, a1, a2, a3, a4, a5, a6] [] lay M P else mG d 204 29 [a0, a1, a2, a3, a4, a5, a6] [] lay M P := e_icmp_ge rfl rfl
set_option maxRecDepth 20000 in
theorem g204_25 {d : Nat} {a0 a1 a2 a3 a4 a5 a6 : Option Value} {lay : List mShp} {M : mMem} {P : mPost} : mG (d) 204 25 [a0, a1, a2, a3, a4, a5, a6] [] lay M P = mG d 204 28 [a0, a1, a2, a3, a4, a5, a6] [.long (Int64.ofInt (-9223372036854775808))] lay M P := e_ldc2_w rfl rfl
set_option maxRecDepth 20000 in
theorem g204_28 {d : Nat} {a0 a1 a2 a3 a4 a5 a6 : Option Value} {s0 : Int64} {lay : List mShp} {M : mMem} {P : mPost} : mG (d) 204 28 [a0, a1, a2, a3, a4, a5, a6] [.long s0] lay M P = P (some (.long s0)) lay M := e_lreturn rfl rfl
set_option maxRecDepth 20000 in
theorem g204_29 {d : Nat} {a0 a1 a2 a3 a4 a5 a6 : Option Value} {lay : List mShp} {M : mMem} {P : mPost} : mG (d) 204 29 [a0, a1, a2, a3, a4, a5, a6] [] lay M P = mG d 204 30 [a0, a1, a2, a3, a4, a5, a6] [.int (Int32.ofInt 0)] lay M P := e_iconst rfl
set_option maxRecDepth 20000 in
theorem g204_30 {d : Nat} {a0 a1 a2 a3 a4 a5 a6 : Option Value} {s0 : Int32} {lay : List mShp} {M : mMem} {P : mPost} (h0 : mNoL a2 = true) : mG (d) 204 30 [a0, a1, a2, a3, a4, a5, a6] [.int s0] lay M P = mG d 204 31 [a0, a1, a2, some (.int s0), a4, a5, a6] [] lay M P := e_istore_n (i := 3) rfl rfl (by simp) (mS1_3 h0)
set_option maxRecDepth 20000 in
theorem g204_31 {d : Nat} {a0 a1 a2 a3 a4 a5 a6 : Option Value} {lay : List mShp} {M : mMem} {P : mPost} : mG (d) 204 31 [a0, a1, a2, a3, a4, a5, a6] [] lay M P = mG d 204 32 [a0, a1, a2, a3, a4, a5, a6] [.int (Int32.ofInt 0)] lay M P := e_iconst rfl
set_option maxRecDepth 20000 in
theorem g204_32 {d : Nat} {a0 a1 a2 a3 a4 a5 a6 : Option Value} {s0 : Int32} {lay : List mShp} {M : mMem} {P : mPost} (h0 : mNoL a3 = true) : mG (d) 204 32 [a0, a1, a2, a3, a4, a5, a6] [.int s0] lay M P = mG d 204 34 [a0, a1, a2, a3, some (.int s0), a5, a6] [] lay M P := e_istore (i := 4) rfl (by simp) (mS1_4 h0)
set_option maxRecDepth 20000 in
theorem g204_34 {d : Nat} {a0 a1 a2 a3 a5 a6 : Option Value} {x : Int32} {lay : List mShp} {M : mMem} {P : mPost} : mG (d) 204 34 [a0, a1, a2, a3, some (.int x), a5, a6] [] lay M P = mG d 204 36 [a0, a1, a2, a3, some (.int x), a5, a6] [.int x] lay M P := e_iload (i := 4) rfl rfl
set_option maxRecDepth 20000 in
theorem g204_36 {d : Nat} {a0 a1 a2 a3 a4 a5 a6 : Option Value} {s0 : Int32} {lay : List mShp} {M : mMem} {P : mPost} : mG (d) 204 36 [a0, a1, a2, a3, a4, a5, a6] [.int s0] lay M P = mG d 204 38 [a0, a1, a2, a3, a4, a5, a6] [.int (Int32.ofInt 30), .int s0] lay M P := e_bipush rfl
set_option maxRecDepth 20000 in
theorem g204_38 {d : Nat} {a0 a1 a2 a3 a4 a5 a6 : Option Value} {s0 : Int32} {s1 : Int32} {lay : List mShp} {M : mMem} {P : mPost} : mG (d) 204 38 [a0, a1, a2, a3, a4, a5, a6] [.int s0, .int s1] lay M P = if s1 < s0 then mG d 204 41 [a0, a1, a2, a3, a4, a5, a6] [] lay M P else mG d 204 81 [a0, a1, a2, a3, a4, a5, a6] [] lay M P := e_icmp_ge rfl rfl
set_option maxRecDepth 20000 in
theorem g204_41 {d : Nat} {a1 a2 a3 a4 a5 a6 : Option Value} {x : Nat} {lay : List mShp} {M : mMem} {P : mPost} (hx : ¬ x = 0) : mG (d) 204 41 [some (.ref x), a1, a2, a3, a4, a5, a6] [] lay M P = mG d 204 42 [some (.ref x), a1, a2, a3, a4, a5, a6] [.ref x] lay M P := e_aload_nP hx (i := 0) rfl rfl rfl
set_option maxRecDepth 20000 in
theorem g204_42 {d : Nat} {a0 a2 a3 a4 a5 a6 : Option Value} {s0 : Nat} {x : Int32} {lay : List mShp} {M : mMem} {P : mPost} : mG (d) 204 42 [a0, some (.int x), a2, a3, a4, a5, a6] [.ref s0] lay M P = mG d 204 43 [a0, some (.int x), a2, a3, a4, a5, a6] [.int x, .ref s0] lay M P := e_iload_n (i := 1) rfl rfl rfl
set_option maxRecDepth 20000 in
theorem g204_43 {d : Nat} {a0 a1 a2 a3 a5 a6 : Option Value} {s0 : Int32} {s1 : Nat} {x : Int32} {lay : List mShp} {M : mMem} {P : mPost} : mG (d) 204 43 [a0, a1, a2, a3, some (.int x), a5, a6] [.int s0, .ref s1] lay M P = mG d 204 45 [a0, a1, a2, a3, some (.int x), a5, a6] [.int x, .int s0, .ref s1] lay M P := e_iload (i := 4) rfl rfl
set_option maxRecDepth 20000 in
theorem g204_45 {d : Nat} {a0 a1 a2 a3 a4 a5 a6 : Option Value} {s0 : Int32} {s1 : Int32} {s2 : Nat} {lay : List mShp} {M : mMem} {P : mPost} (hs : mSh lay s2 = some (13, 44)) : mG (d + 1) 204 45 [a0, a1, a2, a3, a4, a5, a6] [.int s0, .int s1, .ref s2] lay M P = mF d 199 [.ref s2, .int s1, .int s0] lay M (fun v lay1 M1 => mG (d + 1) 204 48 [a0, a1, a2, a3, a4, a5, a6] (v.toList ++ []) lay1 M1 P) := e_virtP2 (j := 199) (c := 10) rfl rfl rfl rfl rfl rfl hs (Nat.le_of_ble_eq_true rfl)
set_option maxRecDepth 20000 in
theorem g204_48 {d : Nat} {a0 a1 a2 a3 a4 a5 a6 : Option Value} {s0 : Int32} {lay : List mShp} {M : mMem} {P : mPost} : mG (d) 204 48 [a0, a1, a2, a3, a4, a5, a6] [.int s0] lay M P = mG d 204 49 [a0, a1, a2, a3, a4, a5, a6] [.int (Int32.ofInt 0), .int s0] lay M P := e_iconst rfl
set_option maxRecDepth 20000 in
theorem g204_49 {d : Nat} {a0 a1 a2 a3 a4 a5 a6 : Option Value} {s0 : Int32} {s1 : Int32} {lay : List mShp} {M : mMem} {P : mPost} : mG (d) 204 49 [a0, a1, a2, a3, a4, a5, a6] [.int s0, .int s1] lay M P = mG d 204 50 [a0, a1, a2, a3, a4, a5, a6] [.int (Int32.ofInt 1), .int s0, .int s1] lay M P := e_iconst rfl
set_option maxRecDepth 20000 in
theorem g204_50 {d : Nat} {a0 a1 a2 a3 a4 a5 a6 : Option Value} {s0 : Int32} {s1 : Int32} {s2 : Int32} {lay : List mShp} {M : mMem} {P : mPost} : mG (d + 1) 204 50 [a0, a1, a2, a3, a4, a5, a6] [.int s0, .int s1, .int s2] lay M P = mF d 146 [.int s2, .int s1, .int s0] lay M (fun v lay1 M1 => mG (d + 1) 204 53 [a0, a1, a2, a3, a4, a5, a6] (v.toList ++ []) lay1 M1 P) := e_static3 (j := 146) rfl rfl rfl rfl rfl (Nat.le_of_ble_eq_true rfl)
set_option maxRecDepth 20000 in
theorem g204_53 {d : Nat} {a0 a1 a2 a3 a4 a5 a6 : Option Value} {s0 : Int32} {lay : List mShp} {M : mMem} {P : mPost} : mG (d) 204 53 [a0, a1, a2, a3, a4, a5, a6] [.int s0] lay M P = if s0 = 0 then mG d 204 81 [a0, a1, a2, a3, a4, a5, a6] [] lay M P else mG d 204 56 [a0, a1, a2, a3, a4, a5, a6] [] lay M P := e_if_eq rfl rfl
set_option maxRecDepth 20000 in
theorem g204_56 {d : Nat} {a0 a1 a2 a4 a5 a6 : Option Value} {x : Int32} {lay : List mShp} {M : mMem} {P : mPost} : mG (d) 204 56 [a0, a1, a2, some (.int x), a4, a5, a6] [] lay M P = mG d 204 57 [a0, a1, a2, some (.int x), a4, a5, a6] [.int x] lay M P := e_iload_n (i := 3) rfl rfl rfl
set_option maxRecDepth 20000 in
theorem g204_57 {d : Nat} {a1 a2 a3 a4 a5 a6 : Option Value} {s0 : Int32} {x : Nat} {lay : List mShp} {M : mMem} {P : mPost} (hx : ¬ x = 0) : mG (d) 204 57 [some (.ref x), a1, a2, a3, a4, a5, a6] [.int s0] lay M P = mG d 204 58 [some (.ref x), a1, a2, a3, a4, a5, a6] [.ref x, .int s0] lay M P := e_aload_nP hx (i := 0) rfl rfl rfl
set_option maxRecDepth 20000 in
theorem g204_58 {d : Nat} {a0 a2 a3 a4 a5 a6 : Option Value} {s0 : Nat} {s1 : Int32} {x : Int32} {lay : List mShp} {M : mMem} {P : mPost} : mG (d) 204 58 [a0, some (.int x), a2, a3, a4, a5, a6] [.ref s0, .int s1] lay M P = mG d 204 59 [a0, some (.int x), a2, a3, a4, a5, a6] [.int x, .ref s0, .int s1] lay M P := e_iload_n (i := 1) rfl rfl rfl
set_option maxRecDepth 20000 in
theorem g204_59 {d : Nat} {a0 a1 a2 a3 a5 a6 : Option Value} {s0 : Int32} {s1 : Nat} {s2 : Int32} {x : Int32} {lay : List mShp} {M : mMem} {P : mPost} : mG (d) 204 59 [a0, a1, a2, a3, some (.int x), a5, a6] [.int s0, .ref s1, .int s2] lay M P = mG d 204 61 [a0, a1, a2, a3, some (.int x), a5, a6] [.int x, .int s0, .ref s1, .int s2] lay M P := e_iload (i := 4) rfl rfl
set_option maxRecDepth 20000 in
theorem g204_61 {d : Nat} {a0 a1 a2 a3 a4 a5 a6 : Option Value} {s0 : Int32} {s1 : Int32} {s2 : Nat} {s3 : Int32} {lay : List mShp} {M : mMem} {P : mPost} (hs : mSh lay s2 = some (13, 44)) : mG (d + 1) 204 61 [a0, a1, a2, a3, a4, a5, a6] [.int s0, .int s1, .ref s2, .int s3] lay M P = mF d 199 [.ref s2, .int s1, .int s0] lay M (fun v lay1 M1 => mG (d + 1) 204 64 [a0, a1, a2, a3, a4, a5, a6] (v.toList ++ [.int s3]) lay1 M1 P) := e_virtP2 (j := 199) (c := 10) rfl rfl rfl rfl rfl rfl hs (Nat.le_of_ble_eq_true rfl)
set_option maxRecDepth 20000 in
theorem g204_64 {d : Nat} {a0 a1 a2 a3 a4 a5 a6 : Option Value} {s0 : Int32} {s1 : Int32} {lay : List mShp} {M : mMem} {P : mPost} : mG (d) 204 64 [a0, a1, a2, a3, a4, a5, a6] [.int s0, .int s1] lay M P = mG d 204 65 [a0, a1, a2, a3, a4, a5, a6] [.int (Int32.ofInt 1), .int s0, .int s1] lay M P := e_iconst rfl
set_option maxRecDepth 20000 in
theorem g204_65 {d : Nat} {a0 a1 a2 a3 a4 a5 a6 : Option Value} {s0 : Int32} {s1 : Int32} {s2 : Int32} {lay : List mShp} {M : mMem} {P : mPost} : mG (d) 204 65 [a0, a1, a2, a3, a4, a5, a6] [.int s0, .int s1, .int s2] lay M P = if s1 = s0 then mG d 204 68 [a0, a1, a2, a3, a4, a5, a6] [.int s2] lay M P else mG d 204 72 [a0, a1, a2, a3, a4, a5, a6] [.int s2] lay M P := e_icmp_ne rfl rfl
set_option maxRecDepth 20000 in
theorem g204_68 {d : Nat} {a0 a1 a2 a3 a4 a5 a6 : Option Value} {s0 : Int32} {lay : List mShp} {M : mMem} {P : mPost} : mG (d) 204 68 [a0, a1, a2, a3, a4, a5, a6] [.int s0] lay M P = mG d 204 69 [a0, a1, a2, a3, a4, a5, a6] [.int (Int32.ofInt 1), .int s0] lay M P := e_iconst rfl
set_option maxRecDepth 20000 in
theorem g204_69 {d : Nat} {a0 a1 a2 a3 a4 a5 a6 : Option Value} {s0 : Int32} {s1 : Int32} {lay : List mShp} {M : mMem} {P : mPost} : mG (d) 204 69 [a0, a1, a2, a3, a4, a5, a6] [.int s0, .int s1] lay M P = mG d 204 73 [a0, a1, a2, a3, a4, a5, a6] [.int s0, .int s1] lay M P := e_goto rfl rfl
set_option maxRecDepth 20000 in
theorem g204_72 {d : Nat} {a0 a1 a2 a3 a4 a5 a6 : Option Value} {s0 : Int32} {lay : List mShp} {M : mMem} {P : mPost} : mG (d) 204 72 [a0, a1, a2, a3, a4, a5, a6] [.int s0] lay M P = mG d 204 73 [a0, a1, a2, a3, a4, a5, a6] [.int (Int32.ofInt (-1)), .int s0] lay M P := e_iconst rfl
set_option maxRecDepth 20000 in
theorem g204_73 {d : Nat} {a0 a1 a2 a3 a4 a5 a6 : Option Value} {s0 : Int32} {s1 : Int32} {lay : List mShp} {M : mMem} {P : mPost} : mG (d) 204 73 [a0, a1, a2, a3, a4, a5, a6] [.int s0, .int s1] lay M P = mG d 204 74 [a0, a1, a2, a3, a4, a5, a6] [.int (s1 + s0)] lay M P := e_iadd rfl
set_option maxRecDepth 20000 in
theorem g204_74 {d : Nat} {a0 a1 a2 a3 a4 a5 a6 : Option Value} {s0 : Int32} {lay : List mShp} {M : mMem} {P : mPost} (h0 : mNoL a2 = true) : mG (d) 204 74 [a0, a1, a2, a3, a4, a5, a6] [.int s0] lay M P = mG d 204 75 [a0, a1, a2, some (.int s0), a4, a5, a6] [] lay M P := e_istore_n (i := 3) rfl rfl (by simp) (mS1_3 h0)
set_option maxRecDepth 20000 in
theorem g204_75 {d : Nat} {a0 a1 a2 a3 a5 a6 : Option Value} {x : Int32} {lay : List mShp} {M : mMem} {P : mPost} (h0 : mNoL a3 = true) : mG (d) 204 75 [a0, a1, a2, a3, some (.int x), a5, a6] [] lay M P = mG d 204 78 [a0, a1, a2, a3, some (.int (x + Int32.ofInt 1)), a5, a6] [] lay M P := e_iinc (n := 4) rfl rfl (mS1_4 h0)
set_option maxRecDepth 20000 in
theorem g204_78 {d : Nat} {a0 a1 a2 a3 a4 a5 a6 : Option Value} {lay : List mShp} {M : mMem} {P : mPost} : mG (d) 204 78 [a0, a1, a2, a3, a4, a5, a6] [] lay M P = mG d 204 34 [a0, a1, a2, a3, a4, a5, a6] [] lay M P := e_goto rfl rfl
set_option maxRecDepth 20000 in
theorem g204_81 {d : Nat} {a0 a1 a2 a3 a4 a5 a6 : Option Value} {lay : List mShp} {M : mMem} {P : mPost} : mG (d) 204 81 [a0, a1, a2, a3, a4, a5, a6] [] lay M P = mG d 204 82 [a0, a1, a2, a3, a4, a5, a6] [.long (Int64.ofNat 1)] lay M P := e_lconst (n := 1) rfl
set_option maxRecDepth 20000 in
theorem g204_82 {d : Nat} {a0 a1 a2 a3 a4 a5 a6 : Option Value} {s0 : Int64} {lay : List mShp} {M : mMem} {P : mPost} (h0 : mNoL a3 = true) : mG (d) 204 82 [a0, a1, a2, a3, a4, a5, a6] [.long s0] lay M P = mG d 204 84 [a0, a1, a2, a3, some (.long s0), none, a6] [] lay M P := e_lstore (i := 4) rfl (by simp) (mS2_4 h0)
set_option maxRecDepth 20000 in
theorem g204_84 {d : Nat} {a0 a1 a2 a3 a4 a5 a6 : Option Value} {lay : List mShp} {M : mMem} {P : mPost} : mG (d) 204 84 [a0, a1, a2, a3, a4, a5, a6] [] lay M P = mG d 204 85 [a0, a1, a2, a3, a4, a5, a6] [.int (Int32.ofInt 0)] lay M P := e_iconst rfl
set_option maxRecDepth 20000 in
theorem g204_85 {d : Nat} {a0 a1 a2 a3 a4 a5 a6 : Option Value} {s0 : Int32} {lay : List mShp} {M : mMem} {P : mPost} (h0 : mNoL a5 = true) : mG (d) 204 85 [a0, a1, a2, a3, a4, a5, a6] [.int s0] lay M P = mG d 204 87 [a0, a1, a2, a3, a4, a5, some (.int s0)] [] lay M P := e_istore (i := 6) rfl (by simp) (mS1_6 h0)
set_option maxRecDepth 20000 in
theorem g204_87 {d : Nat} {a0 a1 a2 a3 a4 a5 : Option Value} {x : Int32} {lay : List mShp} {M : mMem} {P : mPost} : mG (d) 204 87 [a0, a1, a2, a3, a4, a5, some (.int x)] [] lay M P = mG d 204 89 [a0, a1, a2, a3, a4, a5, some (.int x)] [.int x] lay M P := e_iload (i := 6) rfl rfl
set_option maxRecDepth 20000 in
theorem g204_89 {d : Nat} {a0 a1 a2 a4 a5 a6 : Option Value} {s0 : Int32} {x : Int32} {lay : List mShp} {M : mMem} {P : mPost} : mG (d) 204 89 [a0, a1, a2, some (.int x), a4, a5, a6] [.int s0] lay M P = mG d 204 90 [a0, a1, a2, some (.int x), a4, a5, a6] [.int x, .int s0] lay M P := e_iload_n (i := 3) rfl rfl rfl
set_option maxRecDepth 20000 in
theorem g204_90 {d : Nat} {a0 a1 a2 a3 a4 a5 a6 : Option Value} {s0 : Int32} {s1 : Int32} {lay : List mShp} {M : mMem} {P : mPost} : mG (d) 204 90 [a0, a1, a2, a3, a4, a5, a6] [.int s0, .int s1] lay M P = mG d 204 93 [a0, a1, a2, a3, a4, a5, a6] [.int (if 0 ≤ s0 then s0 else 0 - s0), .int s1] lay M P := e_abs rfl rfl (Nat.le_of_ble_eq_true rfl)
set_option maxRecDepth 20000 in
theorem g204_93 {d : Nat} {a0 a1 a2 a3 a4 a5 a6 : Option Value} {s0 : Int32} {s1 : Int32} {lay : List mShp} {M : mMem} {P : mPost} : mG (d) 204 93 [a0, a1, a2, a3, a4, a5, a6] [.int s0, .int s1] lay M P = if s1 < s0 then mG d 204 96 [a0, a1, a2, a3, a4, a5, a6] [] lay M P else mG d 204 110 [a0, a1, a2, a3, a4, a5, a6] [] lay M P := e_icmp_ge rfl rfl
set_option maxRecDepth 20000 in
theorem g204_96 {d : Nat} {a0 a1 a2 a3 a5 a6 : Option Value} {x : Int64} {lay : List mShp} {M : mMem} {P : mPost} : mG (d) 204 96 [a0, a1, a2, a3, some (.long x), a5, a6] [] lay M P = mG d 204 98 [a0, a1, a2, a3, some (.long x), a5, a6] [.long x] lay M P := e_lload (i := 4) rfl rfl
