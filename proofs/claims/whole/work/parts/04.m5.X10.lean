set_option maxRecDepth 20000 in
theorem g219_12 {d : Nat} {a0 a1 a2 a3 : Option Value} {s0 : Int32} {s1 : Int32} {s2 : Int32} {s3 : Int32} {lay : List mShp} {M : mMem} {P : mPost} : mG (d) 219 12 [a0, a1, a2, a3] [.int s0, .int s1, .int s2, .int s3] lay M P = mG d 219 13 [a0, a1, a2, a3] [.int (s1 - s0), .int s2, .int s3] lay M P := e_isub rfl
set_option maxRecDepth 20000 in
theorem g219_13 {d : Nat} {a0 a1 a2 a3 : Option Value} {s0 : Int32} {s1 : Int32} {s2 : Int32} {lay : List mShp} {M : mMem} {P : mPost} : mG (d + 1) 219 13 [a0, a1, a2, a3] [.int s0, .int s1, .int s2] lay M P = mF d 146 [.int s2, .int s1, .int s0] lay M (fun v lay1 M1 => mG (d + 1) 219 16 [a0, a1, a2, a3] (v.toList ++ []) lay1 M1 P) := e_static3 (j := 146) rfl rfl rfl rfl rfl (Nat.le_of_ble_eq_true rfl)
set_option maxRecDepth 20000 in
theorem g219_16 {d : Nat} {a0 a1 a2 a3 : Option Value} {s0 : Int32} {lay : List mShp} {M : mMem} {P : mPost} : mG (d) 219 16 [a0, a1, a2, a3] [.int s0] lay M P = if s0 = 0 then mG d 219 38 [a0, a1, a2, a3] [] lay M P else mG d 219 19 [a0, a1, a2, a3] [] lay M P := e_if_eq rfl rfl
set_option maxRecDepth 20000 in
theorem g219_19 {d : Nat} {a0 a1 a3 : Option Value} {x : Int32} {lay : List mShp} {M : mMem} {P : mPost} : mG (d) 219 19 [a0, a1, some (.int x), a3] [] lay M P = mG d 219 20 [a0, a1, some (.int x), a3] [.int x] lay M P := e_iload_n (i := 2) rfl rfl rfl
set_option maxRecDepth 20000 in
theorem g219_20 {d : Nat} {a0 a1 a2 a3 : Option Value} {s0 : Int32} {lay : List mShp} {M : mMem} {P : mPost} : mG (d) 219 20 [a0, a1, a2, a3] [.int s0] lay M P = mG d 219 21 [a0, a1, a2, a3] [.int (Int32.ofInt 0), .int s0] lay M P := e_iconst rfl
set_option maxRecDepth 20000 in
theorem g219_21 {d : Nat} {a0 a1 a2 a3 : Option Value} {s0 : Int32} {s1 : Int32} {lay : List mShp} {M : mMem} {P : mPost} : mG (d) 219 21 [a0, a1, a2, a3] [.int s0, .int s1] lay M P = mG d 219 22 [a0, a1, a2, a3] [.int (Int32.ofInt 3), .int s0, .int s1] lay M P := e_iconst rfl
set_option maxRecDepth 20000 in
theorem g219_22 {d : Nat} {a0 a1 a2 a3 : Option Value} {s0 : Int32} {s1 : Int32} {s2 : Int32} {lay : List mShp} {M : mMem} {P : mPost} : mG (d + 1) 219 22 [a0, a1, a2, a3] [.int s0, .int s1, .int s2] lay M P = mF d 146 [.int s2, .int s1, .int s0] lay M (fun v lay1 M1 => mG (d + 1) 219 25 [a0, a1, a2, a3] (v.toList ++ []) lay1 M1 P) := e_static3 (j := 146) rfl rfl rfl rfl rfl (Nat.le_of_ble_eq_true rfl)
set_option maxRecDepth 20000 in
theorem g219_25 {d : Nat} {a0 a1 a2 a3 : Option Value} {s0 : Int32} {lay : List mShp} {M : mMem} {P : mPost} : mG (d) 219 25 [a0, a1, a2, a3] [.int s0] lay M P = if s0 = 0 then mG d 219 38 [a0, a1, a2, a3] [] lay M P else mG d 219 28 [a0, a1, a2, a3] [] lay M P := e_if_eq rfl rfl
set_option maxRecDepth 20000 in
theorem g219_28 {d : Nat} {a1 a2 a3 : Option Value} {x : Nat} {lay : List mShp} {M : mMem} {P : mPost} (hx : ¬ x = 0) : mG (d) 219 28 [some (.ref x), a1, a2, a3] [] lay M P = mG d 219 29 [some (.ref x), a1, a2, a3] [.ref x] lay M P := e_aload_nP hx (i := 0) rfl rfl rfl
set_option maxRecDepth 20000 in
theorem g219_29 {d : Nat} {a0 a2 a3 : Option Value} {s0 : Nat} {x : Int32} {lay : List mShp} {M : mMem} {P : mPost} : mG (d) 219 29 [a0, some (.int x), a2, a3] [.ref s0] lay M P = mG d 219 30 [a0, some (.int x), a2, a3] [.int x, .ref s0] lay M P := e_iload_n (i := 1) rfl rfl rfl
set_option maxRecDepth 20000 in
theorem g219_30 {d : Nat} {a0 a1 a3 : Option Value} {s0 : Int32} {s1 : Nat} {x : Int32} {lay : List mShp} {M : mMem} {P : mPost} : mG (d) 219 30 [a0, a1, some (.int x), a3] [.int s0, .ref s1] lay M P = mG d 219 31 [a0, a1, some (.int x), a3] [.int x, .int s0, .ref s1] lay M P := e_iload_n (i := 2) rfl rfl rfl
set_option maxRecDepth 20000 in
theorem g219_31 {d : Nat} {a0 a1 a2 : Option Value} {s0 : Int32} {s1 : Int32} {s2 : Nat} {x : Int32} {lay : List mShp} {M : mMem} {P : mPost} : mG (d) 219 31 [a0, a1, a2, some (.int x)] [.int s0, .int s1, .ref s2] lay M P = mG d 219 32 [a0, a1, a2, some (.int x)] [.int x, .int s0, .int s1, .ref s2] lay M P := e_iload_n (i := 3) rfl rfl rfl
set_option maxRecDepth 20000 in
theorem g219_32 {d : Nat} {a0 a1 a2 a3 : Option Value} {s0 : Int32} {s1 : Int32} {s2 : Int32} {s3 : Nat} {lay : List mShp} {M : mMem} {P : mPost} (hs : mSh lay s3 = some (13, 44)) : mG (d + 1) 219 32 [a0, a1, a2, a3] [.int s0, .int s1, .int s2, .ref s3] lay M P = mF d 217 [.ref s3, .int s2, .int s1, .int s0] lay M (fun v lay1 M1 => mG (d + 1) 219 35 [a0, a1, a2, a3] (v.toList ++ []) lay1 M1 P) := e_virtP3 (j := 217) (c := 10) rfl rfl rfl rfl rfl rfl hs (Nat.le_of_ble_eq_true rfl)
set_option maxRecDepth 20000 in
theorem g219_35 {d : Nat} {a0 a1 a2 a3 : Option Value} {s0 : Int32} {lay : List mShp} {M : mMem} {P : mPost} : mG (d) 219 35 [a0, a1, a2, a3] [.int s0] lay M P = mG d 219 39 [a0, a1, a2, a3] [.int s0] lay M P := e_goto rfl rfl
set_option maxRecDepth 20000 in
theorem g219_38 {d : Nat} {a0 a1 a2 a3 : Option Value} {lay : List mShp} {M : mMem} {P : mPost} : mG (d) 219 38 [a0, a1, a2, a3] [] lay M P = mG d 219 39 [a0, a1, a2, a3] [.int (Int32.ofInt 0)] lay M P := e_iconst rfl
set_option maxRecDepth 20000 in
theorem g219_39 {d : Nat} {a0 a1 a2 a3 : Option Value} {s0 : Int32} {lay : List mShp} {M : mMem} {P : mPost} : mG (d) 219 39 [a0, a1, a2, a3] [.int s0] lay M P = P (some (.int s0)) lay M := e_ireturnI rfl rfl
-- 220 X10_trace
theorem g220_in {d : Nat} {x0 : Nat} {x1 : Int32} {lay : List mShp} {M : mMem} {P : mPost} : mF d 220 [.ref x0, .int x1] lay M P = mG d 220 0 [some (.ref x0), some (.int x1)] [] lay M P := mF_in rfl rfl
set_option maxRecDepth 20000 in
theorem g220_0 {d : Nat} {a0 : Option Value} {x : Int32} {lay : List mShp} {M : mMem} {P : mPost} : mG (d) 220 0 [a0, some (.int x)] [] lay M P = mG d 220 1 [a0, some (.int x)] [.int x] lay M P := e_iload_n (i := 1) rfl rfl rfl
set_option maxRecDepth 20000 in
theorem g220_1 {d : Nat} {a0 a1 : Option Value} {s0 : Int32} {lay : List mShp} {M : mMem} {P : mPost} : mG (d) 220 1 [a0, a1] [.int s0] lay M P = mG d 220 2 [a0, a1] [.int (Int32.ofInt 0), .int s0] lay M P := e_iconst rfl
set_option maxRecDepth 20000 in
theorem g220_2 {d : Nat} {a0 a1 : Option Value} {s0 : Int32} {s1 : Int32} {lay : List mShp} {M : mMem} {P : mPost} : mG (d) 220 2 [a0, a1] [.int s0, .int s1] lay M P = mG d 220 4 [a0, a1] [.int (Int32.ofInt 24), .int s0, .int s1] lay M P := e_bipush rfl
set_option maxRecDepth 20000 in
theorem g220_4 {d : Nat} {a1 : Option Value} {s0 : Int32} {s1 : Int32} {s2 : Int32} {x : Nat} {lay : List mShp} {M : mMem} {P : mPost} (hx : ¬ x = 0) : mG (d) 220 4 [some (.ref x), a1] [.int s0, .int s1, .int s2] lay M P = mG d 220 5 [some (.ref x), a1] [.ref x, .int s0, .int s1, .int s2] lay M P := e_aload_nP hx (i := 0) rfl rfl rfl
set_option maxRecDepth 20000 in
theorem g220_5 {d : Nat} {a0 a1 : Option Value} {s0 : Nat} {s1 : Int32} {s2 : Int32} {s3 : Int32} {lay : List mShp} {M : mMem} {P : mPost} (hs : mSh lay s0 = some (13, 44)) : mG (d) 220 5 [a0, a1] [.ref s0, .int s1, .int s2, .int s3] lay M P = mG d 220 8 [a0, a1] [.int (M.1 s0 43), .int s1, .int s2, .int s3] lay M P := mG_of_and (mIsO_of hs (by decide)) (e_getI (ci := 10) (j := 43) rfl rfl rfl)
set_option maxRecDepth 20000 in
theorem g220_8 {d : Nat} {a0 a1 : Option Value} {s0 : Int32} {s1 : Int32} {s2 : Int32} {s3 : Int32} {lay : List mShp} {M : mMem} {P : mPost} : mG (d) 220 8 [a0, a1] [.int s0, .int s1, .int s2, .int s3] lay M P = mG d 220 11 [a0, a1] [.int (if s0 < s1 then s0 else s1), .int s2, .int s3] lay M P := e_min rfl rfl (Nat.le_of_ble_eq_true rfl)
set_option maxRecDepth 20000 in
theorem g220_11 {d : Nat} {a0 a1 : Option Value} {s0 : Int32} {s1 : Int32} {s2 : Int32} {lay : List mShp} {M : mMem} {P : mPost} : mG (d) 220 11 [a0, a1] [.int s0, .int s1, .int s2] lay M P = mG d 220 12 [a0, a1] [.int (Int32.ofInt 1), .int s0, .int s1, .int s2] lay M P := e_iconst rfl
set_option maxRecDepth 20000 in
theorem g220_12 {d : Nat} {a0 a1 : Option Value} {s0 : Int32} {s1 : Int32} {s2 : Int32} {s3 : Int32} {lay : List mShp} {M : mMem} {P : mPost} : mG (d) 220 12 [a0, a1] [.int s0, .int s1, .int s2, .int s3] lay M P = mG d 220 13 [a0, a1] [.int (s1 - s0), .int s2, .int s3] lay M P := e_isub rfl
set_option maxRecDepth 20000 in
theorem g220_13 {d : Nat} {a0 a1 : Option Value} {s0 : Int32} {s1 : Int32} {s2 : Int32} {lay : List mShp} {M : mMem} {P : mPost} : mG (d + 1) 220 13 [a0, a1] [.int s0, .int s1, .int s2] lay M P = mF d 146 [.int s2, .int s1, .int s0] lay M (fun v lay1 M1 => mG (d + 1) 220 16 [a0, a1] (v.toList ++ []) lay1 M1 P) := e_static3 (j := 146) rfl rfl rfl rfl rfl (Nat.le_of_ble_eq_true rfl)
set_option maxRecDepth 20000 in
theorem g220_16 {d : Nat} {a0 a1 : Option Value} {s0 : Int32} {lay : List mShp} {M : mMem} {P : mPost} : mG (d) 220 16 [a0, a1] [.int s0] lay M P = if s0 = 0 then mG d 220 28 [a0, a1] [] lay M P else mG d 220 19 [a0, a1] [] lay M P := e_if_eq rfl rfl
set_option maxRecDepth 20000 in
theorem g220_19 {d : Nat} {a1 : Option Value} {x : Nat} {lay : List mShp} {M : mMem} {P : mPost} (hx : ¬ x = 0) : mG (d) 220 19 [some (.ref x), a1] [] lay M P = mG d 220 20 [some (.ref x), a1] [.ref x] lay M P := e_aload_nP hx (i := 0) rfl rfl rfl
set_option maxRecDepth 20000 in
theorem g220_20 {d : Nat} {a0 a1 : Option Value} {s0 : Nat} {lay : List mShp} {M : mMem} {P : mPost} (hs : mSh lay s0 = some (13, 44)) : mG (d) 220 20 [a0, a1] [.ref s0] lay M P = mG d 220 23 [a0, a1] [.ref (M.2.2 s0 42)] lay M P := mG_of_and (mIsO_of hs (by decide)) (e_getA (ci := 10) (j := 42) rfl rfl rfl)
set_option maxRecDepth 20000 in
theorem g220_23 {d : Nat} {a0 : Option Value} {s0 : Nat} {x : Int32} {lay : List mShp} {M : mMem} {P : mPost} : mG (d) 220 23 [a0, some (.int x)] [.ref s0] lay M P = mG d 220 24 [a0, some (.int x)] [.int x, .ref s0] lay M P := e_iload_n (i := 1) rfl rfl rfl
set_option maxRecDepth 20000 in
theorem g220_24 {d : Nat} {a0 a1 : Option Value} {s0 : Int32} {s1 : Nat} {lay : List mShp} {M : mMem} {P : mPost} (hs : mSh lay s1 = some (0, 24)) : mG (d) 220 24 [a0, a1] [.int s0, .ref s1] lay M P = (mIdx s0 24 = true ∧ mG d 220 25 [a0, a1] [.int (M.1 s1 s0.toNatClampNeg)] lay M P) := e_iaload rfl hs
set_option maxRecDepth 20000 in
theorem g220_25 {d : Nat} {a0 a1 : Option Value} {s0 : Int32} {lay : List mShp} {M : mMem} {P : mPost} : mG (d) 220 25 [a0, a1] [.int s0] lay M P = mG d 220 29 [a0, a1] [.int s0] lay M P := e_goto rfl rfl
set_option maxRecDepth 20000 in
theorem g220_28 {d : Nat} {a0 a1 : Option Value} {lay : List mShp} {M : mMem} {P : mPost} : mG (d) 220 28 [a0, a1] [] lay M P = mG d 220 29 [a0, a1] [.int (Int32.ofInt (-1))] lay M P := e_iconst rfl
set_option maxRecDepth 20000 in
theorem g220_29 {d : Nat} {a0 a1 : Option Value} {s0 : Int32} {lay : List mShp} {M : mMem} {P : mPost} : mG (d) 220 29 [a0, a1] [.int s0] lay M P = P (some (.int s0)) lay M := e_ireturnI rfl rfl
-- 221 X10_keep
theorem g221_in {d : Nat} {x0 : Nat} {x1 : Int32} {x2 : Int32} {lay : List mShp} {M : mMem} {P : mPost} : mF d 221 [.ref x0, .int x1, .int x2] lay M P = mG d 221 0 [some (.ref x0), some (.int x1), some (.int x2)] [] lay M P := mF_in rfl rfl
set_option maxRecDepth 20000 in
theorem g221_0 {d : Nat} {a0 a2 : Option Value} {x : Int32} {lay : List mShp} {M : mMem} {P : mPost} : mG (d) 221 0 [a0, some (.int x), a2] [] lay M P = mG d 221 1 [a0, some (.int x), a2] [.int x] lay M P := e_iload_n (i := 1) rfl rfl rfl
set_option maxRecDepth 20000 in
theorem g221_1 {d : Nat} {a0 a1 a2 : Option Value} {s0 : Int32} {lay : List mShp} {M : mMem} {P : mPost} : mG (d + 1) 221 1 [a0, a1, a2] [.int s0] lay M P = mF d 197 [.int s0] lay M (fun v lay1 M1 => mG (d + 1) 221 4 [a0, a1, a2] (v.toList ++ []) lay1 M1 P) := e_static1 (j := 197) rfl rfl rfl rfl rfl (Nat.le_of_ble_eq_true rfl)
set_option maxRecDepth 20000 in
theorem g221_4 {d : Nat} {a0 a1 a2 : Option Value} {s0 : Int32} {lay : List mShp} {M : mMem} {P : mPost} : mG (d) 221 4 [a0, a1, a2] [.int s0] lay M P = if s0 = 0 then mG d 221 21 [a0, a1, a2] [] lay M P else mG d 221 7 [a0, a1, a2] [] lay M P := e_if_eq rfl rfl
set_option maxRecDepth 20000 in
theorem g221_7 {d : Nat} {a0 a1 : Option Value} {x : Int32} {lay : List mShp} {M : mMem} {P : mPost} : mG (d) 221 7 [a0, a1, some (.int x)] [] lay M P = mG d 221 8 [a0, a1, some (.int x)] [.int x] lay M P := e_iload_n (i := 2) rfl rfl rfl
set_option maxRecDepth 20000 in
theorem g221_8 {d : Nat} {a0 a1 a2 : Option Value} {s0 : Int32} {lay : List mShp} {M : mMem} {P : mPost} : mG (d) 221 8 [a0, a1, a2] [.int s0] lay M P = mG d 221 9 [a0, a1, a2] [.int (Int32.ofInt (-1)), .int s0] lay M P := e_iconst rfl
set_option maxRecDepth 20000 in
theorem g221_9 {d : Nat} {a1 a2 : Option Value} {s0 : Int32} {s1 : Int32} {x : Nat} {lay : List mShp} {M : mMem} {P : mPost} (hx : ¬ x = 0) : mG (d) 221 9 [some (.ref x), a1, a2] [.int s0, .int s1] lay M P = mG d 221 10 [some (.ref x), a1, a2] [.ref x, .int s0, .int s1] lay M P := e_aload_nP hx (i := 0) rfl rfl rfl
set_option maxRecDepth 20000 in
theorem g221_10 {d : Nat} {a0 a1 a2 : Option Value} {s0 : Nat} {s1 : Int32} {s2 : Int32} {lay : List mShp} {M : mMem} {P : mPost} (hs : mSh lay s0 = some (13, 44)) : mG (d) 221 10 [a0, a1, a2] [.ref s0, .int s1, .int s2] lay M P = mG d 221 13 [a0, a1, a2] [.int (M.1 s0 41), .int s1, .int s2] lay M P := mG_of_and (mIsO_of hs (by decide)) (e_getI (ci := 10) (j := 41) rfl rfl rfl)
set_option maxRecDepth 20000 in
theorem g221_13 {d : Nat} {a0 a1 a2 : Option Value} {s0 : Int32} {s1 : Int32} {s2 : Int32} {lay : List mShp} {M : mMem} {P : mPost} : mG (d) 221 13 [a0, a1, a2] [.int s0, .int s1, .int s2] lay M P = mG d 221 14 [a0, a1, a2] [.int (Int32.ofInt 1), .int s0, .int s1, .int s2] lay M P := e_iconst rfl
set_option maxRecDepth 20000 in
theorem g221_14 {d : Nat} {a0 a1 a2 : Option Value} {s0 : Int32} {s1 : Int32} {s2 : Int32} {s3 : Int32} {lay : List mShp} {M : mMem} {P : mPost} : mG (d) 221 14 [a0, a1, a2] [.int s0, .int s1, .int s2, .int s3] lay M P = mG d 221 15 [a0, a1, a2] [.int (s1 - s0), .int s2, .int s3] lay M P := e_isub rfl
set_option maxRecDepth 20000 in
theorem g221_15 {d : Nat} {a0 a1 a2 : Option Value} {s0 : Int32} {s1 : Int32} {s2 : Int32} {lay : List mShp} {M : mMem} {P : mPost} : mG (d + 1) 221 15 [a0, a1, a2] [.int s0, .int s1, .int s2] lay M P = mF d 146 [.int s2, .int s1, .int s0] lay M (fun v lay1 M1 => mG (d + 1) 221 18 [a0, a1, a2] (v.toList ++ []) lay1 M1 P) := e_static3 (j := 146) rfl rfl rfl rfl rfl (Nat.le_of_ble_eq_true rfl)
set_option maxRecDepth 20000 in
theorem g221_18 {d : Nat} {a0 a1 a2 : Option Value} {s0 : Int32} {lay : List mShp} {M : mMem} {P : mPost} : mG (d) 221 18 [a0, a1, a2] [.int s0] lay M P = if s0 = 0 then mG d 221 21 [a0, a1, a2] [] lay M P else mG d 221 23 [a0, a1, a2] [] lay M P := e_if_ne rfl rfl
set_option maxRecDepth 20000 in
theorem g221_21 {d : Nat} {a0 a1 a2 : Option Value} {lay : List mShp} {M : mMem} {P : mPost} : mG (d) 221 21 [a0, a1, a2] [] lay M P = mG d 221 22 [a0, a1, a2] [.int (Int32.ofInt (-1))] lay M P := e_iconst rfl
set_option maxRecDepth 20000 in
theorem g221_22 {d : Nat} {a0 a1 a2 : Option Value} {s0 : Int32} {lay : List mShp} {M : mMem} {P : mPost} : mG (d) 221 22 [a0, a1, a2] [.int s0] lay M P = P (some (.int s0)) lay M := e_ireturnI rfl rfl
set_option maxRecDepth 20000 in
theorem g221_23 {d : Nat} {a1 a2 : Option Value} {x : Nat} {lay : List mShp} {M : mMem} {P : mPost} (hx : ¬ x = 0) : mG (d) 221 23 [some (.ref x), a1, a2] [] lay M P = mG d 221 24 [some (.ref x), a1, a2] [.ref x] lay M P := e_aload_nP hx (i := 0) rfl rfl rfl
set_option maxRecDepth 20000 in
theorem g221_24 {d : Nat} {a0 a1 a2 : Option Value} {s0 : Nat} {lay : List mShp} {M : mMem} {P : mPost} (hs : mSh lay s0 = some (13, 44)) : mG (d) 221 24 [a0, a1, a2] [.ref s0] lay M P = mG d 221 27 [a0, a1, a2] [.ref (M.2.2 s0 28)] lay M P := mG_of_and (mIsO_of hs (by decide)) (e_getA (ci := 10) (j := 28) rfl rfl rfl)
set_option maxRecDepth 20000 in
theorem g221_27 {d : Nat} {a0 a2 : Option Value} {s0 : Nat} {x : Int32} {lay : List mShp} {M : mMem} {P : mPost} : mG (d) 221 27 [a0, some (.int x), a2] [.ref s0] lay M P = mG d 221 28 [a0, some (.int x), a2] [.int x, .ref s0] lay M P := e_iload_n (i := 1) rfl rfl rfl
set_option maxRecDepth 20000 in
theorem g221_28 {d : Nat} {a0 a1 : Option Value} {s0 : Int32} {s1 : Nat} {x : Int32} {lay : List mShp} {M : mMem} {P : mPost} : mG (d) 221 28 [a0, a1, some (.int x)] [.int s0, .ref s1] lay M P = mG d 221 29 [a0, a1, some (.int x)] [.int x, .int s0, .ref s1] lay M P := e_iload_n (i := 2) rfl rfl rfl
set_option maxRecDepth 20000 in
theorem g221_29 {d : Nat} {a0 a1 a2 : Option Value} {s0 : Int32} {s1 : Int32} {s2 : Nat} {lay : List mShp} {M : mMem} {P : mPost} : mG (d) 221 29 [a0, a1, a2] [.int s0, .int s1, .ref s2] lay M P = mG d 221 30 [a0, a1, a2] [.int (Int32.ofInt (-1)), .int s0, .int s1, .ref s2] lay M P := e_iconst rfl
set_option maxRecDepth 20000 in
theorem g221_30 {d : Nat} {a0 a1 a2 : Option Value} {s0 : Int32} {s1 : Int32} {s2 : Int32} {s3 : Nat} {lay : List mShp} {M : mMem} {P : mPost} : mG (d) 221 30 [a0, a1, a2] [.int s0, .int s1, .int s2, .ref s3] lay M P = if s1 = s0 then mG d 221 33 [a0, a1, a2] [.int s2, .ref s3] lay M P else mG d 221 37 [a0, a1, a2] [.int s2, .ref s3] lay M P := e_icmp_ne rfl rfl
set_option maxRecDepth 20000 in
theorem g221_33 {d : Nat} {a0 a1 a2 : Option Value} {s0 : Int32} {s1 : Nat} {lay : List mShp} {M : mMem} {P : mPost} : mG (d) 221 33 [a0, a1, a2] [.int s0, .ref s1] lay M P = mG d 221 34 [a0, a1, a2] [.int (Int32.ofInt (-1)), .int s0, .ref s1] lay M P := e_iconst rfl
set_option maxRecDepth 20000 in
theorem g221_34 {d : Nat} {a0 a1 a2 : Option Value} {s0 : Int32} {s1 : Int32} {s2 : Nat} {lay : List mShp} {M : mMem} {P : mPost} : mG (d) 221 34 [a0, a1, a2] [.int s0, .int s1, .ref s2] lay M P = mG d 221 41 [a0, a1, a2] [.int s0, .int s1, .ref s2] lay M P := e_goto rfl rfl
set_option maxRecDepth 20000 in
theorem g221_37 {d : Nat} {a0 a1 a2 : Option Value} {s0 : Int32} {s1 : Nat} {lay : List mShp} {M : mMem} {P : mPost} : mG (d) 221 37 [a0, a1, a2] [.int s0, .ref s1] lay M P = mG d 221 39 [a0, a1, a2] [.int (Int32.ofInt 10), .int s0, .ref s1] lay M P := e_bipush rfl
set_option maxRecDepth 20000 in
theorem g221_39 {d : Nat} {a0 a1 : Option Value} {s0 : Int32} {s1 : Int32} {s2 : Nat} {x : Int32} {lay : List mShp} {M : mMem} {P : mPost} : mG (d) 221 39 [a0, a1, some (.int x)] [.int s0, .int s1, .ref s2] lay M P = mG d 221 40 [a0, a1, some (.int x)] [.int x, .int s0, .int s1, .ref s2] lay M P := e_iload_n (i := 2) rfl rfl rfl
set_option maxRecDepth 20000 in
theorem g221_40 {d : Nat} {a0 a1 a2 : Option Value} {s0 : Int32} {s1 : Int32} {s2 : Int32} {s3 : Nat} {lay : List mShp} {M : mMem} {P : mPost} : mG (d) 221 40 [a0, a1, a2] [.int s0, .int s1, .int s2, .ref s3] lay M P = mG d 221 41 [a0, a1, a2] [.int (s1 + s0), .int s2, .ref s3] lay M P := e_iadd rfl
set_option maxRecDepth 20000 in
theorem g221_41 {d : Nat} {a0 a1 a2 : Option Value} {s0 : Int32} {s1 : Int32} {s2 : Nat} {lay : List mShp} {M : mMem} {P : mPost} (hs : mSh lay s2 = some (0, 6)) : mG (d) 221 41 [a0, a1, a2] [.int s0, .int s1, .ref s2] lay M P = (mIdx s1 6 = true ∧ mG d 221 42 [a0, a1, a2] [] lay (mSetI M s2 s1.toNatClampNeg s0) P) := e_iastore rfl hs
set_option maxRecDepth 20000 in
theorem g221_42 {d : Nat} {a0 a1 a2 : Option Value} {lay : List mShp} {M : mMem} {P : mPost} : mG (d) 221 42 [a0, a1, a2] [] lay M P = mG d 221 43 [a0, a1, a2] [.int (Int32.ofInt 1)] lay M P := e_iconst rfl
set_option maxRecDepth 20000 in
theorem g221_43 {d : Nat} {a0 a1 a2 : Option Value} {s0 : Int32} {lay : List mShp} {M : mMem} {P : mPost} : mG (d) 221 43 [a0, a1, a2] [.int s0] lay M P = P (some (.int s0)) lay M := e_ireturnI rfl rfl
-- 222 X10_row
theorem g222_in {d : Nat} {x0 : Nat} {x1 : Int32} {x2 : Int32} {x3 : Int32} {lay : List mShp} {M : mMem} {P : mPost} : mF d 222 [.ref x0, .int x1, .int x2, .int x3] lay M P = mG d 222 0 [some (.ref x0), some (.int x1), some (.int x2), some (.int x3), none] [] lay M P := mF_in rfl rfl
set_option maxRecDepth 20000 in
theorem g222_0 {d : Nat} {a0 a2 a3 a4 : Option Value} {x : Int32} {lay : List mShp} {M : mMem} {P : mPost} : mG (d) 222 0 [a0, some (.int x), a2, a3, a4] [] lay M P = mG d 222 1 [a0, some (.int x), a2, a3, a4] [.int x] lay M P := e_iload_n (i := 1) rfl rfl rfl
set_option maxRecDepth 20000 in
theorem g222_1 {d : Nat} {a0 a1 a2 a3 a4 : Option Value} {s0 : Int32} {lay : List mShp} {M : mMem} {P : mPost} : mG (d + 1) 222 1 [a0, a1, a2, a3, a4] [.int s0] lay M P = mF d 197 [.int s0] lay M (fun v lay1 M1 => mG (d + 1) 222 4 [a0, a1, a2, a3, a4] (v.toList ++ []) lay1 M1 P) := e_static1 (j := 197) rfl rfl rfl rfl rfl (Nat.le_of_ble_eq_true rfl)
set_option maxRecDepth 20000 in
theorem g222_4 {d : Nat} {a0 a1 a2 a3 a4 : Option Value} {s0 : Int32} {lay : List mShp} {M : mMem} {P : mPost} : mG (d) 222 4 [a0, a1, a2, a3, a4] [.int s0] lay M P = if s0 = 0 then mG d 222 22 [a0, a1, a2, a3, a4] [] lay M P else mG d 222 7 [a0, a1, a2, a3, a4] [] lay M P := e_if_eq rfl rfl
set_option maxRecDepth 20000 in
theorem g222_7 {d : Nat} {a0 a1 a3 a4 : Option Value} {x : Int32} {lay : List mShp} {M : mMem} {P : mPost} : mG (d) 222 7 [a0, a1, some (.int x), a3, a4] [] lay M P = mG d 222 8 [a0, a1, some (.int x), a3, a4] [.int x] lay M P := e_iload_n (i := 2) rfl rfl rfl
set_option maxRecDepth 20000 in
theorem g222_8 {d : Nat} {a0 a1 a2 a3 a4 : Option Value} {s0 : Int32} {lay : List mShp} {M : mMem} {P : mPost} : mG (d) 222 8 [a0, a1, a2, a3, a4] [.int s0] lay M P = mG d 222 9 [a0, a1, a2, a3, a4] [.int (Int32.ofInt 0), .int s0] lay M P := e_iconst rfl
set_option maxRecDepth 20000 in
theorem g222_9 {d : Nat} {a0 a1 a2 a3 a4 : Option Value} {s0 : Int32} {s1 : Int32} {lay : List mShp} {M : mMem} {P : mPost} : mG (d) 222 9 [a0, a1, a2, a3, a4] [.int s0, .int s1] lay M P = mG d 222 10 [a0, a1, a2, a3, a4] [.int (Int32.ofInt 4), .int s0, .int s1] lay M P := e_iconst rfl
set_option maxRecDepth 20000 in
theorem g222_10 {d : Nat} {a0 a1 a2 a3 a4 : Option Value} {s0 : Int32} {s1 : Int32} {s2 : Int32} {lay : List mShp} {M : mMem} {P : mPost} : mG (d + 1) 222 10 [a0, a1, a2, a3, a4] [.int s0, .int s1, .int s2] lay M P = mF d 146 [.int s2, .int s1, .int s0] lay M (fun v lay1 M1 => mG (d + 1) 222 13 [a0, a1, a2, a3, a4] (v.toList ++ []) lay1 M1 P) := e_static3 (j := 146) rfl rfl rfl rfl rfl (Nat.le_of_ble_eq_true rfl)
set_option maxRecDepth 20000 in
theorem g222_13 {d : Nat} {a0 a1 a2 a3 a4 : Option Value} {s0 : Int32} {lay : List mShp} {M : mMem} {P : mPost} : mG (d) 222 13 [a0, a1, a2, a3, a4] [.int s0] lay M P = if s0 = 0 then mG d 222 22 [a0, a1, a2, a3, a4] [] lay M P else mG d 222 16 [a0, a1, a2, a3, a4] [] lay M P := e_if_eq rfl rfl
set_option maxRecDepth 20000 in
theorem g222_16 {d : Nat} {a0 a1 a2 a4 : Option Value} {x : Int32} {lay : List mShp} {M : mMem} {P : mPost} : mG (d) 222 16 [a0, a1, a2, some (.int x), a4] [] lay M P = mG d 222 17 [a0, a1, a2, some (.int x), a4] [.int x] lay M P := e_iload_n (i := 3) rfl rfl rfl
set_option maxRecDepth 20000 in
theorem g222_17 {d : Nat} {a0 a1 a2 a3 a4 : Option Value} {s0 : Int32} {lay : List mShp} {M : mMem} {P : mPost} : mG (d) 222 17 [a0, a1, a2, a3, a4] [.int s0] lay M P = mG d 222 19 [a0, a1, a2, a3, a4] [.int (Int32.ofInt 60), .int s0] lay M P := e_bipush rfl
set_option maxRecDepth 20000 in
theorem g222_19 {d : Nat} {a0 a1 a2 a3 a4 : Option Value} {s0 : Int32} {s1 : Int32} {lay : List mShp} {M : mMem} {P : mPost} : mG (d) 222 19 [a0, a1, a2, a3, a4] [.int s0, .int s1] lay M P = if s0 < s1 then mG d 222 22 [a0, a1, a2, a3, a4] [] lay M P else mG d 222 24 [a0, a1, a2, a3, a4] [] lay M P := e_icmp_le rfl rfl
set_option maxRecDepth 20000 in
theorem g222_22 {d : Nat} {a0 a1 a2 a3 a4 : Option Value} {lay : List mShp} {M : mMem} {P : mPost} : mG (d) 222 22 [a0, a1, a2, a3, a4] [] lay M P = mG d 222 23 [a0, a1, a2, a3, a4] [.int (Int32.ofInt (-1))] lay M P := e_iconst rfl
set_option maxRecDepth 20000 in
theorem g222_23 {d : Nat} {a0 a1 a2 a3 a4 : Option Value} {s0 : Int32} {lay : List mShp} {M : mMem} {P : mPost} : mG (d) 222 23 [a0, a1, a2, a3, a4] [.int s0] lay M P = P (some (.int s0)) lay M := e_ireturnI rfl rfl
set_option maxRecDepth 20000 in
theorem g222_24 {d : Nat} {a0 a1 a2 a4 : Option Value} {x : Int32} {lay : List mShp} {M : mMem} {P : mPost} : mG (d) 222 24 [a0, a1, a2, some (.int x), a4] [] lay M P = mG d 222 25 [a0, a1, a2, some (.int x), a4] [.int x] lay M P := e_iload_n (i := 3) rfl rfl rfl
set_option maxRecDepth 20000 in
theorem g222_25 {d : Nat} {a0 a1 a2 a3 a4 : Option Value} {s0 : Int32} {lay : List mShp} {M : mMem} {P : mPost} : mG (d) 222 25 [a0, a1, a2, a3, a4] [.int s0] lay M P = if s0 < 0 then mG d 222 28 [a0, a1, a2, a3, a4] [] lay M P else mG d 222 31 [a0, a1, a2, a3, a4] [] lay M P := e_if_ge rfl rfl
set_option maxRecDepth 20000 in
theorem g222_28 {d : Nat} {a0 a1 a2 a3 a4 : Option Value} {lay : List mShp} {M : mMem} {P : mPost} : mG (d) 222 28 [a0, a1, a2, a3, a4] [] lay M P = mG d 222 30 [a0, a1, a2, a3, a4] [.int (Int32.ofInt (-14))] lay M P := e_bipush rfl
set_option maxRecDepth 20000 in
theorem g222_30 {d : Nat} {a0 a1 a2 a3 a4 : Option Value} {s0 : Int32} {lay : List mShp} {M : mMem} {P : mPost} : mG (d) 222 30 [a0, a1, a2, a3, a4] [.int s0] lay M P = P (some (.int s0)) lay M := e_ireturnI rfl rfl
set_option maxRecDepth 20000 in
theorem g222_31 {d : Nat} {a1 a2 a3 a4 : Option Value} {x : Nat} {lay : List mShp} {M : mMem} {P : mPost} (hx : ¬ x = 0) : mG (d) 222 31 [some (.ref x), a1, a2, a3, a4] [] lay M P = mG d 222 32 [some (.ref x), a1, a2, a3, a4] [.ref x] lay M P := e_aload_nP hx (i := 0) rfl rfl rfl
set_option maxRecDepth 20000 in
theorem g222_32 {d : Nat} {a0 a1 a2 a3 a4 : Option Value} {s0 : Nat} {lay : List mShp} {M : mMem} {P : mPost} (hs : mSh lay s0 = some (13, 44)) : mG (d) 222 32 [a0, a1, a2, a3, a4] [.ref s0] lay M P = mG d 222 35 [a0, a1, a2, a3, a4] [.ref (M.2.2 s0 28)] lay M P := mG_of_and (mIsO_of hs (by decide)) (e_getA (ci := 10) (j := 28) rfl rfl rfl)
set_option maxRecDepth 20000 in
theorem g222_35 {d : Nat} {a0 a2 a3 a4 : Option Value} {s0 : Nat} {x : Int32} {lay : List mShp} {M : mMem} {P : mPost} : mG (d) 222 35 [a0, some (.int x), a2, a3, a4] [.ref s0] lay M P = mG d 222 36 [a0, some (.int x), a2, a3, a4] [.int x, .ref s0] lay M P := e_iload_n (i := 1) rfl rfl rfl
set_option maxRecDepth 20000 in
theorem g222_36 {d : Nat} {a0 a1 a3 a4 : Option Value} {s0 : Int32} {s1 : Nat} {x : Int32} {lay : List mShp} {M : mMem} {P : mPost} : mG (d) 222 36 [a0, a1, some (.int x), a3, a4] [.int s0, .ref s1] lay M P = mG d 222 37 [a0, a1, some (.int x), a3, a4] [.int x, .int s0, .ref s1] lay M P := e_iload_n (i := 2) rfl rfl rfl
set_option maxRecDepth 20000 in
theorem g222_37 {d : Nat} {a0 a1 a2 a3 a4 : Option Value} {s0 : Int32} {s1 : Int32} {s2 : Nat} {lay : List mShp} {M : mMem} {P : mPost} (hs : mSh lay s2 = some (0, 6)) : mG (d) 222 37 [a0, a1, a2, a3, a4] [.int s0, .int s1, .ref s2] lay M P = (mIdx s1 6 = true ∧ mG d 222 38 [a0, a1, a2, a3, a4] [] lay (mSetI M s2 s1.toNatClampNeg s0) P) := e_iastore rfl hs
set_option maxRecDepth 20000 in
theorem g222_38 {d : Nat} {a1 a2 a3 a4 : Option Value} {x : Nat} {lay : List mShp} {M : mMem} {P : mPost} (hx : ¬ x = 0) : mG (d) 222 38 [some (.ref x), a1, a2, a3, a4] [] lay M P = mG d 222 39 [some (.ref x), a1, a2, a3, a4] [.ref x] lay M P := e_aload_nP hx (i := 0) rfl rfl rfl
set_option maxRecDepth 20000 in
theorem g222_39 {d : Nat} {a0 a1 a2 a3 a4 : Option Value} {s0 : Nat} {lay : List mShp} {M : mMem} {P : mPost} (hs : mSh lay s0 = some (13, 44)) : mG (d) 222 39 [a0, a1, a2, a3, a4] [.ref s0] lay M P = mG d 222 42 [a0, a1, a2, a3, a4] [.ref (M.2.2 s0 29)] lay M P := mG_of_and (mIsO_of hs (by decide)) (e_getA (ci := 10) (j := 29) rfl rfl rfl)
set_option maxRecDepth 20000 in
theorem g222_42 {d : Nat} {a0 a2 a3 a4 : Option Value} {s0 : Nat} {x : Int32} {lay : List mShp} {M : mMem} {P : mPost} : mG (d) 222 42 [a0, some (.int x), a2, a3, a4] [.ref s0] lay M P = mG d 222 43 [a0, some (.int x), a2, a3, a4] [.int x, .ref s0] lay M P := e_iload_n (i := 1) rfl rfl rfl
set_option maxRecDepth 20000 in
theorem g222_43 {d : Nat} {a0 a1 a2 a4 : Option Value} {s0 : Int32} {s1 : Nat} {x : Int32} {lay : List mShp} {M : mMem} {P : mPost} : mG (d) 222 43 [a0, a1, a2, some (.int x), a4] [.int s0, .ref s1] lay M P = mG d 222 44 [a0, a1, a2, some (.int x), a4] [.int x, .int s0, .ref s1] lay M P := e_iload_n (i := 3) rfl rfl rfl
set_option maxRecDepth 20000 in
theorem g222_44 {d : Nat} {a0 a1 a2 a3 a4 : Option Value} {s0 : Int32} {s1 : Int32} {s2 : Nat} {lay : List mShp} {M : mMem} {P : mPost} (hs : mSh lay s2 = some (0, 6)) : mG (d) 222 44 [a0, a1, a2, a3, a4] [.int s0, .int s1, .ref s2] lay M P = (mIdx s1 6 = true ∧ mG d 222 45 [a0, a1, a2, a3, a4] [] lay (mSetI M s2 s1.toNatClampNeg s0) P) := e_iastore rfl hs
set_option maxRecDepth 20000 in
theorem g222_45 {d : Nat} {a0 a1 a2 a3 a4 : Option Value} {lay : List mShp} {M : mMem} {P : mPost} : mG (d) 222 45 [a0, a1, a2, a3, a4] [] lay M P = mG d 222 46 [a0, a1, a2, a3, a4] [.int (Int32.ofInt 0)] lay M P := e_iconst rfl
set_option maxRecDepth 20000 in
theorem g222_46 {d : Nat} {a0 a1 a2 a3 a4 : Option Value} {s0 : Int32} {lay : List mShp} {M : mMem} {P : mPost} (h0 : mNoL a3 = true) : mG (d) 222 46 [a0, a1, a2, a3, a4] [.int s0] lay M P = mG d 222 48 [a0, a1, a2, a3, some (.int s0)] [] lay M P := e_istore (i := 4) rfl (by simp) (mS1_4 h0)
set_option maxRecDepth 20000 in
theorem g222_48 {d : Nat} {a0 a1 a2 a3 : Option Value} {x : Int32} {lay : List mShp} {M : mMem} {P : mPost} : mG (d) 222 48 [a0, a1, a2, a3, some (.int x)] [] lay M P = mG d 222 50 [a0, a1, a2, a3, some (.int x)] [.int x] lay M P := e_iload (i := 4) rfl rfl
set_option maxRecDepth 20000 in
theorem g222_50 {d : Nat} {a0 a1 a2 a3 a4 : Option Value} {s0 : Int32} {lay : List mShp} {M : mMem} {P : mPost} : mG (d) 222 50 [a0, a1, a2, a3, a4] [.int s0] lay M P = mG d 222 52 [a0, a1, a2, a3, a4] [.int (Int32.ofInt 60), .int s0] lay M P := e_bipush rfl
set_option maxRecDepth 20000 in
theorem g222_52 {d : Nat} {a0 a1 a2 a3 a4 : Option Value} {s0 : Int32} {s1 : Int32} {lay : List mShp} {M : mMem} {P : mPost} : mG (d) 222 52 [a0, a1, a2, a3, a4] [.int s0, .int s1] lay M P = if s1 < s0 then mG d 222 55 [a0, a1, a2, a3, a4] [] lay M P else mG d 222 74 [a0, a1, a2, a3, a4] [] lay M P := e_icmp_ge rfl rfl
set_option maxRecDepth 20000 in
theorem g222_55 {d : Nat} {a1 a2 a3 a4 : Option Value} {x : Nat} {lay : List mShp} {M : mMem} {P : mPost} (hx : ¬ x = 0) : mG (d) 222 55 [some (.ref x), a1, a2, a3, a4] [] lay M P = mG d 222 56 [some (.ref x), a1, a2, a3, a4] [.ref x] lay M P := e_aload_nP hx (i := 0) rfl rfl rfl
set_option maxRecDepth 20000 in
theorem g222_56 {d : Nat} {a0 a1 a2 a3 a4 : Option Value} {s0 : Nat} {lay : List mShp} {M : mMem} {P : mPost} (hs : mSh lay s0 = some (13, 44)) : mG (d) 222 56 [a0, a1, a2, a3, a4] [.ref s0] lay M P = mG d 222 59 [a0, a1, a2, a3, a4] [.ref (M.2.2 s0 30)] lay M P := mG_of_and (mIsO_of hs (by decide)) (e_getA (ci := 10) (j := 30) rfl rfl rfl)
set_option maxRecDepth 20000 in
theorem g222_59 {d : Nat} {a0 a1 a2 a3 a4 : Option Value} {s0 : Nat} {lay : List mShp} {M : mMem} {P : mPost} : mG (d) 222 59 [a0, a1, a2, a3, a4] [.ref s0] lay M P = mG d 222 61 [a0, a1, a2, a3, a4] [.int (Int32.ofInt 60), .ref s0] lay M P := e_bipush rfl
set_option maxRecDepth 20000 in
theorem g222_61 {d : Nat} {a0 a2 a3 a4 : Option Value} {s0 : Int32} {s1 : Nat} {x : Int32} {lay : List mShp} {M : mMem} {P : mPost} : mG (d) 222 61 [a0, some (.int x), a2, a3, a4] [.int s0, .ref s1] lay M P = mG d 222 62 [a0, some (.int x), a2, a3, a4] [.int x, .int s0, .ref s1] lay M P := e_iload_n (i := 1) rfl rfl rfl
set_option maxRecDepth 20000 in
theorem g222_62 {d : Nat} {a0 a1 a2 a3 a4 : Option Value} {s0 : Int32} {s1 : Int32} {s2 : Nat} {lay : List mShp} {M : mMem} {P : mPost} : mG (d) 222 62 [a0, a1, a2, a3, a4] [.int s0, .int s1, .ref s2] lay M P = mG d 222 63 [a0, a1, a2, a3, a4] [.int (s1 * s0), .ref s2] lay M P := e_imul rfl
set_option maxRecDepth 20000 in
theorem g222_63 {d : Nat} {a0 a1 a2 a3 : Option Value} {s0 : Int32} {s1 : Nat} {x : Int32} {lay : List mShp} {M : mMem} {P : mPost} : mG (d) 222 63 [a0, a1, a2, a3, some (.int x)] [.int s0, .ref s1] lay M P = mG d 222 65 [a0, a1, a2, a3, some (.int x)] [.int x, .int s0, .ref s1] lay M P := e_iload (i := 4) rfl rfl
set_option maxRecDepth 20000 in
theorem g222_65 {d : Nat} {a0 a1 a2 a3 a4 : Option Value} {s0 : Int32} {s1 : Int32} {s2 : Nat} {lay : List mShp} {M : mMem} {P : mPost} : mG (d) 222 65 [a0, a1, a2, a3, a4] [.int s0, .int s1, .ref s2] lay M P = mG d 222 66 [a0, a1, a2, a3, a4] [.int (s1 + s0), .ref s2] lay M P := e_iadd rfl
set_option maxRecDepth 20000 in
theorem g222_66 {d : Nat} {a0 a1 a2 a3 a4 : Option Value} {s0 : Int32} {s1 : Nat} {lay : List mShp} {M : mMem} {P : mPost} : mG (d) 222 66 [a0, a1, a2, a3, a4] [.int s0, .ref s1] lay M P = mG d 222 67 [a0, a1, a2, a3, a4] [.long (Int64.ofNat 0), .int s0, .ref s1] lay M P := e_lconst (n := 0) rfl
set_option maxRecDepth 20000 in
theorem g222_67 {d : Nat} {a0 a1 a2 a3 a4 : Option Value} {s0 : Int64} {s1 : Int32} {s2 : Nat} {lay : List mShp} {M : mMem} {P : mPost} (hs : mSh lay s2 = some (1, 360)) : mG (d) 222 67 [a0, a1, a2, a3, a4] [.long s0, .int s1, .ref s2] lay M P = (mIdx s1 360 = true ∧ mG d 222 68 [a0, a1, a2, a3, a4] [] lay (mSetL M s2 s1.toNatClampNeg s0) P) := e_lastore rfl hs
set_option maxRecDepth 20000 in
theorem g222_68 {d : Nat} {a0 a1 a2 a3 : Option Value} {x : Int32} {lay : List mShp} {M : mMem} {P : mPost} (h0 : mNoL a3 = true) : mG (d) 222 68 [a0, a1, a2, a3, some (.int x)] [] lay M P = mG d 222 71 [a0, a1, a2, a3, some (.int (x + Int32.ofInt 1))] [] lay M P := e_iinc (n := 4) rfl rfl (mS1_4 h0)
set_option maxRecDepth 20000 in
theorem g222_71 {d : Nat} {a0 a1 a2 a3 a4 : Option Value} {lay : List mShp} {M : mMem} {P : mPost} : mG (d) 222 71 [a0, a1, a2, a3, a4] [] lay M P = mG d 222 48 [a0, a1, a2, a3, a4] [] lay M P := e_goto rfl rfl
set_option maxRecDepth 20000 in
theorem g222_74 {d : Nat} {a0 a1 a2 a3 a4 : Option Value} {lay : List mShp} {M : mMem} {P : mPost} : mG (d) 222 74 [a0, a1, a2, a3, a4] [] lay M P = mG d 222 75 [a0, a1, a2, a3, a4] [.int (Int32.ofInt 1)] lay M P := e_iconst rfl
set_option maxRecDepth 20000 in
theorem g222_75 {d : Nat} {a0 a1 a2 a3 a4 : Option Value} {s0 : Int32} {lay : List mShp} {M : mMem} {P : mPost} : mG (d) 222 75 [a0, a1, a2, a3, a4] [.int s0] lay M P = P (some (.int s0)) lay M := e_ireturnI rfl rfl
-- 223 X10_rowAt
theorem g223_in {d : Nat} {x0 : Nat} {x1 : Int32} {x2 : Int32} {lay : List mShp} {M : mMem} {P : mPost} : mF d 223 [.ref x0, .int x1, .int x2] lay M P = mG d 223 0 [some (.ref x0), some (.int x1), some (.int x2)] [] lay M P := mF_in rfl rfl
set_option maxRecDepth 20000 in
theorem g223_0 {d : Nat} {a0 a2 : Option Value} {x : Int32} {lay : List mShp} {M : mMem} {P : mPost} : mG (d) 223 0 [a0, some (.int x), a2] [] lay M P = mG d 223 1 [a0, some (.int x), a2] [.int x] lay M P := e_iload_n (i := 1) rfl rfl rfl
set_option maxRecDepth 20000 in
theorem g223_1 {d : Nat} {a0 a1 a2 : Option Value} {s0 : Int32} {lay : List mShp} {M : mMem} {P : mPost} : mG (d + 1) 223 1 [a0, a1, a2] [.int s0] lay M P = mF d 197 [.int s0] lay M (fun v lay1 M1 => mG (d + 1) 223 4 [a0, a1, a2] (v.toList ++ []) lay1 M1 P) := e_static1 (j := 197) rfl rfl rfl rfl rfl (Nat.le_of_ble_eq_true rfl)
set_option maxRecDepth 20000 in
theorem g223_4 {d : Nat} {a0 a1 a2 : Option Value} {s0 : Int32} {lay : List mShp} {M : mMem} {P : mPost} : mG (d) 223 4 [a0, a1, a2] [.int s0] lay M P = if s0 = 0 then mG d 223 7 [a0, a1, a2] [] lay M P else mG d 223 11 [a0, a1, a2] [] lay M P := e_if_ne rfl rfl
set_option maxRecDepth 20000 in
theorem g223_7 {d : Nat} {a0 a1 a2 : Option Value} {lay : List mShp} {M : mMem} {P : mPost} : mG (d) 223 7 [a0, a1, a2] [] lay M P = mG d 223 8 [a0, a1, a2] [.int (Int32.ofInt (-1))] lay M P := e_iconst rfl
set_option maxRecDepth 20000 in
theorem g223_8 {d : Nat} {a0 a1 a2 : Option Value} {s0 : Int32} {lay : List mShp} {M : mMem} {P : mPost} : mG (d) 223 8 [a0, a1, a2] [.int s0] lay M P = mG d 223 63 [a0, a1, a2] [.int s0] lay M P := e_goto rfl rfl
set_option maxRecDepth 20000 in
theorem g223_11 {d : Nat} {a1 a2 : Option Value} {x : Nat} {lay : List mShp} {M : mMem} {P : mPost} (hx : ¬ x = 0) : mG (d) 223 11 [some (.ref x), a1, a2] [] lay M P = mG d 223 12 [some (.ref x), a1, a2] [.ref x] lay M P := e_aload_nP hx (i := 0) rfl rfl rfl
set_option maxRecDepth 20000 in
theorem g223_12 {d : Nat} {a0 a1 a2 : Option Value} {s0 : Nat} {lay : List mShp} {M : mMem} {P : mPost} (hs : mSh lay s0 = some (13, 44)) : mG (d) 223 12 [a0, a1, a2] [.ref s0] lay M P = mG d 223 15 [a0, a1, a2] [.ref (M.2.2 s0 28)] lay M P := mG_of_and (mIsO_of hs (by decide)) (e_getA (ci := 10) (j := 28) rfl rfl rfl)
set_option maxRecDepth 20000 in
theorem g223_15 {d : Nat} {a0 a2 : Option Value} {s0 : Nat} {x : Int32} {lay : List mShp} {M : mMem} {P : mPost} : mG (d) 223 15 [a0, some (.int x), a2] [.ref s0] lay M P = mG d 223 16 [a0, some (.int x), a2] [.int x, .ref s0] lay M P := e_iload_n (i := 1) rfl rfl rfl
set_option maxRecDepth 20000 in
theorem g223_16 {d : Nat} {a0 a1 a2 : Option Value} {s0 : Int32} {s1 : Nat} {lay : List mShp} {M : mMem} {P : mPost} (hs : mSh lay s1 = some (0, 6)) : mG (d) 223 16 [a0, a1, a2] [.int s0, .ref s1] lay M P = (mIdx s0 6 = true ∧ mG d 223 17 [a0, a1, a2] [.int (M.1 s1 s0.toNatClampNeg)] lay M P) := e_iaload rfl hs
set_option maxRecDepth 20000 in
theorem g223_17 {d : Nat} {a0 a1 a2 : Option Value} {s0 : Int32} {lay : List mShp} {M : mMem} {P : mPost} : mG (d) 223 17 [a0, a1, a2] [.int s0] lay M P = mG d 223 18 [a0, a1, a2] [.int (Int32.ofInt (-1)), .int s0] lay M P := e_iconst rfl
set_option maxRecDepth 20000 in
theorem g223_18 {d : Nat} {a0 a1 a2 : Option Value} {s0 : Int32} {s1 : Int32} {lay : List mShp} {M : mMem} {P : mPost} : mG (d) 223 18 [a0, a1, a2] [.int s0, .int s1] lay M P = if s1 = s0 then mG d 223 21 [a0, a1, a2] [] lay M P else mG d 223 26 [a0, a1, a2] [] lay M P := e_icmp_ne rfl rfl
set_option maxRecDepth 20000 in
theorem g223_21 {d : Nat} {a0 a1 a2 : Option Value} {lay : List mShp} {M : mMem} {P : mPost} : mG (d) 223 21 [a0, a1, a2] [] lay M P = mG d 223 23 [a0, a1, a2] [.int (Int32.ofInt (-11))] lay M P := e_bipush rfl
set_option maxRecDepth 20000 in
theorem g223_23 {d : Nat} {a0 a1 a2 : Option Value} {s0 : Int32} {lay : List mShp} {M : mMem} {P : mPost} : mG (d) 223 23 [a0, a1, a2] [.int s0] lay M P = mG d 223 63 [a0, a1, a2] [.int s0] lay M P := e_goto rfl rfl
set_option maxRecDepth 20000 in
theorem g223_26 {d : Nat} {a1 a2 : Option Value} {x : Nat} {lay : List mShp} {M : mMem} {P : mPost} (hx : ¬ x = 0) : mG (d) 223 26 [some (.ref x), a1, a2] [] lay M P = mG d 223 27 [some (.ref x), a1, a2] [.ref x] lay M P := e_aload_nP hx (i := 0) rfl rfl rfl
set_option maxRecDepth 20000 in
theorem g223_27 {d : Nat} {a0 a1 a2 : Option Value} {s0 : Nat} {lay : List mShp} {M : mMem} {P : mPost} (hs : mSh lay s0 = some (13, 44)) : mG (d) 223 27 [a0, a1, a2] [.ref s0] lay M P = mG d 223 30 [a0, a1, a2] [.ref (M.2.2 s0 28)] lay M P := mG_of_and (mIsO_of hs (by decide)) (e_getA (ci := 10) (j := 28) rfl rfl rfl)
set_option maxRecDepth 20000 in
theorem g223_30 {d : Nat} {a0 a2 : Option Value} {s0 : Nat} {x : Int32} {lay : List mShp} {M : mMem} {P : mPost} : mG (d) 223 30 [a0, some (.int x), a2] [.ref s0] lay M P = mG d 223 31 [a0, some (.int x), a2] [.int x, .ref s0] lay M P := e_iload_n (i := 1) rfl rfl rfl
set_option maxRecDepth 20000 in
theorem g223_31 {d : Nat} {a0 a1 a2 : Option Value} {s0 : Int32} {s1 : Nat} {lay : List mShp} {M : mMem} {P : mPost} (hs : mSh lay s1 = some (0, 6)) : mG (d) 223 31 [a0, a1, a2] [.int s0, .ref s1] lay M P = (mIdx s0 6 = true ∧ mG d 223 32 [a0, a1, a2] [.int (M.1 s1 s0.toNatClampNeg)] lay M P) := e_iaload rfl hs
set_option maxRecDepth 20000 in
theorem g223_32 {d : Nat} {a0 a1 a2 : Option Value} {s0 : Int32} {lay : List mShp} {M : mMem} {P : mPost} : mG (d) 223 32 [a0, a1, a2] [.int s0] lay M P = mG d 223 33 [a0, a1, a2] [.int (Int32.ofInt 4), .int s0] lay M P := e_iconst rfl
set_option maxRecDepth 20000 in
theorem g223_33 {d : Nat} {a0 a1 a2 : Option Value} {s0 : Int32} {s1 : Int32} {lay : List mShp} {M : mMem} {P : mPost} : mG (d) 223 33 [a0, a1, a2] [.int s0, .int s1] lay M P = if s0 < s1 then mG d 223 36 [a0, a1, a2] [] lay M P else mG d 223 41 [a0, a1, a2] [] lay M P := e_icmp_le rfl rfl
set_option maxRecDepth 20000 in
theorem g223_36 {d : Nat} {a0 a1 a2 : Option Value} {lay : List mShp} {M : mMem} {P : mPost} : mG (d) 223 36 [a0, a1, a2] [] lay M P = mG d 223 38 [a0, a1, a2] [.int (Int32.ofInt (-12))] lay M P := e_bipush rfl
set_option maxRecDepth 20000 in
theorem g223_38 {d : Nat} {a0 a1 a2 : Option Value} {s0 : Int32} {lay : List mShp} {M : mMem} {P : mPost} : mG (d) 223 38 [a0, a1, a2] [.int s0] lay M P = mG d 223 63 [a0, a1, a2] [.int s0] lay M P := e_goto rfl rfl
set_option maxRecDepth 20000 in
theorem g223_41 {d : Nat} {a0 a1 : Option Value} {x : Int32} {lay : List mShp} {M : mMem} {P : mPost} : mG (d) 223 41 [a0, a1, some (.int x)] [] lay M P = mG d 223 42 [a0, a1, some (.int x)] [.int x] lay M P := e_iload_n (i := 2) rfl rfl rfl
set_option maxRecDepth 20000 in
theorem g223_42 {d : Nat} {a0 a1 a2 : Option Value} {s0 : Int32} {lay : List mShp} {M : mMem} {P : mPost} : mG (d) 223 42 [a0, a1, a2] [.int s0] lay M P = mG d 223 43 [a0, a1, a2] [.int (Int32.ofInt 0), .int s0] lay M P := e_iconst rfl
set_option maxRecDepth 20000 in
theorem g223_43 {d : Nat} {a1 a2 : Option Value} {s0 : Int32} {s1 : Int32} {x : Nat} {lay : List mShp} {M : mMem} {P : mPost} (hx : ¬ x = 0) : mG (d) 223 43 [some (.ref x), a1, a2] [.int s0, .int s1] lay M P = mG d 223 44 [some (.ref x), a1, a2] [.ref x, .int s0, .int s1] lay M P := e_aload_nP hx (i := 0) rfl rfl rfl
set_option maxRecDepth 20000 in
theorem g223_44 {d : Nat} {a0 a1 a2 : Option Value} {s0 : Nat} {s1 : Int32} {s2 : Int32} {lay : List mShp} {M : mMem} {P : mPost} (hs : mSh lay s0 = some (13, 44)) : mG (d) 223 44 [a0, a1, a2] [.ref s0, .int s1, .int s2] lay M P = mG d 223 47 [a0, a1, a2] [.ref (M.2.2 s0 29), .int s1, .int s2] lay M P := mG_of_and (mIsO_of hs (by decide)) (e_getA (ci := 10) (j := 29) rfl rfl rfl)
set_option maxRecDepth 20000 in
theorem g223_47 {d : Nat} {a0 a2 : Option Value} {s0 : Nat} {s1 : Int32} {s2 : Int32} {x : Int32} {lay : List mShp} {M : mMem} {P : mPost} : mG (d) 223 47 [a0, some (.int x), a2] [.ref s0, .int s1, .int s2] lay M P = mG d 223 48 [a0, some (.int x), a2] [.int x, .ref s0, .int s1, .int s2] lay M P := e_iload_n (i := 1) rfl rfl rfl
set_option maxRecDepth 20000 in
theorem g223_48 {d : Nat} {a0 a1 a2 : Option Value} {s0 : Int32} {s1 : Nat} {s2 : Int32} {s3 : Int32} {lay : List mShp} {M : mMem} {P : mPost} (hs : mSh lay s1 = some (0, 6)) : mG (d) 223 48 [a0, a1, a2] [.int s0, .ref s1, .int s2, .int s3] lay M P = (mIdx s0 6 = true ∧ mG d 223 49 [a0, a1, a2] [.int (M.1 s1 s0.toNatClampNeg), .int s2, .int s3] lay M P) := e_iaload rfl hs
set_option maxRecDepth 20000 in
theorem g223_49 {d : Nat} {a0 a1 a2 : Option Value} {s0 : Int32} {s1 : Int32} {s2 : Int32} {lay : List mShp} {M : mMem} {P : mPost} : mG (d) 223 49 [a0, a1, a2] [.int s0, .int s1, .int s2] lay M P = mG d 223 50 [a0, a1, a2] [.int (Int32.ofInt 1), .int s0, .int s1, .int s2] lay M P := e_iconst rfl
set_option maxRecDepth 20000 in
theorem g223_50 {d : Nat} {a0 a1 a2 : Option Value} {s0 : Int32} {s1 : Int32} {s2 : Int32} {s3 : Int32} {lay : List mShp} {M : mMem} {P : mPost} : mG (d) 223 50 [a0, a1, a2] [.int s0, .int s1, .int s2, .int s3] lay M P = mG d 223 51 [a0, a1, a2] [.int (s1 - s0), .int s2, .int s3] lay M P := e_isub rfl
set_option maxRecDepth 20000 in
theorem g223_51 {d : Nat} {a0 a1 a2 : Option Value} {s0 : Int32} {s1 : Int32} {s2 : Int32} {lay : List mShp} {M : mMem} {P : mPost} : mG (d + 1) 223 51 [a0, a1, a2] [.int s0, .int s1, .int s2] lay M P = mF d 146 [.int s2, .int s1, .int s0] lay M (fun v lay1 M1 => mG (d + 1) 223 54 [a0, a1, a2] (v.toList ++ []) lay1 M1 P) := e_static3 (j := 146) rfl rfl rfl rfl rfl (Nat.le_of_ble_eq_true rfl)
set_option maxRecDepth 20000 in
theorem g223_54 {d : Nat} {a0 a1 a2 : Option Value} {s0 : Int32} {lay : List mShp} {M : mMem} {P : mPost} : mG (d) 223 54 [a0, a1, a2] [.int s0] lay M P = if s0 = 0 then mG d 223 57 [a0, a1, a2] [] lay M P else mG d 223 62 [a0, a1, a2] [] lay M P := e_if_ne rfl rfl
set_option maxRecDepth 20000 in
theorem g223_57 {d : Nat} {a0 a1 a2 : Option Value} {lay : List mShp} {M : mMem} {P : mPost} : mG (d) 223 57 [a0, a1, a2] [] lay M P = mG d 223 59 [a0, a1, a2] [.int (Int32.ofInt (-13))] lay M P := e_bipush rfl
set_option maxRecDepth 20000 in
theorem g223_59 {d : Nat} {a0 a1 a2 : Option Value} {s0 : Int32} {lay : List mShp} {M : mMem} {P : mPost} : mG (d) 223 59 [a0, a1, a2] [.int s0] lay M P = mG d 223 63 [a0, a1, a2] [.int s0] lay M P := e_goto rfl rfl
set_option maxRecDepth 20000 in
theorem g223_62 {d : Nat} {a0 a1 a2 : Option Value} {lay : List mShp} {M : mMem} {P : mPost} : mG (d) 223 62 [a0, a1, a2] [] lay M P = mG d 223 63 [a0, a1, a2] [.int (Int32.ofInt 1)] lay M P := e_iconst rfl
set_option maxRecDepth 20000 in
theorem g223_63 {d : Nat} {a0 a1 a2 : Option Value} {s0 : Int32} {lay : List mShp} {M : mMem} {P : mPost} : mG (d) 223 63 [a0, a1, a2] [.int s0] lay M P = P (some (.int s0)) lay M := e_ireturnI rfl rfl
-- 224 X10_put
theorem g224_in {d : Nat} {x0 : Nat} {x1 : Int32} {x2 : Int32} {x3 : Int64} {lay : List mShp} {M : mMem} {P : mPost} : mF d 224 [.ref x0, .int x1, .int x2, .long x3] lay M P = mG d 224 0 [some (.ref x0), some (.int x1), some (.int x2), some (.long x3), none, none, none] [] lay M P := mF_in rfl rfl
set_option maxRecDepth 20000 in
theorem g224_0 {d : Nat} {a1 a2 a3 a4 a5 a6 : Option Value} {x : Nat} {lay : List mShp} {M : mMem} {P : mPost} (hx : ¬ x = 0) : mG (d) 224 0 [some (.ref x), a1, a2, a3, a4, a5, a6] [] lay M P = mG d 224 1 [some (.ref x), a1, a2, a3, a4, a5, a6] [.ref x] lay M P := e_aload_nP hx (i := 0) rfl rfl rfl
set_option maxRecDepth 20000 in
theorem g224_1 {d : Nat} {a0 a2 a3 a4 a5 a6 : Option Value} {s0 : Nat} {x : Int32} {lay : List mShp} {M : mMem} {P : mPost} : mG (d) 224 1 [a0, some (.int x), a2, a3, a4, a5, a6] [.ref s0] lay M P = mG d 224 2 [a0, some (.int x), a2, a3, a4, a5, a6] [.int x, .ref s0] lay M P := e_iload_n (i := 1) rfl rfl rfl
set_option maxRecDepth 20000 in
theorem g224_2 {d : Nat} {a0 a1 a3 a4 a5 a6 : Option Value} {s0 : Int32} {s1 : Nat} {x : Int32} {lay : List mShp} {M : mMem} {P : mPost} : mG (d) 224 2 [a0, a1, some (.int x), a3, a4, a5, a6] [.int s0, .ref s1] lay M P = mG d 224 3 [a0, a1, some (.int x), a3, a4, a5, a6] [.int x, .int s0, .ref s1] lay M P := e_iload_n (i := 2) rfl rfl rfl
set_option maxRecDepth 20000 in
theorem g224_3 {d : Nat} {a0 a1 a2 a3 a4 a5 a6 : Option Value} {s0 : Int32} {s1 : Int32} {s2 : Nat} {lay : List mShp} {M : mMem} {P : mPost} (hs : mSh lay s2 = some (13, 44)) : mG (d + 1) 224 3 [a0, a1, a2, a3, a4, a5, a6] [.int s0, .int s1, .ref s2] lay M P = mF d 223 [.ref s2, .int s1, .int s0] lay M (fun v lay1 M1 => mG (d + 1) 224 6 [a0, a1, a2, a3, a4, a5, a6] (v.toList ++ []) lay1 M1 P) := e_virtP2 (j := 223) (c := 10) rfl rfl rfl rfl rfl rfl hs (Nat.le_of_ble_eq_true rfl)
set_option maxRecDepth 20000 in
theorem g224_6 {d : Nat} {a0 a1 a2 a3 a4 a5 a6 : Option Value} {s0 : Int32} {lay : List mShp} {M : mMem} {P : mPost} (h0 : mNoL a4 = true) : mG (d) 224 6 [a0, a1, a2, a3, a4, a5, a6] [.int s0] lay M P = mG d 224 8 [a0, a1, a2, a3, a4, some (.int s0), a6] [] lay M P := e_istore (i := 5) rfl (by simp) (mS1_5 h0)
set_option maxRecDepth 20000 in
theorem g224_8 {d : Nat} {a0 a1 a2 a3 a4 a6 : Option Value} {x : Int32} {lay : List mShp} {M : mMem} {P : mPost} : mG (d) 224 8 [a0, a1, a2, a3, a4, some (.int x), a6] [] lay M P = mG d 224 10 [a0, a1, a2, a3, a4, some (.int x), a6] [.int x] lay M P := e_iload (i := 5) rfl rfl
set_option maxRecDepth 20000 in
theorem g224_10 {d : Nat} {a0 a1 a2 a3 a4 a5 a6 : Option Value} {s0 : Int32} {lay : List mShp} {M : mMem} {P : mPost} : mG (d) 224 10 [a0, a1, a2, a3, a4, a5, a6] [.int s0] lay M P = mG d 224 11 [a0, a1, a2, a3, a4, a5, a6] [.int (Int32.ofInt 1), .int s0] lay M P := e_iconst rfl
set_option maxRecDepth 20000 in
theorem g224_11 {d : Nat} {a0 a1 a2 a3 a4 a5 a6 : Option Value} {s0 : Int32} {s1 : Int32} {lay : List mShp} {M : mMem} {P : mPost} : mG (d) 224 11 [a0, a1, a2, a3, a4, a5, a6] [.int s0, .int s1] lay M P = if s1 < s0 then mG d 224 14 [a0, a1, a2, a3, a4, a5, a6] [] lay M P else mG d 224 17 [a0, a1, a2, a3, a4, a5, a6] [] lay M P := e_icmp_ge rfl rfl
set_option maxRecDepth 20000 in
theorem g224_14 {d : Nat} {a0 a1 a2 a3 a4 a6 : Option Value} {x : Int32} {lay : List mShp} {M : mMem} {P : mPost} : mG (d) 224 14 [a0, a1, a2, a3, a4, some (.int x), a6] [] lay M P = mG d 224 16 [a0, a1, a2, a3, a4, some (.int x), a6] [.int x] lay M P := e_iload (i := 5) rfl rfl
set_option maxRecDepth 20000 in
theorem g224_16 {d : Nat} {a0 a1 a2 a3 a4 a5 a6 : Option Value} {s0 : Int32} {lay : List mShp} {M : mMem} {P : mPost} : mG (d) 224 16 [a0, a1, a2, a3, a4, a5, a6] [.int s0] lay M P = P (some (.int s0)) lay M := e_ireturnI rfl rfl
set_option maxRecDepth 20000 in
theorem g224_17 {d : Nat} {a1 a2 a3 a4 a5 a6 : Option Value} {x : Nat} {lay : List mShp} {M : mMem} {P : mPost} (hx : ¬ x = 0) : mG (d) 224 17 [some (.ref x), a1, a2, a3, a4, a5, a6] [] lay M P = mG d 224 18 [some (.ref x), a1, a2, a3, a4, a5, a6] [.ref x] lay M P := e_aload_nP hx (i := 0) rfl rfl rfl
set_option maxRecDepth 20000 in
theorem g224_18 {d : Nat} {a0 a1 a2 a3 a4 a5 a6 : Option Value} {s0 : Nat} {lay : List mShp} {M : mMem} {P : mPost} (hs : mSh lay s0 = some (13, 44)) : mG (d) 224 18 [a0, a1, a2, a3, a4, a5, a6] [.ref s0] lay M P = mG d 224 21 [a0, a1, a2, a3, a4, a5, a6] [.ref (M.2.2 s0 28)] lay M P := mG_of_and (mIsO_of hs (by decide)) (e_getA (ci := 10) (j := 28) rfl rfl rfl)
set_option maxRecDepth 20000 in
theorem g224_21 {d : Nat} {a0 a2 a3 a4 a5 a6 : Option Value} {s0 : Nat} {x : Int32} {lay : List mShp} {M : mMem} {P : mPost} : mG (d) 224 21 [a0, some (.int x), a2, a3, a4, a5, a6] [.ref s0] lay M P = mG d 224 22 [a0, some (.int x), a2, a3, a4, a5, a6] [.int x, .ref s0] lay M P := e_iload_n (i := 1) rfl rfl rfl
set_option maxRecDepth 20000 in
theorem g224_22 {d : Nat} {a0 a1 a2 a3 a4 a5 a6 : Option Value} {s0 : Int32} {s1 : Nat} {lay : List mShp} {M : mMem} {P : mPost} (hs : mSh lay s1 = some (0, 6)) : mG (d) 224 22 [a0, a1, a2, a3, a4, a5, a6] [.int s0, .ref s1] lay M P = (mIdx s0 6 = true ∧ mG d 224 23 [a0, a1, a2, a3, a4, a5, a6] [.int (M.1 s1 s0.toNatClampNeg)] lay M P) := e_iaload rfl hs
set_option maxRecDepth 20000 in
theorem g224_23 {d : Nat} {a0 a1 a2 a3 a4 a5 a6 : Option Value} {s0 : Int32} {lay : List mShp} {M : mMem} {P : mPost} (h0 : mNoL a5 = true) : mG (d) 224 23 [a0, a1, a2, a3, a4, a5, a6] [.int s0] lay M P = mG d 224 25 [a0, a1, a2, a3, a4, a5, some (.int s0)] [] lay M P := e_istore (i := 6) rfl (by simp) (mS1_6 h0)
set_option maxRecDepth 20000 in
theorem g224_25 {d : Nat} {a1 a2 a3 a4 a5 a6 : Option Value} {x : Nat} {lay : List mShp} {M : mMem} {P : mPost} (hx : ¬ x = 0) : mG (d) 224 25 [some (.ref x), a1, a2, a3, a4, a5, a6] [] lay M P = mG d 224 26 [some (.ref x), a1, a2, a3, a4, a5, a6] [.ref x] lay M P := e_aload_nP hx (i := 0) rfl rfl rfl
set_option maxRecDepth 20000 in
theorem g224_26 {d : Nat} {a0 a1 a2 a3 a4 a5 a6 : Option Value} {s0 : Nat} {lay : List mShp} {M : mMem} {P : mPost} (hs : mSh lay s0 = some (13, 44)) : mG (d) 224 26 [a0, a1, a2, a3, a4, a5, a6] [.ref s0] lay M P = mG d 224 29 [a0, a1, a2, a3, a4, a5, a6] [.ref (M.2.2 s0 30)] lay M P := mG_of_and (mIsO_of hs (by decide)) (e_getA (ci := 10) (j := 30) rfl rfl rfl)
set_option maxRecDepth 20000 in
theorem g224_29 {d : Nat} {a0 a1 a2 a3 a4 a5 a6 : Option Value} {s0 : Nat} {lay : List mShp} {M : mMem} {P : mPost} : mG (d) 224 29 [a0, a1, a2, a3, a4, a5, a6] [.ref s0] lay M P = mG d 224 31 [a0, a1, a2, a3, a4, a5, a6] [.int (Int32.ofInt 60), .ref s0] lay M P := e_bipush rfl
set_option maxRecDepth 20000 in
theorem g224_31 {d : Nat} {a0 a2 a3 a4 a5 a6 : Option Value} {s0 : Int32} {s1 : Nat} {x : Int32} {lay : List mShp} {M : mMem} {P : mPost} : mG (d) 224 31 [a0, some (.int x), a2, a3, a4, a5, a6] [.int s0, .ref s1] lay M P = mG d 224 32 [a0, some (.int x), a2, a3, a4, a5, a6] [.int x, .int s0, .ref s1] lay M P := e_iload_n (i := 1) rfl rfl rfl
set_option maxRecDepth 20000 in
theorem g224_32 {d : Nat} {a0 a1 a2 a3 a4 a5 a6 : Option Value} {s0 : Int32} {s1 : Int32} {s2 : Nat} {lay : List mShp} {M : mMem} {P : mPost} : mG (d) 224 32 [a0, a1, a2, a3, a4, a5, a6] [.int s0, .int s1, .ref s2] lay M P = mG d 224 33 [a0, a1, a2, a3, a4, a5, a6] [.int (s1 * s0), .ref s2] lay M P := e_imul rfl
set_option maxRecDepth 20000 in
theorem g224_33 {d : Nat} {a0 a1 a3 a4 a5 a6 : Option Value} {s0 : Int32} {s1 : Nat} {x : Int32} {lay : List mShp} {M : mMem} {P : mPost} : mG (d) 224 33 [a0, a1, some (.int x), a3, a4, a5, a6] [.int s0, .ref s1] lay M P = mG d 224 34 [a0, a1, some (.int x), a3, a4, a5, a6] [.int x, .int s0, .ref s1] lay M P := e_iload_n (i := 2) rfl rfl rfl
set_option maxRecDepth 20000 in
theorem g224_34 {d : Nat} {a0 a1 a2 a3 a4 a5 a6 : Option Value} {s0 : Int32} {s1 : Int32} {s2 : Nat} {lay : List mShp} {M : mMem} {P : mPost} : mG (d) 224 34 [a0, a1, a2, a3, a4, a5, a6] [.int s0, .int s1, .ref s2] lay M P = mG d 224 35 [a0, a1, a2, a3, a4, a5, a6] [.int (s1 + s0), .ref s2] lay M P := e_iadd rfl
set_option maxRecDepth 20000 in
theorem g224_35 {d : Nat} {a0 a1 a2 a3 a4 a5 : Option Value} {s0 : Int32} {s1 : Nat} {x : Int32} {lay : List mShp} {M : mMem} {P : mPost} : mG (d) 224 35 [a0, a1, a2, a3, a4, a5, some (.int x)] [.int s0, .ref s1] lay M P = mG d 224 37 [a0, a1, a2, a3, a4, a5, some (.int x)] [.int x, .int s0, .ref s1] lay M P := e_iload (i := 6) rfl rfl
set_option maxRecDepth 20000 in
theorem g224_37 {d : Nat} {a0 a1 a2 a3 a4 a5 a6 : Option Value} {s0 : Int32} {s1 : Int32} {s2 : Nat} {lay : List mShp} {M : mMem} {P : mPost} : mG (d) 224 37 [a0, a1, a2, a3, a4, a5, a6] [.int s0, .int s1, .ref s2] lay M P = if s0 = 0 then mG d 224 40 [a0, a1, a2, a3, a4, a5, a6] [.int s1, .ref s2] lay M P else mG d 224 47 [a0, a1, a2, a3, a4, a5, a6] [.int s1, .ref s2] lay M P := e_if_ne rfl rfl
set_option maxRecDepth 20000 in
theorem g224_40 {d : Nat} {a0 a1 a2 a4 a5 a6 : Option Value} {s0 : Int32} {s1 : Nat} {x : Int64} {lay : List mShp} {M : mMem} {P : mPost} : mG (d) 224 40 [a0, a1, a2, some (.long x), a4, a5, a6] [.int s0, .ref s1] lay M P = mG d 224 41 [a0, a1, a2, some (.long x), a4, a5, a6] [.long x, .int s0, .ref s1] lay M P := e_lload_n (i := 3) rfl rfl rfl
set_option maxRecDepth 20000 in
theorem g224_41 {d : Nat} {a0 a1 a2 a3 a4 a5 a6 : Option Value} {s0 : Int64} {s1 : Int32} {s2 : Nat} {lay : List mShp} {M : mMem} {P : mPost} : mG (d) 224 41 [a0, a1, a2, a3, a4, a5, a6] [.long s0, .int s1, .ref s2] lay M P = mG d 224 42 [a0, a1, a2, a3, a4, a5, a6] [.int s0.toInt32, .int s1, .ref s2] lay M P := e_l2i rfl
set_option maxRecDepth 20000 in
theorem g224_42 {d : Nat} {a0 a1 a2 a3 a4 a5 a6 : Option Value} {s0 : Int32} {s1 : Int32} {s2 : Nat} {lay : List mShp} {M : mMem} {P : mPost} : mG (d) 224 42 [a0, a1, a2, a3, a4, a5, a6] [.int s0, .int s1, .ref s2] lay M P = mG d 224 43 [a0, a1, a2, a3, a4, a5, a6] [.int s0.toInt8.toInt32, .int s1, .ref s2] lay M P := e_i2b rfl
set_option maxRecDepth 20000 in
theorem g224_43 {d : Nat} {a0 a1 a2 a3 a4 a5 a6 : Option Value} {s0 : Int32} {s1 : Int32} {s2 : Nat} {lay : List mShp} {M : mMem} {P : mPost} : mG (d) 224 43 [a0, a1, a2, a3, a4, a5, a6] [.int s0, .int s1, .ref s2] lay M P = mG d 224 44 [a0, a1, a2, a3, a4, a5, a6] [.long s0.toInt64, .int s1, .ref s2] lay M P := e_i2l rfl
set_option maxRecDepth 20000 in
theorem g224_44 {d : Nat} {a0 a1 a2 a3 a4 a5 a6 : Option Value} {s0 : Int64} {s1 : Int32} {s2 : Nat} {lay : List mShp} {M : mMem} {P : mPost} : mG (d) 224 44 [a0, a1, a2, a3, a4, a5, a6] [.long s0, .int s1, .ref s2] lay M P = mG d 224 93 [a0, a1, a2, a3, a4, a5, a6] [.long s0, .int s1, .ref s2] lay M P := e_goto rfl rfl
set_option maxRecDepth 20000 in
theorem g224_47 {d : Nat} {a0 a1 a2 a3 a4 a5 : Option Value} {s0 : Int32} {s1 : Nat} {x : Int32} {lay : List mShp} {M : mMem} {P : mPost} : mG (d) 224 47 [a0, a1, a2, a3, a4, a5, some (.int x)] [.int s0, .ref s1] lay M P = mG d 224 49 [a0, a1, a2, a3, a4, a5, some (.int x)] [.int x, .int s0, .ref s1] lay M P := e_iload (i := 6) rfl rfl
set_option maxRecDepth 20000 in
theorem g224_49 {d : Nat} {a0 a1 a2 a3 a4 a5 a6 : Option Value} {s0 : Int32} {s1 : Int32} {s2 : Nat} {lay : List mShp} {M : mMem} {P : mPost} : mG (d) 224 49 [a0, a1, a2, a3, a4, a5, a6] [.int s0, .int s1, .ref s2] lay M P = mG d 224 50 [a0, a1, a2, a3, a4, a5, a6] [.int (Int32.ofInt 1), .int s0, .int s1, .ref s2] lay M P := e_iconst rfl
set_option maxRecDepth 20000 in
theorem g224_50 {d : Nat} {a0 a1 a2 a3 a4 a5 a6 : Option Value} {s0 : Int32} {s1 : Int32} {s2 : Int32} {s3 : Nat} {lay : List mShp} {M : mMem} {P : mPost} : mG (d) 224 50 [a0, a1, a2, a3, a4, a5, a6] [.int s0, .int s1, .int s2, .ref s3] lay M P = if s1 = s0 then mG d 224 53 [a0, a1, a2, a3, a4, a5, a6] [.int s2, .ref s3] lay M P else mG d 224 60 [a0, a1, a2, a3, a4, a5, a6] [.int s2, .ref s3] lay M P := e_icmp_ne rfl rfl
set_option maxRecDepth 20000 in
theorem g224_53 {d : Nat} {a0 a1 a2 a4 a5 a6 : Option Value} {s0 : Int32} {s1 : Nat} {x : Int64} {lay : List mShp} {M : mMem} {P : mPost} : mG (d) 224 53 [a0, a1, a2, some (.long x), a4, a5, a6] [.int s0, .ref s1] lay M P = mG d 224 54 [a0, a1, a2, some (.long x), a4, a5, a6] [.long x, .int s0, .ref s1] lay M P := e_lload_n (i := 3) rfl rfl rfl
set_option maxRecDepth 20000 in
theorem g224_54 {d : Nat} {a0 a1 a2 a3 a4 a5 a6 : Option Value} {s0 : Int64} {s1 : Int32} {s2 : Nat} {lay : List mShp} {M : mMem} {P : mPost} : mG (d) 224 54 [a0, a1, a2, a3, a4, a5, a6] [.long s0, .int s1, .ref s2] lay M P = mG d 224 55 [a0, a1, a2, a3, a4, a5, a6] [.int s0.toInt32, .int s1, .ref s2] lay M P := e_l2i rfl
set_option maxRecDepth 20000 in
theorem g224_55 {d : Nat} {a0 a1 a2 a3 a4 a5 a6 : Option Value} {s0 : Int32} {s1 : Int32} {s2 : Nat} {lay : List mShp} {M : mMem} {P : mPost} : mG (d) 224 55 [a0, a1, a2, a3, a4, a5, a6] [.int s0, .int s1, .ref s2] lay M P = mG d 224 56 [a0, a1, a2, a3, a4, a5, a6] [.int s0.toInt16.toInt32, .int s1, .ref s2] lay M P := e_i2s rfl
set_option maxRecDepth 20000 in
theorem g224_56 {d : Nat} {a0 a1 a2 a3 a4 a5 a6 : Option Value} {s0 : Int32} {s1 : Int32} {s2 : Nat} {lay : List mShp} {M : mMem} {P : mPost} : mG (d) 224 56 [a0, a1, a2, a3, a4, a5, a6] [.int s0, .int s1, .ref s2] lay M P = mG d 224 57 [a0, a1, a2, a3, a4, a5, a6] [.long s0.toInt64, .int s1, .ref s2] lay M P := e_i2l rfl
set_option maxRecDepth 20000 in
theorem g224_57 {d : Nat} {a0 a1 a2 a3 a4 a5 a6 : Option Value} {s0 : Int64} {s1 : Int32} {s2 : Nat} {lay : List mShp} {M : mMem} {P : mPost} : mG (d) 224 57 [a0, a1, a2, a3, a4, a5, a6] [.long s0, .int s1, .ref s2] lay M P = mG d 224 93 [a0, a1, a2, a3, a4, a5, a6] [.long s0, .int s1, .ref s2] lay M P := e_goto rfl rfl
set_option maxRecDepth 20000 in
theorem g224_60 {d : Nat} {a0 a1 a2 a3 a4 a5 : Option Value} {s0 : Int32} {s1 : Nat} {x : Int32} {lay : List mShp} {M : mMem} {P : mPost} : mG (d) 224 60 [a0, a1, a2, a3, a4, a5, some (.int x)] [.int s0, .ref s1] lay M P = mG d 224 62 [a0, a1, a2, a3, a4, a5, some (.int x)] [.int x, .int s0, .ref s1] lay M P := e_iload (i := 6) rfl rfl
set_option maxRecDepth 20000 in
theorem g224_62 {d : Nat} {a0 a1 a2 a3 a4 a5 a6 : Option Value} {s0 : Int32} {s1 : Int32} {s2 : Nat} {lay : List mShp} {M : mMem} {P : mPost} : mG (d) 224 62 [a0, a1, a2, a3, a4, a5, a6] [.int s0, .int s1, .ref s2] lay M P = mG d 224 63 [a0, a1, a2, a3, a4, a5, a6] [.int (Int32.ofInt 2), .int s0, .int s1, .ref s2] lay M P := e_iconst rfl
set_option maxRecDepth 20000 in
theorem g224_63 {d : Nat} {a0 a1 a2 a3 a4 a5 a6 : Option Value} {s0 : Int32} {s1 : Int32} {s2 : Int32} {s3 : Nat} {lay : List mShp} {M : mMem} {P : mPost} : mG (d) 224 63 [a0, a1, a2, a3, a4, a5, a6] [.int s0, .int s1, .int s2, .ref s3] lay M P = if s1 = s0 then mG d 224 66 [a0, a1, a2, a3, a4, a5, a6] [.int s2, .ref s3] lay M P else mG d 224 72 [a0, a1, a2, a3, a4, a5, a6] [.int s2, .ref s3] lay M P := e_icmp_ne rfl rfl
set_option maxRecDepth 20000 in
theorem g224_66 {d : Nat} {a0 a1 a2 a4 a5 a6 : Option Value} {s0 : Int32} {s1 : Nat} {x : Int64} {lay : List mShp} {M : mMem} {P : mPost} : mG (d) 224 66 [a0, a1, a2, some (.long x), a4, a5, a6] [.int s0, .ref s1] lay M P = mG d 224 67 [a0, a1, a2, some (.long x), a4, a5, a6] [.long x, .int s0, .ref s1] lay M P := e_lload_n (i := 3) rfl rfl rfl
set_option maxRecDepth 20000 in
theorem g224_67 {d : Nat} {a0 a1 a2 a3 a4 a5 a6 : Option Value} {s0 : Int64} {s1 : Int32} {s2 : Nat} {lay : List mShp} {M : mMem} {P : mPost} : mG (d) 224 67 [a0, a1, a2, a3, a4, a5, a6] [.long s0, .int s1, .ref s2] lay M P = mG d 224 68 [a0, a1, a2, a3, a4, a5, a6] [.int s0.toInt32, .int s1, .ref s2] lay M P := e_l2i rfl
set_option maxRecDepth 20000 in
theorem g224_68 {d : Nat} {a0 a1 a2 a3 a4 a5 a6 : Option Value} {s0 : Int32} {s1 : Int32} {s2 : Nat} {lay : List mShp} {M : mMem} {P : mPost} : mG (d) 224 68 [a0, a1, a2, a3, a4, a5, a6] [.int s0, .int s1, .ref s2] lay M P = mG d 224 69 [a0, a1, a2, a3, a4, a5, a6] [.long s0.toInt64, .int s1, .ref s2] lay M P := e_i2l rfl
set_option maxRecDepth 20000 in
theorem g224_69 {d : Nat} {a0 a1 a2 a3 a4 a5 a6 : Option Value} {s0 : Int64} {s1 : Int32} {s2 : Nat} {lay : List mShp} {M : mMem} {P : mPost} : mG (d) 224 69 [a0, a1, a2, a3, a4, a5, a6] [.long s0, .int s1, .ref s2] lay M P = mG d 224 93 [a0, a1, a2, a3, a4, a5, a6] [.long s0, .int s1, .ref s2] lay M P := e_goto rfl rfl
set_option maxRecDepth 20000 in
theorem g224_72 {d : Nat} {a0 a1 a2 a3 a4 a5 : Option Value} {s0 : Int32} {s1 : Nat} {x : Int32} {lay : List mShp} {M : mMem} {P : mPost} : mG (d) 224 72 [a0, a1, a2, a3, a4, a5, some (.int x)] [.int s0, .ref s1] lay M P = mG d 224 74 [a0, a1, a2, a3, a4, a5, some (.int x)] [.int x, .int s0, .ref s1] lay M P := e_iload (i := 6) rfl rfl
set_option maxRecDepth 20000 in
theorem g224_74 {d : Nat} {a0 a1 a2 a3 a4 a5 a6 : Option Value} {s0 : Int32} {s1 : Int32} {s2 : Nat} {lay : List mShp} {M : mMem} {P : mPost} : mG (d) 224 74 [a0, a1, a2, a3, a4, a5, a6] [.int s0, .int s1, .ref s2] lay M P = mG d 224 75 [a0, a1, a2, a3, a4, a5, a6] [.int (Int32.ofInt 3), .int s0, .int s1, .ref s2] lay M P := e_iconst rfl
set_option maxRecDepth 20000 in
theorem g224_75 {d : Nat} {a0 a1 a2 a3 a4 a5 a6 : Option Value} {s0 : Int32} {s1 : Int32} {s2 : Int32} {s3 : Nat} {lay : List mShp} {M : mMem} {P : mPost} : mG (d) 224 75 [a0, a1, a2, a3, a4, a5, a6] [.int s0, .int s1, .int s2, .ref s3] lay M P = if s1 = s0 then mG d 224 78 [a0, a1, a2, a3, a4, a5, a6] [.int s2, .ref s3] lay M P else mG d 224 82 [a0, a1, a2, a3, a4, a5, a6] [.int s2, .ref s3] lay M P := e_icmp_ne rfl rfl
set_option maxRecDepth 20000 in
theorem g224_78 {d : Nat} {a0 a1 a2 a4 a5 a6 : Option Value} {s0 : Int32} {s1 : Nat} {x : Int64} {lay : List mShp} {M : mMem} {P : mPost} : mG (d) 224 78 [a0, a1, a2, some (.long x), a4, a5, a6] [.int s0, .ref s1] lay M P = mG d 224 79 [a0, a1, a2, some (.long x), a4, a5, a6] [.long x, .int s0, .ref s1] lay M P := e_lload_n (i := 3) rfl rfl rfl
set_option maxRecDepth 20000 in
theorem g224_79 {d : Nat} {a0 a1 a2 a3 a4 a5 a6 : Option Value} {s0 : Int64} {s1 : Int32} {s2 : Nat} {lay : List mShp} {M : mMem} {P : mPost} : mG (d) 224 79 [a0, a1, a2, a3, a4, a5, a6] [.long s0, .int s1, .ref s2] lay M P = mG d 224 93 [a0, a1, a2, a3, a4, a5, a6] [.long s0, .int s1, .ref s2] lay M P := e_goto rfl rfl
set_option maxRecDepth 20000 in
theorem g224_82 {d : Nat} {a0 a1 a2 a4 a5 a6 : Option Value} {s0 : Int32} {s1 : Nat} {x : Int64} {lay : List mShp} {M : mMem} {P : mPost} : mG (d) 224 82 [a0, a1, a2, some (.long x), a4, a5, a6] [.int s0, .ref s1] lay M P = mG d 224 83 [a0, a1, a2, some (.long x), a4, a5, a6] [.long x, .int s0, .ref s1] lay M P := e_lload_n (i := 3) rfl rfl rfl
set_option maxRecDepth 20000 in
theorem g224_83 {d : Nat} {a0 a1 a2 a3 a4 a5 a6 : Option Value} {s0 : Int64} {s1 : Int32} {s2 : Nat} {lay : List mShp} {M : mMem} {P : mPost} : mG (d) 224 83 [a0, a1, a2, a3, a4, a5, a6] [.long s0, .int s1, .ref s2] lay M P = mG d 224 84 [a0, a1, a2, a3, a4, a5, a6] [.long (Int64.ofNat 0), .long s0, .int s1, .ref s2] lay M P := e_lconst (n := 0) rfl
set_option maxRecDepth 20000 in
theorem g224_84 {d : Nat} {a0 a1 a2 a3 a4 a5 a6 : Option Value} {s0 : Int64} {s1 : Int64} {s2 : Int32} {s3 : Nat} {lay : List mShp} {M : mMem} {P : mPost} : mG (d) 224 84 [a0, a1, a2, a3, a4, a5, a6] [.long s0, .long s1, .int s2, .ref s3] lay M P = mG d 224 85 [a0, a1, a2, a3, a4, a5, a6] [.int (lg_cmp s1 s0), .int s2, .ref s3] lay M P := e_lcmp rfl
set_option maxRecDepth 20000 in
theorem g224_85 {d : Nat} {a0 a1 a2 a3 a4 a5 a6 : Option Value} {s0 : Int32} {s1 : Int32} {s2 : Nat} {lay : List mShp} {M : mMem} {P : mPost} : mG (d) 224 85 [a0, a1, a2, a3, a4, a5, a6] [.int s0, .int s1, .ref s2] lay M P = if s0 = 0 then mG d 224 92 [a0, a1, a2, a3, a4, a5, a6] [.int s1, .ref s2] lay M P else mG d 224 88 [a0, a1, a2, a3, a4, a5, a6] [.int s1, .ref s2] lay M P := e_if_eq rfl rfl
set_option maxRecDepth 20000 in
theorem g224_88 {d : Nat} {a0 a1 a2 a3 a4 a5 a6 : Option Value} {s0 : Int32} {s1 : Nat} {lay : List mShp} {M : mMem} {P : mPost} : mG (d) 224 88 [a0, a1, a2, a3, a4, a5, a6] [.int s0, .ref s1] lay M P = mG d 224 89 [a0, a1, a2, a3, a4, a5, a6] [.long (Int64.ofNat 1), .int s0, .ref s1] lay M P := e_lconst (n := 1) rfl
set_option maxRecDepth 20000 in
theorem g224_89 {d : Nat} {a0 a1 a2 a3 a4 a5 a6 : Option Value} {s0 : Int64} {s1 : Int32} {s2 : Nat} {lay : List mShp} {M : mMem} {P : mPost} : mG (d) 224 89 [a0, a1, a2, a3, a4, a5, a6] [.long s0, .int s1, .ref s2] lay M P = mG d 224 93 [a0, a1, a2, a3, a4, a5, a6] [.long s0, .int s1, .ref s2] lay M P := e_goto rfl rfl
set_option maxRecDepth 20000 in
theorem g224_92 {d : Nat} {a0 a1 a2 a3 a4 a5 a6 : Option Value} {s0 : Int32} {s1 : Nat} {lay : List mShp} {M : mMem} {P : mPost} : mG (d) 224 92 [a0, a1, a2, a3, a4, a5, a6] [.int s0, .ref s1] lay M P = mG d 224 93 [a0, a1, a2, a3, a4, a5, a6] [.long (Int64.ofNat 0), .int s0, .ref s1] lay M P := e_lconst (n := 0) rfl
set_option maxRecDepth 20000 in
theorem g224_93 {d : Nat} {a0 a1 a2 a3 a4 a5 a6 : Option Value} {s0 : Int64} {s1 : Int32} {s2 : Nat} {lay : List mShp} {M : mMem} {P : mPost} (hs : mSh lay s2 = some (1, 360)) : mG (d) 224 93 [a0, a1, a2, a3, a4, a5, a6] [.long s0, .int s1, .ref s2] lay M P = (mIdx s1 360 = true ∧ mG d 224 94 [a0, a1, a2, a3, a4, a5, a6] [] lay (mSetL M s2 s1.toNatClampNeg s0) P) := e_lastore rfl hs
set_option maxRecDepth 20000 in
theorem g224_94 {d : Nat} {a0 a1 a2 a3 a4 a5 a6 : Option Value} {lay : List mShp} {M : mMem} {P : mPost} : mG (d) 224 94 [a0, a1, a2, a3, a4, a5, a6] [] lay M P = mG d 224 95 [a0, a1, a2, a3, a4, a5, a6] [.int (Int32.ofInt 1)] lay M P := e_iconst rfl
set_option maxRecDepth 20000 in
theorem g224_95 {d : Nat} {a0 a1 a2 a3 a4 a5 a6 : Option Value} {s0 : Int32} {lay : List mShp} {M : mMem} {P : mPost} : mG (d) 224 95 [a0, a1, a2, a3, a4, a5, a6] [.int s0] lay M P = P (some (.int s0)) lay M := e_ireturnI rfl rfl
-- 225 X10_element
theorem g225_in {d : Nat} {x0 : Nat} {x1 : Int32} {x2 : Int32} {lay : List mShp} {M : mMem} {P : mPost} : mF d 225 [.ref x0, .int x1, .int x2] lay M P = mG d 225 0 [some (.ref x0), some (.int x1), some (.int x2)] [] lay M P := mF_in rfl rfl
set_option maxRecDepth 20000 in
theorem g225_0 {d : Nat} {a1 a2 : Option Value} {x : Nat} {lay : List mShp} {M : mMem} {P : mPost} (hx : ¬ x = 0) : mG (d) 225 0 [some (.ref x), a1, a2] [] lay M P = mG d 225 1 [some (.ref x), a1, a2] [.ref x] lay M P := e_aload_nP hx (i := 0) rfl rfl rfl
set_option maxRecDepth 20000 in
theorem g225_1 {d : Nat} {a0 a2 : Option Value} {s0 : Nat} {x : Int32} {lay : List mShp} {M : mMem} {P : mPost} : mG (d) 225 1 [a0, some (.int x), a2] [.ref s0] lay M P = mG d 225 2 [a0, some (.int x), a2] [.int x, .ref s0] lay M P := e_iload_n (i := 1) rfl rfl rfl
set_option maxRecDepth 20000 in
theorem g225_2 {d : Nat} {a0 a1 : Option Value} {s0 : Int32} {s1 : Nat} {x : Int32} {lay : List mShp} {M : mMem} {P : mPost} : mG (d) 225 2 [a0, a1, some (.int x)] [.int s0, .ref s1] lay M P = mG d 225 3 [a0, a1, some (.int x)] [.int x, .int s0, .ref s1] lay M P := e_iload_n (i := 2) rfl rfl rfl
set_option maxRecDepth 20000 in
theorem g225_3 {d : Nat} {a0 a1 a2 : Option Value} {s0 : Int32} {s1 : Int32} {s2 : Nat} {lay : List mShp} {M : mMem} {P : mPost} (hs : mSh lay s2 = some (13, 44)) : mG (d + 1) 225 3 [a0, a1, a2] [.int s0, .int s1, .ref s2] lay M P = mF d 223 [.ref s2, .int s1, .int s0] lay M (fun v lay1 M1 => mG (d + 1) 225 6 [a0, a1, a2] (v.toList ++ []) lay1 M1 P) := e_virtP2 (j := 223) (c := 10) rfl rfl rfl rfl rfl rfl hs (Nat.le_of_ble_eq_true rfl)
set_option maxRecDepth 20000 in
theorem g225_6 {d : Nat} {a0 a1 a2 : Option Value} {s0 : Int32} {lay : List mShp} {M : mMem} {P : mPost} : mG (d) 225 6 [a0, a1, a2] [.int s0] lay M P = mG d 225 7 [a0, a1, a2] [.int (Int32.ofInt 1), .int s0] lay M P := e_iconst rfl
set_option maxRecDepth 20000 in
theorem g225_7 {d : Nat} {a0 a1 a2 : Option Value} {s0 : Int32} {s1 : Int32} {lay : List mShp} {M : mMem} {P : mPost} : mG (d) 225 7 [a0, a1, a2] [.int s0, .int s1] lay M P = if s1 = s0 then mG d 225 10 [a0, a1, a2] [] lay M P else mG d 225 24 [a0, a1, a2] [] lay M P := e_icmp_ne rfl rfl
set_option maxRecDepth 20000 in
theorem g225_10 {d : Nat} {a1 a2 : Option Value} {x : Nat} {lay : List mShp} {M : mMem} {P : mPost} (hx : ¬ x = 0) : mG (d) 225 10 [some (.ref x), a1, a2] [] lay M P = mG d 225 11 [some (.ref x), a1, a2] [.ref x] lay M P := e_aload_nP hx (i := 0) rfl rfl rfl
set_option maxRecDepth 20000 in
theorem g225_11 {d : Nat} {a0 a1 a2 : Option Value} {s0 : Nat} {lay : List mShp} {M : mMem} {P : mPost} (hs : mSh lay s0 = some (13, 44)) : mG (d) 225 11 [a0, a1, a2] [.ref s0] lay M P = mG d 225 14 [a0, a1, a2] [.ref (M.2.2 s0 30)] lay M P := mG_of_and (mIsO_of hs (by decide)) (e_getA (ci := 10) (j := 30) rfl rfl rfl)
set_option maxRecDepth 20000 in
theorem g225_14 {d : Nat} {a0 a1 a2 : Option Value} {s0 : Nat} {lay : List mShp} {M : mMem} {P : mPost} : mG (d) 225 14 [a0, a1, a2] [.ref s0] lay M P = mG d 225 16 [a0, a1, a2] [.int (Int32.ofInt 60), .ref s0] lay M P := e_bipush rfl
set_option maxRecDepth 20000 in
theorem g225_16 {d : Nat} {a0 a2 : Option Value} {s0 : Int32} {s1 : Nat} {x : Int32} {lay : List mShp} {M : mMem} {P : mPost} : mG (d) 225 16 [a0, some (.int x), a2] [.int s0, .ref s1] lay M P = mG d 225 17 [a0, some (.int x), a2] [.int x, .int s0, .ref s1] lay M P := e_iload_n (i := 1) rfl rfl rfl
set_option maxRecDepth 20000 in
theorem g225_17 {d : Nat} {a0 a1 a2 : Option Value} {s0 : Int32} {s1 : Int32} {s2 : Nat} {lay : List mShp} {M : mMem} {P : mPost} : mG (d) 225 17 [a0, a1, a2] [.int s0, .int s1, .ref s2] lay M P = mG d 225 18 [a0, a1, a2] [.int (s1 * s0), .ref s2] lay M P := e_imul rfl
set_option maxRecDepth 20000 in
theorem g225_18 {d : Nat} {a0 a1 : Option Value} {s0 : Int32} {s1 : Nat} {x : Int32} {lay : List mShp} {M : mMem} {P : mPost} : mG (d) 225 18 [a0, a1, some (.int x)] [.int s0, .ref s1] lay M P = mG d 225 19 [a0, a1, some (.int x)] [.int x, .int s0, .ref s1] lay M P := e_iload_n (i := 2) rfl rfl rfl
set_option maxRecDepth 20000 in
theorem g225_19 {d : Nat} {a0 a1 a2 : Option Value} {s0 : Int32} {s1 : Int32} {s2 : Nat} {lay : List mShp} {M : mMem} {P : mPost} : mG (d) 225 19 [a0, a1, a2] [.int s0, .int s1, .ref s2] lay M P = mG d 225 20 [a0, a1, a2] [.int (s1 + s0), .ref s2] lay M P := e_iadd rfl
set_option maxRecDepth 20000 in
theorem g225_20 {d : Nat} {a0 a1 a2 : Option Value} {s0 : Int32} {s1 : Nat} {lay : List mShp} {M : mMem} {P : mPost} (hs : mSh lay s1 = some (1, 360)) : mG (d) 225 20 [a0, a1, a2] [.int s0, .ref s1] lay M P = (mIdx s0 360 = true ∧ mG d 225 21 [a0, a1, a2] [.long (M.2.1 s1 s0.toNatClampNeg)] lay M P) := e_laload rfl hs
set_option maxRecDepth 20000 in
theorem g225_21 {d : Nat} {a0 a1 a2 : Option Value} {s0 : Int64} {lay : List mShp} {M : mMem} {P : mPost} : mG (d) 225 21 [a0, a1, a2] [.long s0] lay M P = mG d 225 27 [a0, a1, a2] [.long s0] lay M P := e_goto rfl rfl
set_option maxRecDepth 20000 in
theorem g225_24 {d : Nat} {a0 a1 a2 : Option Value} {lay : List mShp} {M : mMem} {P : mPost} : mG (d) 225 24 [a0, a1, a2] [] lay M P = mG d 225 27 [a0, a1, a2] [.long (Int64.ofInt (-9223372036854775808))] lay M P := e_ldc2_w rfl rfl
set_option maxRecDepth 20000 in
theorem g225_27 {d : Nat} {a0 a1 a2 : Option Value} {s0 : Int64} {lay : List mShp} {M : mMem} {P : mPost} : mG (d) 225 27 [a0, a1, a2] [.long s0] lay M P = P (some (.long s0)) lay M := e_lreturn rfl rfl
-- 226 X10_shift
theorem g226_in {d : Nat} {x0 : Nat} {x1 : Int32} {x2 : Int32} {x3 : Int32} {x4 : Int32} {x5 : Int32} {lay : List mShp} {M : mMem} {P : mPost} : mF d 226 [.ref x0, .int x1, .int x2, .int x3, .int x4, .int x5] lay M P = mG d 226 0 [some (.ref x0), some (.int x1), some (.int x2), some (.int x3), some (.int x4), some (.int x5), none] [] lay M P := mF_in rfl rfl
set_option maxRecDepth 20000 in
theorem g226_0 {d : Nat} {a0 a2 a3 a4 a5 a6 : Option Value} {x : Int32} {lay : List mShp} {M : mMem} {P : mPost} : mG (d) 226 0 [a0, some (.int x), a2, a3, a4, a5, a6] [] lay M P = mG d 226 1 [a0, some (.int x), a2, a3, a4, a5, a6] [.int x] lay M P := e_iload_n (i := 1) rfl rfl rfl
set_option maxRecDepth 20000 in
theorem g226_1 {d : Nat} {a0 a1 a2 a3 a4 a5 a6 : Option Value} {s0 : Int32} {lay : List mShp} {M : mMem} {P : mPost} : mG (d + 1) 226 1 [a0, a1, a2, a3, a4, a5, a6] [.int s0] lay M P = mF d 197 [.int s0] lay M (fun v lay1 M1 => mG (d + 1) 226 4 [a0, a1, a2, a3, a4, a5, a6] (v.toList ++ []) lay1 M1 P) := e_static1 (j := 197) rfl rfl rfl rfl rfl (Nat.le_of_ble_eq_true rfl)
set_option maxRecDepth 20000 in
theorem g226_4 {d : Nat} {a0 a1 a2 a3 a4 a5 a6 : Option Value} {s0 : Int32} {lay : List mShp} {M : mMem} {P : mPost} : mG (d) 226 4 [a0, a1, a2, a3, a4, a5, a6] [.int s0] lay M P = if s0 = 0 then mG d 226 14 [a0, a1, a2, a3, a4, a5, a6] [] lay M P else mG d 226 7 [a0, a1, a2, a3, a4, a5, a6] [] lay M P := e_if_eq rfl rfl
set_option maxRecDepth 20000 in
theorem g226_7 {d : Nat} {a0 a1 a2 a4 a5 a6 : Option Value} {x : Int32} {lay : List mShp} {M : mMem} {P : mPost} : mG (d) 226 7 [a0, a1, a2, some (.int x), a4, a5, a6] [] lay M P = mG d 226 8 [a0, a1, a2, some (.int x), a4, a5, a6] [.int x] lay M P := e_iload_n (i := 3) rfl rfl rfl
set_option maxRecDepth 20000 in
theorem g226_8 {d : Nat} {a0 a1 a2 a3 a4 a5 a6 : Option Value} {s0 : Int32} {lay : List mShp} {M : mMem} {P : mPost} : mG (d + 1) 226 8 [a0, a1, a2, a3, a4, a5, a6] [.int s0] lay M P = mF d 197 [.int s0] lay M (fun v lay1 M1 => mG (d + 1) 226 11 [a0, a1, a2, a3, a4, a5, a6] (v.toList ++ []) lay1 M1 P) := e_static1 (j := 197) rfl rfl rfl rfl rfl (Nat.le_of_ble_eq_true rfl)
set_option maxRecDepth 20000 in
theorem g226_11 {d : Nat} {a0 a1 a2 a3 a4 a5 a6 : Option Value} {s0 : Int32} {lay : List mShp} {M : mMem} {P : mPost} : mG (d) 226 11 [a0, a1, a2, a3, a4, a5, a6] [.int s0] lay M P = if s0 = 0 then mG d 226 14 [a0, a1, a2, a3, a4, a5, a6] [] lay M P else mG d 226 16 [a0, a1, a2, a3, a4, a5, a6] [] lay M P := e_if_ne rfl rfl
set_option maxRecDepth 20000 in
theorem g226_14 {d : Nat} {a0 a1 a2 a3 a4 a5 a6 : Option Value} {lay : List mShp} {M : mMem} {P : mPost} : mG (d) 226 14 [a0, a1, a2, a3, a4, a5, a6] [] lay M P = mG d 226 15 [a0, a1, a2, a3, a4, a5, a6] [.int (Int32.ofInt (-1))] lay M P := e_iconst rfl
set_option maxRecDepth 20000 in
theorem g226_15 {d : Nat} {a0 a1 a2 a3 a4 a5 a6 : Option Value} {s0 : Int32} {lay : List mShp} {M : mMem} {P : mPost} : mG (d) 226 15 [a0, a1, a2, a3, a4, a5, a6] [.int s0] lay M P = P (some (.int s0)) lay M := e_ireturnI rfl rfl
set_option maxRecDepth 20000 in
theorem g226_16 {d : Nat} {a1 a2 a3 a4 a5 a6 : Option Value} {x : Nat} {lay : List mShp} {M : mMem} {P : mPost} (hx : ¬ x = 0) : mG (d) 226 16 [some (.ref x), a1, a2, a3, a4, a5, a6] [] lay M P = mG d 226 17 [some (.ref x), a1, a2, a3, a4, a5, a6] [.ref x] lay M P := e_aload_nP hx (i := 0) rfl rfl rfl
set_option maxRecDepth 20000 in
theorem g226_17 {d : Nat} {a0 a1 a2 a3 a4 a5 a6 : Option Value} {s0 : Nat} {lay : List mShp} {M : mMem} {P : mPost} (hs : mSh lay s0 = some (13, 44)) : mG (d) 226 17 [a0, a1, a2, a3, a4, a5, a6] [.ref s0] lay M P = mG d 226 20 [a0, a1, a2, a3, a4, a5, a6] [.ref (M.2.2 s0 28)] lay M P := mG_of_and (mIsO_of hs (by decide)) (e_getA (ci := 10) (j := 28) rfl rfl rfl)
set_option maxRecDepth 20000 in
theorem g226_20 {d : Nat} {a0 a2 a3 a4 a5 a6 : Option Value} {s0 : Nat} {x : Int32} {lay : List mShp} {M : mMem} {P : mPost} : mG (d) 226 20 [a0, some (.int x), a2, a3, a4, a5, a6] [.ref s0] lay M P = mG d 226 21 [a0, some (.int x), a2, a3, a4, a5, a6] [.int x, .ref s0] lay M P := e_iload_n (i := 1) rfl rfl rfl
set_option maxRecDepth 20000 in
theorem g226_21 {d : Nat} {a0 a1 a2 a3 a4 a5 a6 : Option Value} {s0 : Int32} {s1 : Nat} {lay : List mShp} {M : mMem} {P : mPost} (hs : mSh lay s1 = some (0, 6)) : mG (d) 226 21 [a0, a1, a2, a3, a4, a5, a6] [.int s0, .ref s1] lay M P = (mIdx s0 6 = true ∧ mG d 226 22 [a0, a1, a2, a3, a4, a5, a6] [.int (M.1 s1 s0.toNatClampNeg)] lay M P) := e_iaload rfl hs
set_option maxRecDepth 20000 in
theorem g226_22 {d : Nat} {a0 a1 a2 a3 a4 a5 a6 : Option Value} {s0 : Int32} {lay : List mShp} {M : mMem} {P : mPost} : mG (d) 226 22 [a0, a1, a2, a3, a4, a5, a6] [.int s0] lay M P = mG d 226 23 [a0, a1, a2, a3, a4, a5, a6] [.int (Int32.ofInt (-1)), .int s0] lay M P := e_iconst rfl
set_option maxRecDepth 20000 in
theorem g226_23 {d : Nat} {a0 a1 a2 a3 a4 a5 a6 : Option Value} {s0 : Int32} {s1 : Int32} {lay : List mShp} {M : mMem} {P : mPost} : mG (d) 226 23 [a0, a1, a2, a3, a4, a5, a6] [.int s0, .int s1] lay M P = if s1 = s0 then mG d 226 36 [a0, a1, a2, a3, a4, a5, a6] [] lay M P else mG d 226 26 [a0, a1, a2, a3, a4, a5, a6] [] lay M P := e_icmp_eq rfl rfl
set_option maxRecDepth 20000 in
theorem g226_26 {d : Nat} {a1 a2 a3 a4 a5 a6 : Option Value} {x : Nat} {lay : List mShp} {M : mMem} {P : mPost} (hx : ¬ x = 0) : mG (d) 226 26 [some (.ref x), a1, a2, a3, a4, a5, a6] [] lay M P = mG d 226 27 [some (.ref x), a1, a2, a3, a4, a5, a6] [.ref x] lay M P := e_aload_nP hx (i := 0) rfl rfl rfl
set_option maxRecDepth 20000 in
theorem g226_27 {d : Nat} {a0 a1 a2 a3 a4 a5 a6 : Option Value} {s0 : Nat} {lay : List mShp} {M : mMem} {P : mPost} (hs : mSh lay s0 = some (13, 44)) : mG (d) 226 27 [a0, a1, a2, a3, a4, a5, a6] [.ref s0] lay M P = mG d 226 30 [a0, a1, a2, a3, a4, a5, a6] [.ref (M.2.2 s0 28)] lay M P := mG_of_and (mIsO_of hs (by decide)) (e_getA (ci := 10) (j := 28) rfl rfl rfl)
set_option maxRecDepth 20000 in
theorem g226_30 {d : Nat} {a0 a1 a2 a4 a5 a6 : Option Value} {s0 : Nat} {x : Int32} {lay : List mShp} {M : mMem} {P : mPost} : mG (d) 226 30 [a0, a1, a2, some (.int x), a4, a5, a6] [.ref s0] lay M P = mG d 226 31 [a0, a1, a2, some (.int x), a4, a5, a6] [.int x, .ref s0] lay M P := e_iload_n (i := 3) rfl rfl rfl
set_option maxRecDepth 20000 in
theorem g226_31 {d : Nat} {a0 a1 a2 a3 a4 a5 a6 : Option Value} {s0 : Int32} {s1 : Nat} {lay : List mShp} {M : mMem} {P : mPost} (hs : mSh lay s1 = some (0, 6)) : mG (d) 226 31 [a0, a1, a2, a3, a4, a5, a6] [.int s0, .ref s1] lay M P = (mIdx s0 6 = true ∧ mG d 226 32 [a0, a1, a2, a3, a4, a5, a6] [.int (M.1 s1 s0.toNatClampNeg)] lay M P) := e_iaload rfl hs
set_option maxRecDepth 20000 in
theorem g226_32 {d : Nat} {a0 a1 a2 a3 a4 a5 a6 : Option Value} {s0 : Int32} {lay : List mShp} {M : mMem} {P : mPost} : mG (d) 226 32 [a0, a1, a2, a3, a4, a5, a6] [.int s0] lay M P = mG d 226 33 [a0, a1, a2, a3, a4, a5, a6] [.int (Int32.ofInt (-1)), .int s0] lay M P := e_iconst rfl
set_option maxRecDepth 20000 in
theorem g226_33 {d : Nat} {a0 a1 a2 a3 a4 a5 a6 : Option Value} {s0 : Int32} {s1 : Int32} {lay : List mShp} {M : mMem} {P : mPost} : mG (d) 226 33 [a0, a1, a2, a3, a4, a5, a6] [.int s0, .int s1] lay M P = if s1 = s0 then mG d 226 36 [a0, a1, a2, a3, a4, a5, a6] [] lay M P else mG d 226 39 [a0, a1, a2, a3, a4, a5, a6] [] lay M P := e_icmp_ne rfl rfl
set_option maxRecDepth 20000 in
theorem g226_36 {d : Nat} {a0 a1 a2 a3 a4 a5 a6 : Option Value} {lay : List mShp} {M : mMem} {P : mPost} : mG (d) 226 36 [a0, a1, a2, a3, a4, a5, a6] [] lay M P = mG d 226 38 [a0, a1, a2, a3, a4, a5, a6] [.int (Int32.ofInt (-11))] lay M P := e_bipush rfl
set_option maxRecDepth 20000 in
theorem g226_38 {d : Nat} {a0 a1 a2 a3 a4 a5 a6 : Option Value} {s0 : Int32} {lay : List mShp} {M : mMem} {P : mPost} : mG (d) 226 38 [a0, a1, a2, a3, a4, a5, a6] [.int s0] lay M P = P (some (.int s0)) lay M := e_ireturnI rfl rfl
set_option maxRecDepth 20000 in
theorem g226_39 {d : Nat} {a1 a2 a3 a4 a5 a6 : Option Value} {x : Nat} {lay : List mShp} {M : mMem} {P : mPost} (hx : ¬ x = 0) : mG (d) 226 39 [some (.ref x), a1, a2, a3, a4, a5, a6] [] lay M P = mG d 226 40 [some (.ref x), a1, a2, a3, a4, a5, a6] [.ref x] lay M P := e_aload_nP hx (i := 0) rfl rfl rfl
set_option maxRecDepth 20000 in
theorem g226_40 {d : Nat} {a0 a1 a2 a3 a4 a5 a6 : Option Value} {s0 : Nat} {lay : List mShp} {M : mMem} {P : mPost} (hs : mSh lay s0 = some (13, 44)) : mG (d) 226 40 [a0, a1, a2, a3, a4, a5, a6] [.ref s0] lay M P = mG d 226 43 [a0, a1, a2, a3, a4, a5, a6] [.ref (M.2.2 s0 28)] lay M P := mG_of_and (mIsO_of hs (by decide)) (e_getA (ci := 10) (j := 28) rfl rfl rfl)
set_option maxRecDepth 20000 in
theorem g226_43 {d : Nat} {a0 a2 a3 a4 a5 a6 : Option Value} {s0 : Nat} {x : Int32} {lay : List mShp} {M : mMem} {P : mPost} : mG (d) 226 43 [a0, some (.int x), a2, a3, a4, a5, a6] [.ref s0] lay M P = mG d 226 44 [a0, some (.int x), a2, a3, a4, a5, a6] [.int x, .ref s0] lay M P := e_iload_n (i := 1) rfl rfl rfl
set_option maxRecDepth 20000 in
theorem g226_44 {d : Nat} {a0 a1 a2 a3 a4 a5 a6 : Option Value} {s0 : Int32} {s1 : Nat} {lay : List mShp} {M : mMem} {P : mPost} (hs : mSh lay s1 = some (0, 6)) : mG (d) 226 44 [a0, a1, a2, a3, a4, a5, a6] [.int s0, .ref s1] lay M P = (mIdx s0 6 = true ∧ mG d 226 45 [a0, a1, a2, a3, a4, a5, a6] [.int (M.1 s1 s0.toNatClampNeg)] lay M P) := e_iaload rfl hs
set_option maxRecDepth 20000 in
theorem g226_45 {d : Nat} {a0 a1 a2 a3 a4 a5 a6 : Option Value} {s0 : Int32} {lay : List mShp} {M : mMem} {P : mPost} : mG (d) 226 45 [a0, a1, a2, a3, a4, a5, a6] [.int s0] lay M P = mG d 226 46 [a0, a1, a2, a3, a4, a5, a6] [.int (Int32.ofInt 4), .int s0] lay M P := e_iconst rfl
set_option maxRecDepth 20000 in
theorem g226_46 {d : Nat} {a0 a1 a2 a3 a4 a5 a6 : Option Value} {s0 : Int32} {s1 : Int32} {lay : List mShp} {M : mMem} {P : mPost} : mG (d) 226 46 [a0, a1, a2, a3, a4, a5, a6] [.int s0, .int s1] lay M P = if s0 < s1 then mG d 226 64 [a0, a1, a2, a3, a4, a5, a6] [] lay M P else mG d 226 49 [a0, a1, a2, a3, a4, a5, a6] [] lay M P := e_icmp_gt rfl rfl
set_option maxRecDepth 20000 in
theorem g226_49 {d : Nat} {a1 a2 a3 a4 a5 a6 : Option Value} {x : Nat} {lay : List mShp} {M : mMem} {P : mPost} (hx : ¬ x = 0) : mG (d) 226 49 [some (.ref x), a1, a2, a3, a4, a5, a6] [] lay M P = mG d 226 50 [some (.ref x), a1, a2, a3, a4, a5, a6] [.ref x] lay M P := e_aload_nP hx (i := 0) rfl rfl rfl
set_option maxRecDepth 20000 in
theorem g226_50 {d : Nat} {a0 a1 a2 a3 a4 a5 a6 : Option Value} {s0 : Nat} {lay : List mShp} {M : mMem} {P : mPost} (hs : mSh lay s0 = some (13, 44)) : mG (d) 226 50 [a0, a1, a2, a3, a4, a5, a6] [.ref s0] lay M P = mG d 226 53 [a0, a1, a2, a3, a4, a5, a6] [.ref (M.2.2 s0 28)] lay M P := mG_of_and (mIsO_of hs (by decide)) (e_getA (ci := 10) (j := 28) rfl rfl rfl)
set_option maxRecDepth 20000 in
theorem g226_53 {d : Nat} {a0 a2 a3 a4 a5 a6 : Option Value} {s0 : Nat} {x : Int32} {lay : List mShp} {M : mMem} {P : mPost} : mG (d) 226 53 [a0, some (.int x), a2, a3, a4, a5, a6] [.ref s0] lay M P = mG d 226 54 [a0, some (.int x), a2, a3, a4, a5, a6] [.int x, .ref s0] lay M P := e_iload_n (i := 1) rfl rfl rfl
set_option maxRecDepth 20000 in
theorem g226_54 {d : Nat} {a0 a1 a2 a3 a4 a5 a6 : Option Value} {s0 : Int32} {s1 : Nat} {lay : List mShp} {M : mMem} {P : mPost} (hs : mSh lay s1 = some (0, 6)) : mG (d) 226 54 [a0, a1, a2, a3, a4, a5, a6] [.int s0, .ref s1] lay M P = (mIdx s0 6 = true ∧ mG d 226 55 [a0, a1, a2, a3, a4, a5, a6] [.int (M.1 s1 s0.toNatClampNeg)] lay M P) := e_iaload rfl hs
set_option maxRecDepth 20000 in
theorem g226_55 {d : Nat} {a1 a2 a3 a4 a5 a6 : Option Value} {s0 : Int32} {x : Nat} {lay : List mShp} {M : mMem} {P : mPost} (hx : ¬ x = 0) : mG (d) 226 55 [some (.ref x), a1, a2, a3, a4, a5, a6] [.int s0] lay M P = mG d 226 56 [some (.ref x), a1, a2, a3, a4, a5, a6] [.ref x, .int s0] lay M P := e_aload_nP hx (i := 0) rfl rfl rfl
set_option maxRecDepth 20000 in
theorem g226_56 {d : Nat} {a0 a1 a2 a3 a4 a5 a6 : Option Value} {s0 : Nat} {s1 : Int32} {lay : List mShp} {M : mMem} {P : mPost} (hs : mSh lay s0 = some (13, 44)) : mG (d) 226 56 [a0, a1, a2, a3, a4, a5, a6] [.ref s0, .int s1] lay M P = mG d 226 59 [a0, a1, a2, a3, a4, a5, a6] [.ref (M.2.2 s0 28), .int s1] lay M P := mG_of_and (mIsO_of hs (by decide)) (e_getA (ci := 10) (j := 28) rfl rfl rfl)
set_option maxRecDepth 20000 in
theorem g226_59 {d : Nat} {a0 a1 a2 a4 a5 a6 : Option Value} {s0 : Nat} {s1 : Int32} {x : Int32} {lay : List mShp} {M : mMem} {P : mPost} : mG (d) 226 59 [a0, a1, a2, some (.int x), a4, a5, a6] [.ref s0, .int s1] lay M P = mG d 226 60 [a0, a1, a2, some (.int x), a4, a5, a6] [.int x, .ref s0, .int s1] lay M P := e_iload_n (i := 3) rfl rfl rfl
set_option maxRecDepth 20000 in
theorem g226_60 {d : Nat} {a0 a1 a2 a3 a4 a5 a6 : Option Value} {s0 : Int32} {s1 : Nat} {s2 : Int32} {lay : List mShp} {M : mMem} {P : mPost} (hs : mSh lay s1 = some (0, 6)) : mG (d) 226 60 [a0, a1, a2, a3, a4, a5, a6] [.int s0, .ref s1, .int s2] lay M P = (mIdx s0 6 = true ∧ mG d 226 61 [a0, a1, a2, a3, a4, a5, a6] [.int (M.1 s1 s0.toNatClampNeg), .int s2] lay M P) := e_iaload rfl hs
set_option maxRecDepth 20000 in
theorem g226_61 {d : Nat} {a0 a1 a2 a3 a4 a5 a6 : Option Value} {s0 : Int32} {s1 : Int32} {lay : List mShp} {M : mMem} {P : mPost} : mG (d) 226 61 [a0, a1, a2, a3, a4, a5, a6] [.int s0, .int s1] lay M P = if s1 = s0 then mG d 226 67 [a0, a1, a2, a3, a4, a5, a6] [] lay M P else mG d 226 64 [a0, a1, a2, a3, a4, a5, a6] [] lay M P := e_icmp_eq rfl rfl
set_option maxRecDepth 20000 in
theorem g226_64 {d : Nat} {a0 a1 a2 a3 a4 a5 a6 : Option Value} {lay : List mShp} {M : mMem} {P : mPost} : mG (d) 226 64 [a0, a1, a2, a3, a4, a5, a6] [] lay M P = mG d 226 66 [a0, a1, a2, a3, a4, a5, a6] [.int (Int32.ofInt (-12))] lay M P := e_bipush rfl
set_option maxRecDepth 20000 in
theorem g226_66 {d : Nat} {a0 a1 a2 a3 a4 a5 a6 : Option Value} {s0 : Int32} {lay : List mShp} {M : mMem} {P : mPost} : mG (d) 226 66 [a0, a1, a2, a3, a4, a5, a6] [.int s0] lay M P = P (some (.int s0)) lay M := e_ireturnI rfl rfl
set_option maxRecDepth 20000 in
theorem g226_67 {d : Nat} {a0 a1 a2 a3 a4 a6 : Option Value} {x : Int32} {lay : List mShp} {M : mMem} {P : mPost} : mG (d) 226 67 [a0, a1, a2, a3, a4, some (.int x), a6] [] lay M P = mG d 226 69 [a0, a1, a2, a3, a4, some (.int x), a6] [.int x] lay M P := e_iload (i := 5) rfl rfl
set_option maxRecDepth 20000 in
theorem g226_69 {d : Nat} {a0 a1 a2 a3 a4 a5 a6 : Option Value} {s0 : Int32} {lay : List mShp} {M : mMem} {P : mPost} : mG (d) 226 69 [a0, a1, a2, a3, a4, a5, a6] [.int s0] lay M P = if s0 < 0 then mG d 226 108 [a0, a1, a2, a3, a4, a5, a6] [] lay M P else mG d 226 72 [a0, a1, a2, a3, a4, a5, a6] [] lay M P := e_if_lt rfl rfl
set_option maxRecDepth 20000 in
theorem g226_72 {d : Nat} {a0 a1 a3 a4 a5 a6 : Option Value} {x : Int32} {lay : List mShp} {M : mMem} {P : mPost} : mG (d) 226 72 [a0, a1, some (.int x), a3, a4, a5, a6] [] lay M P = mG d 226 73 [a0, a1, some (.int x), a3, a4, a5, a6] [.int x] lay M P := e_iload_n (i := 2) rfl rfl rfl
set_option maxRecDepth 20000 in
theorem g226_73 {d : Nat} {a0 a1 a2 a3 a4 a5 a6 : Option Value} {s0 : Int32} {lay : List mShp} {M : mMem} {P : mPost} : mG (d) 226 73 [a0, a1, a2, a3, a4, a5, a6] [.int s0] lay M P = if s0 < 0 then mG d 226 108 [a0, a1, a2, a3, a4, a5, a6] [] lay M P else mG d 226 76 [a0, a1, a2, a3, a4, a5, a6] [] lay M P := e_if_lt rfl rfl
set_option maxRecDepth 20000 in
theorem g226_76 {d : Nat} {a0 a1 a2 a3 a5 a6 : Option Value} {x : Int32} {lay : List mShp} {M : mMem} {P : mPost} : mG (d) 226 76 [a0, a1, a2, a3, some (.int x), a5, a6] [] lay M P = mG d 226 78 [a0, a1, a2, a3, some (.int x), a5, a6] [.int x] lay M P := e_iload (i := 4) rfl rfl
set_option maxRecDepth 20000 in
theorem g226_78 {d : Nat} {a0 a1 a2 a3 a4 a5 a6 : Option Value} {s0 : Int32} {lay : List mShp} {M : mMem} {P : mPost} : mG (d) 226 78 [a0, a1, a2, a3, a4, a5, a6] [.int s0] lay M P = if s0 < 0 then mG d 226 108 [a0, a1, a2, a3, a4, a5, a6] [] lay M P else mG d 226 81 [a0, a1, a2, a3, a4, a5, a6] [] lay M P := e_if_lt rfl rfl
set_option maxRecDepth 20000 in
theorem g226_81 {d : Nat} {a0 a1 a2 a3 a4 a6 : Option Value} {x : Int32} {lay : List mShp} {M : mMem} {P : mPost} : mG (d) 226 81 [a0, a1, a2, a3, a4, some (.int x), a6] [] lay M P = mG d 226 83 [a0, a1, a2, a3, a4, some (.int x), a6] [.int x] lay M P := e_iload (i := 5) rfl rfl
set_option maxRecDepth 20000 in
theorem g226_83 {d : Nat} {a1 a2 a3 a4 a5 a6 : Option Value} {s0 : Int32} {x : Nat} {lay : List mShp} {M : mMem} {P : mPost} (hx : ¬ x = 0) : mG (d) 226 83 [some (.ref x), a1, a2, a3, a4, a5, a6] [.int s0] lay M P = mG d 226 84 [some (.ref x), a1, a2, a3, a4, a5, a6] [.ref x, .int s0] lay M P := e_aload_nP hx (i := 0) rfl rfl rfl
set_option maxRecDepth 20000 in
theorem g226_84 {d : Nat} {a0 a1 a2 a3 a4 a5 a6 : Option Value} {s0 : Nat} {s1 : Int32} {lay : List mShp} {M : mMem} {P : mPost} (hs : mSh lay s0 = some (13, 44)) : mG (d) 226 84 [a0, a1, a2, a3, a4, a5, a6] [.ref s0, .int s1] lay M P = mG d 226 87 [a0, a1, a2, a3, a4, a5, a6] [.ref (M.2.2 s0 29), .int s1] lay M P := mG_of_and (mIsO_of hs (by decide)) (e_getA (ci := 10) (j := 29) rfl rfl rfl)
set_option maxRecDepth 20000 in
theorem g226_87 {d : Nat} {a0 a2 a3 a4 a5 a6 : Option Value} {s0 : Nat} {s1 : Int32} {x : Int32} {lay : List mShp} {M : mMem} {P : mPost} : mG (d) 226 87 [a0, some (.int x), a2, a3, a4, a5, a6] [.ref s0, .int s1] lay M P = mG d 226 88 [a0, some (.int x), a2, a3, a4, a5, a6] [.int x, .ref s0, .int s1] lay M P := e_iload_n (i := 1) rfl rfl rfl
set_option maxRecDepth 20000 in
theorem g226_88 {d : Nat} {a0 a1 a2 a3 a4 a5 a6 : Option Value} {s0 : Int32} {s1 : Nat} {s2 : Int32} {lay : List mShp} {M : mMem} {P : mPost} (hs : mSh lay s1 = some (0, 6)) : mG (d) 226 88 [a0, a1, a2, a3, a4, a5, a6] [.int s0, .ref s1, .int s2] lay M P = (mIdx s0 6 = true ∧ mG d 226 89 [a0, a1, a2, a3, a4, a5, a6] [.int (M.1 s1 s0.toNatClampNeg), .int s2] lay M P) := e_iaload rfl hs
set_option maxRecDepth 20000 in
theorem g226_89 {d : Nat} {a0 a1 a3 a4 a5 a6 : Option Value} {s0 : Int32} {s1 : Int32} {x : Int32} {lay : List mShp} {M : mMem} {P : mPost} : mG (d) 226 89 [a0, a1, some (.int x), a3, a4, a5, a6] [.int s0, .int s1] lay M P = mG d 226 90 [a0, a1, some (.int x), a3, a4, a5, a6] [.int x, .int s0, .int s1] lay M P := e_iload_n (i := 2) rfl rfl rfl
set_option maxRecDepth 20000 in
theorem g226_90 {d : Nat} {a0 a1 a2 a3 a4 a5 a6 : Option Value} {s0 : Int32} {s1 : Int32} {s2 : Int32} {lay : List mShp} {M : mMem} {P : mPost} : mG (d) 226 90 [a0, a1, a2, a3, a4, a5, a6] [.int s0, .int s1, .int s2] lay M P = mG d 226 91 [a0, a1, a2, a3, a4, a5, a6] [.int (s1 - s0), .int s2] lay M P := e_isub rfl
set_option maxRecDepth 20000 in
theorem g226_91 {d : Nat} {a0 a1 a2 a3 a4 a5 a6 : Option Value} {s0 : Int32} {s1 : Int32} {lay : List mShp} {M : mMem} {P : mPost} : mG (d) 226 91 [a0, a1, a2, a3, a4, a5, a6] [.int s0, .int s1] lay M P = if s0 < s1 then mG d 226 108 [a0, a1, a2, a3, a4, a5, a6] [] lay M P else mG d 226 94 [a0, a1, a2, a3, a4, a5, a6] [] lay M P := e_icmp_gt rfl rfl
set_option maxRecDepth 20000 in
theorem g226_94 {d : Nat} {a0 a1 a2 a3 a4 a6 : Option Value} {x : Int32} {lay : List mShp} {M : mMem} {P : mPost} : mG (d) 226 94 [a0, a1, a2, a3, a4, some (.int x), a6] [] lay M P = mG d 226 96 [a0, a1, a2, a3, a4, some (.int x), a6] [.int x] lay M P := e_iload (i := 5) rfl rfl
set_option maxRecDepth 20000 in
theorem g226_96 {d : Nat} {a1 a2 a3 a4 a5 a6 : Option Value} {s0 : Int32} {x : Nat} {lay : List mShp} {M : mMem} {P : mPost} (hx : ¬ x = 0) : mG (d) 226 96 [some (.ref x), a1, a2, a3, a4, a5, a6] [.int s0] lay M P = mG d 226 97 [some (.ref x), a1, a2, a3, a4, a5, a6] [.ref x, .int s0] lay M P := e_aload_nP hx (i := 0) rfl rfl rfl
set_option maxRecDepth 20000 in
theorem g226_97 {d : Nat} {a0 a1 a2 a3 a4 a5 a6 : Option Value} {s0 : Nat} {s1 : Int32} {lay : List mShp} {M : mMem} {P : mPost} (hs : mSh lay s0 = some (13, 44)) : mG (d) 226 97 [a0, a1, a2, a3, a4, a5, a6] [.ref s0, .int s1] lay M P = mG d 226 100 [a0, a1, a2, a3, a4, a5, a6] [.ref (M.2.2 s0 29), .int s1] lay M P := mG_of_and (mIsO_of hs (by decide)) (e_getA (ci := 10) (j := 29) rfl rfl rfl)
set_option maxRecDepth 20000 in
theorem g226_100 {d : Nat} {a0 a1 a2 a4 a5 a6 : Option Value} {s0 : Nat} {s1 : Int32} {x : Int32} {lay : List mShp} {M : mMem} {P : mPost} : mG (d) 226 100 [a0, a1, a2, some (.int x), a4, a5, a6] [.ref s0, .int s1] lay M P = mG d 226 101 [a0, a1, a2, some (.int x), a4, a5, a6] [.int x, .ref s0, .int s1] lay M P := e_iload_n (i := 3) rfl rfl rfl
set_option maxRecDepth 20000 in
theorem g226_101 {d : Nat} {a0 a1 a2 a3 a4 a5 a6 : Option Value} {s0 : Int32} {s1 : Nat} {s2 : Int32} {lay : List mShp} {M : mMem} {P : mPost} (hs : mSh lay s1 = some (0, 6)) : mG (d) 226 101 [a0, a1, a2, a3, a4, a5, a6] [.int s0, .ref s1, .int s2] lay M P = (mIdx s0 6 = true ∧ mG d 226 102 [a0, a1, a2, a3, a4, a5, a6] [.int (M.1 s1 s0.toNatClampNeg), .int s2] lay M P) := e_iaload rfl hs
set_option maxRecDepth 20000 in
theorem g226_102 {d : Nat} {a0 a1 a2 a3 a5 a6 : Option Value} {s0 : Int32} {s1 : Int32} {x : Int32} {lay : List mShp} {M : mMem} {P : mPost} : mG (d) 226 102 [a0, a1, a2, a3, some (.int x), a5, a6] [.int s0, .int s1] lay M P = mG d 226 104 [a0, a1, a2, a3, some (.int x), a5, a6] [.int x, .int s0, .int s1] lay M P := e_iload (i := 4) rfl rfl
set_option maxRecDepth 20000 in
theorem g226_104 {d : Nat} {a0 a1 a2 a3 a4 a5 a6 : Option Value} {s0 : Int32} {s1 : Int32} {s2 : Int32} {lay : List mShp} {M : mMem} {P : mPost} : mG (d) 226 104 [a0, a1, a2, a3, a4, a5, a6] [.int s0, .int s1, .int s2] lay M P = mG d 226 105 [a0, a1, a2, a3, a4, a5, a6] [.int (s1 - s0), .int s2] lay M P := e_isub rfl
set_option maxRecDepth 20000 in
theorem g226_105 {d : Nat} {a0 a1 a2 a3 a4 a5 a6 : Option Value} {s0 : Int32} {s1 : Int32} {lay : List mShp} {M : mMem} {P : mPost} : mG (d) 226 105 [a0, a1, a2, a3, a4, a5, a6] [.int s0, .int s1] lay M P = if s0 < s1 then mG d 226 108 [a0, a1, a2, a3, a4, a5, a6] [] lay M P else mG d 226 111 [a0, a1, a2, a3, a4, a5, a6] [] lay M P := e_icmp_le rfl rfl
set_option maxRecDepth 20000 in
theorem g226_108 {d : Nat} {a0 a1 a2 a3 a4 a5 a6 : Option Value} {lay : List mShp} {M : mMem} {P : mPost} : mG (d) 226 108 [a0, a1, a2, a3, a4, a5, a6] [] lay M P = mG d 226 110 [a0, a1, a2, a3, a4, a5, a6] [.int (Int32.ofInt (-13))] lay M P := e_bipush rfl
set_option maxRecDepth 20000 in
theorem g226_110 {d : Nat} {a0 a1 a2 a3 a4 a5 a6 : Option Value} {s0 : Int32} {lay : List mShp} {M : mMem} {P : mPost} : mG (d) 226 110 [a0, a1, a2, a3, a4, a5, a6] [.int s0] lay M P = P (some (.int s0)) lay M := e_ireturnI rfl rfl
set_option maxRecDepth 20000 in
theorem g226_111 {d : Nat} {a0 a1 a2 a3 a4 a5 a6 : Option Value} {lay : List mShp} {M : mMem} {P : mPost} : mG (d) 226 111 [a0, a1, a2, a3, a4, a5, a6] [] lay M P = mG d 226 112 [a0, a1, a2, a3, a4, a5, a6] [.int (Int32.ofInt 0)] lay M P := e_iconst rfl
set_option maxRecDepth 20000 in
theorem g226_112 {d : Nat} {a0 a1 a2 a3 a4 a5 a6 : Option Value} {s0 : Int32} {lay : List mShp} {M : mMem} {P : mPost} (h0 : mNoL a5 = true) : mG (d) 226 112 [a0, a1, a2, a3, a4, a5, a6] [.int s0] lay M P = mG d 226 114 [a0, a1, a2, a3, a4, a5, some (.int s0)] [] lay M P := e_istore (i := 6) rfl (by simp) (mS1_6 h0)
set_option maxRecDepth 20000 in
theorem g226_114 {d : Nat} {a0 a1 a2 a3 a4 a5 : Option Value} {x : Int32} {lay : List mShp} {M : mMem} {P : mPost} : mG (d) 226 114 [a0, a1, a2, a3, a4, a5, some (.int x)] [] lay M P = mG d 226 116 [a0, a1, a2, a3, a4, a5, some (.int x)] [.int x] lay M P := e_iload (i := 6) rfl rfl
set_option maxRecDepth 20000 in
theorem g226_116 {d : Nat} {a0 a1 a2 a3 a4 a6 : Option Value} {s0 : Int32} {x : Int32} {lay : List mShp} {M : mMem} {P : mPost} : mG (d) 226 116 [a0, a1, a2, a3, a4, some (.int x), a6] [.int s0] lay M P = mG d 226 118 [a0, a1, a2, a3, a4, some (.int x), a6] [.int x, .int s0] lay M P := e_iload (i := 5) rfl rfl
set_option maxRecDepth 20000 in
theorem g226_118 {d : Nat} {a0 a1 a2 a3 a4 a5 a6 : Option Value} {s0 : Int32} {s1 : Int32} {lay : List mShp} {M : mMem} {P : mPost} : mG (d) 226 118 [a0, a1, a2, a3, a4, a5, a6] [.int s0, .int s1] lay M P = if s1 < s0 then mG d 226 121 [a0, a1, a2, a3, a4, a5, a6] [] lay M P else mG d 226 148 [a0, a1, a2, a3, a4, a5, a6] [] lay M P := e_icmp_ge rfl rfl
set_option maxRecDepth 20000 in
theorem g226_121 {d : Nat} {a1 a2 a3 a4 a5 a6 : Option Value} {x : Nat} {lay : List mShp} {M : mMem} {P : mPost} (hx : ¬ x = 0) : mG (d) 226 121 [some (.ref x), a1, a2, a3, a4, a5, a6] [] lay M P = mG d 226 122 [some (.ref x), a1, a2, a3, a4, a5, a6] [.ref x] lay M P := e_aload_nP hx (i := 0) rfl rfl rfl
set_option maxRecDepth 20000 in
theorem g226_122 {d : Nat} {a0 a1 a2 a3 a4 a5 a6 : Option Value} {s0 : Nat} {lay : List mShp} {M : mMem} {P : mPost} (hs : mSh lay s0 = some (13, 44)) : mG (d) 226 122 [a0, a1, a2, a3, a4, a5, a6] [.ref s0] lay M P = mG d 226 125 [a0, a1, a2, a3, a4, a5, a6] [.ref (M.2.2 s0 31)] lay M P := mG_of_and (mIsO_of hs (by decide)) (e_getA (ci := 10) (j := 31) rfl rfl rfl)
set_option maxRecDepth 20000 in
theorem g226_125 {d : Nat} {a0 a1 a2 a3 a4 a5 : Option Value} {s0 : Nat} {x : Int32} {lay : List mShp} {M : mMem} {P : mPost} : mG (d) 226 125 [a0, a1, a2, a3, a4, a5, some (.int x)] [.ref s0] lay M P = mG d 226 127 [a0, a1, a2, a3, a4, a5, some (.int x)] [.int x, .ref s0] lay M P := e_iload (i := 6) rfl rfl
set_option maxRecDepth 20000 in
theorem g226_127 {d : Nat} {a1 a2 a3 a4 a5 a6 : Option Value} {s0 : Int32} {s1 : Nat} {x : Nat} {lay : List mShp} {M : mMem} {P : mPost} (hx : ¬ x = 0) : mG (d) 226 127 [some (.ref x), a1, a2, a3, a4, a5, a6] [.int s0, .ref s1] lay M P = mG d 226 128 [some (.ref x), a1, a2, a3, a4, a5, a6] [.ref x, .int s0, .ref s1] lay M P := e_aload_nP hx (i := 0) rfl rfl rfl
set_option maxRecDepth 20000 in
theorem g226_128 {d : Nat} {a0 a1 a2 a3 a4 a5 a6 : Option Value} {s0 : Nat} {s1 : Int32} {s2 : Nat} {lay : List mShp} {M : mMem} {P : mPost} (hs : mSh lay s0 = some (13, 44)) : mG (d) 226 128 [a0, a1, a2, a3, a4, a5, a6] [.ref s0, .int s1, .ref s2] lay M P = mG d 226 131 [a0, a1, a2, a3, a4, a5, a6] [.ref (M.2.2 s0 30), .int s1, .ref s2] lay M P := mG_of_and (mIsO_of hs (by decide)) (e_getA (ci := 10) (j := 30) rfl rfl rfl)
set_option maxRecDepth 20000 in
theorem g226_131 {d : Nat} {a0 a1 a2 a3 a4 a5 a6 : Option Value} {s0 : Nat} {s1 : Int32} {s2 : Nat} {lay : List mShp} {M : mMem} {P : mPost} : mG (d) 226 131 [a0, a1, a2, a3, a4, a5, a6] [.ref s0, .int s1, .ref s2] lay M P = mG d 226 133 [a0, a1, a2, a3, a4, a5, a6] [.int (Int32.ofInt 60), .ref s0, .int s1, .ref s2] lay M P := e_bipush rfl
set_option maxRecDepth 20000 in
theorem g226_133 {d : Nat} {a0 a2 a3 a4 a5 a6 : Option Value} {s0 : Int32} {s1 : Nat} {s2 : Int32} {s3 : Nat} {x : Int32} {lay : List mShp} {M : mMem} {P : mPost} : mG (d) 226 133 [a0, some (.int x), a2, a3, a4, a5, a6] [.int s0, .ref s1, .int s2, .ref s3] lay M P = mG d 226 134 [a0, some (.int x), a2, a3, a4, a5, a6] [.int x, .int s0, .ref s1, .int s2, .ref s3] lay M P := e_iload_n (i := 1) rfl rfl rfl
set_option maxRecDepth 20000 in
theorem g226_134 {d : Nat} {a0 a1 a2 a3 a4 a5 a6 : Option Value} {s0 : Int32} {s1 : Int32} {s2 : Nat} {s3 : Int32} {s4 : Nat} {lay : List mShp} {M : mMem} {P : mPost} : mG (d) 226 134 [a0, a1, a2, a3, a4, a5, a6] [.int s0, .int s1, .ref s2, .int s3, .ref s4] lay M P = mG d 226 135 [a0, a1, a2, a3, a4, a5, a6] [.int (s1 * s0), .ref s2, .int s3, .ref s4] lay M P := e_imul rfl
set_option maxRecDepth 20000 in
theorem g226_135 {d : Nat} {a0 a1 a3 a4 a5 a6 : Option Value} {s0 : Int32} {s1 : Nat} {s2 : Int32} {s3 : Nat} {x : Int32} {lay : List mShp} {M : mMem} {P : mPost} : mG (d) 226 135 [a0, a1, some (.int x), a3, a4, a5, a6] [.int s0, .ref s1, .int s2, .ref s3] lay M P = mG d 226 136 [a0, a1, some (.int x), a3, a4, a5, a6] [.int x, .int s0, .ref s1, .int s2, .ref s3] lay M P := e_iload_n (i := 2) rfl rfl rfl
set_option maxRecDepth 20000 in
theorem g226_136 {d : Nat} {a0 a1 a2 a3 a4 a5 a6 : Option Value} {s0 : Int32} {s1 : Int32} {s2 : Nat} {s3 : Int32} {s4 : Nat} {lay : List mShp} {M : mMem} {P : mPost} : mG (d) 226 136 [a0, a1, a2, a3, a4, a5, a6] [.int s0, .int s1, .ref s2, .int s3, .ref s4] lay M P = mG d 226 137 [a0, a1, a2, a3, a4, a5, a6] [.int (s1 + s0), .ref s2, .int s3, .ref s4] lay M P := e_iadd rfl
set_option maxRecDepth 20000 in
theorem g226_137 {d : Nat} {a0 a1 a2 a3 a4 a5 : Option Value} {s0 : Int32} {s1 : Nat} {s2 : Int32} {s3 : Nat} {x : Int32} {lay : List mShp} {M : mMem} {P : mPost} : mG (d) 226 137 [a0, a1, a2, a3, a4, a5, some (.int x)] [.int s0, .ref s1, .int s2, .ref s3] lay M P = mG d 226 139 [a0, a1, a2, a3, a4, a5, some (.int x)] [.int x, .int s0, .ref s1, .int s2, .ref s3] lay M P := e_iload (i := 6) rfl rfl
set_option maxRecDepth 20000 in
theorem g226_139 {d : Nat} {a0 a1 a2 a3 a4 a5 a6 : Option Value} {s0 : Int32} {s1 : Int32} {s2 : Nat} {s3 : Int32} {s4 : Nat} {lay : List mShp} {M : mMem} {P : mPost} : mG (d) 226 139 [a0, a1, a2, a3, a4, a5, a6] [.int s0, .int s1, .ref s2, .int s3, .ref s4] lay M P = mG d 226 140 [a0, a1, a2, a3, a4, a5, a6] [.int (s1 + s0), .ref s2, .int s3, .ref s4] lay M P := e_iadd rfl
set_option maxRecDepth 20000 in
theorem g226_140 {d : Nat} {a0 a1 a2 a3 a4 a5 a6 : Option Value} {s0 : Int32} {s1 : Nat} {s2 : Int32} {s3 : Nat} {lay : List mShp} {M : mMem} {P : mPost} (hs : mSh lay s1 = some (1, 360)) : mG (d) 226 140 [a0, a1, a2, a3, a4, a5, a6] [.int s0, .ref s1, .int s2, .ref s3] lay M P = (mIdx s0 360 = true ∧ mG d 226 141 [a0, a1, a2, a3, a4, a5, a6] [.long (M.2.1 s1 s0.toNatClampNeg), .int s2, .ref s3] lay M P) := e_laload rfl hs
set_option maxRecDepth 20000 in
theorem g226_141 {d : Nat} {a0 a1 a2 a3 a4 a5 a6 : Option Value} {s0 : Int64} {s1 : Int32} {s2 : Nat} {lay : List mShp} {M : mMem} {P : mPost} (hs : mSh lay s2 = some (1, 60)) : mG (d) 226 141 [a0, a1, a2, a3, a4, a5, a6] [.long s0, .int s1, .ref s2] lay M P = (mIdx s1 60 = true ∧ mG d 226 142 [a0, a1, a2, a3, a4, a5, a6] [] lay (mSetL M s2 s1.toNatClampNeg s0) P) := e_lastore rfl hs
set_option maxRecDepth 20000 in
theorem g226_142 {d : Nat} {a0 a1 a2 a3 a4 a5 : Option Value} {x : Int32} {lay : List mShp} {M : mMem} {P : mPost} (h0 : mNoL a5 = true) : mG (d) 226 142 [a0, a1, a2, a3, a4, a5, some (.int x)] [] lay M P = mG d 226 145 [a0, a1, a2, a3, a4, a5, some (.int (x + Int32.ofInt 1))] [] lay M P := e_iinc (n := 6) rfl rfl (mS1_6 h0)
set_option maxRecDepth 20000 in
theorem g226_145 {d : Nat} {a0 a1 a2 a3 a4 a5 a6 : Option Value} {lay : List mShp} {M : mMem} {P : mPost} : mG (d) 226 145 [a0, a1, a2, a3, a4, a5, a6] [] lay M P = mG d 226 114 [a0, a1, a2, a3, a4, a5, a6] [] lay M P := e_goto rfl rfl
set_option maxRecDepth 20000 in
theorem g226_148 {d : Nat} {a0 a1 a2 a3 a4 a5 a6 : Option Value} {lay : List mShp} {M : mMem} {P : mPost} : mG (d) 226 148 [a0, a1, a2, a3, a4, a5, a6] [] lay M P = mG d 226 149 [a0, a1, a2, a3, a4, a5, a6] [.int (Int32.ofInt 0)] lay M P := e_iconst rfl
set_option maxRecDepth 20000 in
theorem g226_149 {d : Nat} {a0 a1 a2 a3 a4 a5 a6 : Option Value} {s0 : Int32} {lay : List mShp} {M : mMem} {P : mPost} (h0 : mNoL a5 = true) : mG (d) 226 149 [a0, a1, a2, a3, a4, a5, a6] [.int s0] lay M P = mG d 226 151 [a0, a1, a2, a3, a4, a5, some (.int s0)] [] lay M P := e_istore (i := 6) rfl (by simp) (mS1_6 h0)
set_option maxRecDepth 20000 in
theorem g226_151 {d : Nat} {a0 a1 a2 a3 a4 a5 : Option Value} {x : Int32} {lay : List mShp} {M : mMem} {P : mPost} : mG (d) 226 151 [a0, a1, a2, a3, a4, a5, some (.int x)] [] lay M P = mG d 226 153 [a0, a1, a2, a3, a4, a5, some (.int x)] [.int x] lay M P := e_iload (i := 6) rfl rfl
set_option maxRecDepth 20000 in
theorem g226_153 {d : Nat} {a0 a1 a2 a3 a4 a6 : Option Value} {s0 : Int32} {x : Int32} {lay : List mShp} {M : mMem} {P : mPost} : mG (d) 226 153 [a0, a1, a2, a3, a4, some (.int x), a6] [.int s0] lay M P = mG d 226 155 [a0, a1, a2, a3, a4, some (.int x), a6] [.int x, .int s0] lay M P := e_iload (i := 5) rfl rfl
set_option maxRecDepth 20000 in
theorem g226_155 {d : Nat} {a0 a1 a2 a3 a4 a5 a6 : Option Value} {s0 : Int32} {s1 : Int32} {lay : List mShp} {M : mMem} {P : mPost} : mG (d) 226 155 [a0, a1, a2, a3, a4, a5, a6] [.int s0, .int s1] lay M P = if s1 < s0 then mG d 226 158 [a0, a1, a2, a3, a4, a5, a6] [] lay M P else mG d 226 186 [a0, a1, a2, a3, a4, a5, a6] [] lay M P := e_icmp_ge rfl rfl
set_option maxRecDepth 20000 in
theorem g226_158 {d : Nat} {a1 a2 a3 a4 a5 a6 : Option Value} {x : Nat} {lay : List mShp} {M : mMem} {P : mPost} (hx : ¬ x = 0) : mG (d) 226 158 [some (.ref x), a1, a2, a3, a4, a5, a6] [] lay M P = mG d 226 159 [some (.ref x), a1, a2, a3, a4, a5, a6] [.ref x] lay M P := e_aload_nP hx (i := 0) rfl rfl rfl
set_option maxRecDepth 20000 in
theorem g226_159 {d : Nat} {a0 a1 a2 a3 a4 a5 a6 : Option Value} {s0 : Nat} {lay : List mShp} {M : mMem} {P : mPost} (hs : mSh lay s0 = some (13, 44)) : mG (d) 226 159 [a0, a1, a2, a3, a4, a5, a6] [.ref s0] lay M P = mG d 226 162 [a0, a1, a2, a3, a4, a5, a6] [.ref (M.2.2 s0 30)] lay M P := mG_of_and (mIsO_of hs (by decide)) (e_getA (ci := 10) (j := 30) rfl rfl rfl)
set_option maxRecDepth 20000 in
theorem g226_162 {d : Nat} {a0 a1 a2 a3 a4 a5 a6 : Option Value} {s0 : Nat} {lay : List mShp} {M : mMem} {P : mPost} : mG (d) 226 162 [a0, a1, a2, a3, a4, a5, a6] [.ref s0] lay M P = mG d 226 164 [a0, a1, a2, a3, a4, a5, a6] [.int (Int32.ofInt 60), .ref s0] lay M P := e_bipush rfl
set_option maxRecDepth 20000 in
theorem g226_164 {d : Nat} {a0 a1 a2 a4 a5 a6 : Option Value} {s0 : Int32} {s1 : Nat} {x : Int32} {lay : List mShp} {M : mMem} {P : mPost} : mG (d) 226 164 [a0, a1, a2, some (.int x), a4, a5, a6] [.int s0, .ref s1] lay M P = mG d 226 165 [a0, a1, a2, some (.int x), a4, a5, a6] [.int x, .int s0, .ref s1] lay M P := e_iload_n (i := 3) rfl rfl rfl
set_option maxRecDepth 20000 in
theorem g226_165 {d : Nat} {a0 a1 a2 a3 a4 a5 a6 : Option Value} {s0 : Int32} {s1 : Int32} {s2 : Nat} {lay : List mShp} {M : mMem} {P : mPost} : mG (d) 226 165 [a0, a1, a2, a3, a4, a5, a6] [.int s0, .int s1, .ref s2] lay M P = mG d 226 166 [a0, a1, a2, a3, a4, a5, a6] [.int (s1 * s0), .ref s2] lay M P := e_imul rfl
set_option maxRecDepth 20000 in
theorem g226_166 {d : Nat} {a0 a1 a2 a3 a5 a6 : Option Value} {s0 : Int32} {s1 : Nat} {x : Int32} {lay : List mShp} {M : mMem} {P : mPost} : mG (d) 226 166 [a0, a1, a2, a3, some (.int x), a5, a6] [.int s0, .ref s1] lay M P = mG d 226 168 [a0, a1, a2, a3, some (.int x), a5, a6] [.int x, .int s0, .ref s1] lay M P := e_iload (i := 4) rfl rfl
set_option maxRecDepth 20000 in
theorem g226_168 {d : Nat} {a0 a1 a2 a3 a4 a5 a6 : Option Value} {s0 : Int32} {s1 : Int32} {s2 : Nat} {lay : List mShp} {M : mMem} {P : mPost} : mG (d) 226 168 [a0, a1, a2, a3, a4, a5, a6] [.int s0, .int s1, .ref s2] lay M P = mG d 226 169 [a0, a1, a2, a3, a4, a5, a6] [.int (s1 + s0), .ref s2] lay M P := e_iadd rfl
set_option maxRecDepth 20000 in
theorem g226_169 {d : Nat} {a0 a1 a2 a3 a4 a5 : Option Value} {s0 : Int32} {s1 : Nat} {x : Int32} {lay : List mShp} {M : mMem} {P : mPost} : mG (d) 226 169 [a0, a1, a2, a3, a4, a5, some (.int x)] [.int s0, .ref s1] lay M P = mG d 226 171 [a0, a1, a2, a3, a4, a5, some (.int x)] [.int x, .int s0, .ref s1] lay M P := e_iload (i := 6) rfl rfl
set_option maxRecDepth 20000 in
theorem g226_171 {d : Nat} {a0 a1 a2 a3 a4 a5 a6 : Option Value} {s0 : Int32} {s1 : Int32} {s2 : Nat} {lay : List mShp} {M : mMem} {P : mPost} : mG (d) 226 171 [a0, a1, a2, a3, a4, a5, a6] [.int s0, .int s1, .ref s2] lay M P = mG d 226 172 [a0, a1, a2, a3, a4, a5, a6] [.int (s1 + s0), .ref s2] lay M P := e_iadd rfl
set_option maxRecDepth 20000 in
theorem g226_172 {d : Nat} {a1 a2 a3 a4 a5 a6 : Option Value} {s0 : Int32} {s1 : Nat} {x : Nat} {lay : List mShp} {M : mMem} {P : mPost} (hx : ¬ x = 0) : mG (d) 226 172 [some (.ref x), a1, a2, a3, a4, a5, a6] [.int s0, .ref s1] lay M P = mG d 226 173 [some (.ref x), a1, a2, a3, a4, a5, a6] [.ref x, .int s0, .ref s1] lay M P := e_aload_nP hx (i := 0) rfl rfl rfl
set_option maxRecDepth 20000 in
theorem g226_173 {d : Nat} {a0 a1 a2 a3 a4 a5 a6 : Option Value} {s0 : Nat} {s1 : Int32} {s2 : Nat} {lay : List mShp} {M : mMem} {P : mPost} (hs : mSh lay s0 = some (13, 44)) : mG (d) 226 173 [a0, a1, a2, a3, a4, a5, a6] [.ref s0, .int s1, .ref s2] lay M P = mG d 226 176 [a0, a1, a2, a3, a4, a5, a6] [.ref (M.2.2 s0 31), .int s1, .ref s2] lay M P := mG_of_and (mIsO_of hs (by decide)) (e_getA (ci := 10) (j := 31) rfl rfl rfl)
set_option maxRecDepth 20000 in
theorem g226_176 {d : Nat} {a0 a1 a2 a3 a4 a5 : Option Value} {s0 : Nat} {s1 : Int32} {s2 : Nat} {x : Int32} {lay : List mShp} {M : mMem} {P : mPost} : mG (d) 226 176 [a0, a1, a2, a3, a4, a5, some (.int x)] [.ref s0, .int s1, .ref s2] lay M P = mG d 226 178 [a0, a1, a2, a3, a4, a5, some (.int x)] [.int x, .ref s0, .int s1, .ref s2] lay M P := e_iload (i := 6) rfl rfl
set_option maxRecDepth 20000 in
theorem g226_178 {d : Nat} {a0 a1 a2 a3 a4 a5 a6 : Option Value} {s0 : Int32} {s1 : Nat} {s2 : Int32} {s3 : Nat} {lay : List mShp} {M : mMem} {P : mPost} (hs : mSh lay s1 = some (1, 60)) : mG (d) 226 178 [a0, a1, a2, a3, a4, a5, a6] [.int s0, .ref s1, .int s2, .ref s3] lay M P = (mIdx s0 60 = true ∧ mG d 226 179 [a0, a1, a2, a3, a4, a5, a6] [.long (M.2.1 s1 s0.toNatClampNeg), .int s2, .ref s3] lay M P) := e_laload rfl hs
set_option maxRecDepth 20000 in
theorem g226_179 {d : Nat} {a0 a1 a2 a3 a4 a5 a6 : Option Value} {s0 : Int64} {s1 : Int32} {s2 : Nat} {lay : List mShp} {M : mMem} {P : mPost} (hs : mSh lay s2 = some (1, 360)) : mG (d) 226 179 [a0, a1, a2, a3, a4, a5, a6] [.long s0, .int s1, .ref s2] lay M P = (mIdx s1 360 = true ∧ mG d 226 180 [a0, a1, a2, a3, a4, a5, a6] [] lay (mSetL M s2 s1.toNatClampNeg s0) P) := e_lastore rfl hs
set_option maxRecDepth 20000 in
theorem g226_180 {d : Nat} {a0 a1 a2 a3 a4 a5 : Option Value} {x : Int32} {lay : List mShp} {M : mMem} {P : mPost} (h0 : mNoL a5 = true) : mG (d) 226 180 [a0, a1, a2, a3, a4, a5, some (.int x)] [] lay M P = mG d 226 183 [a0, a1, a2, a3, a4, a5, some (.int (x + Int32.ofInt 1))] [] lay M P := e_iinc (n := 6) rfl rfl (mS1_6 h0)
set_option maxRecDepth 20000 in
theorem g226_183 {d : Nat} {a0 a1 a2 a3 a4 a5 a6 : Option Value} {lay : List mShp} {M : mMem} {P : mPost} : mG (d) 226 183 [a0, a1, a2, a3, a4, a5, a6] [] lay M P = mG d 226 151 [a0, a1, a2, a3, a4, a5, a6] [] lay M P := e_goto rfl rfl
set_option maxRecDepth 20000 in
theorem g226_186 {d : Nat} {a0 a1 a2 a3 a4 a6 : Option Value} {x : Int32} {lay : List mShp} {M : mMem} {P : mPost} : mG (d) 226 186 [a0, a1, a2, a3, a4, some (.int x), a6] [] lay M P = mG d 226 188 [a0, a1, a2, a3, a4, some (.int x), a6] [.int x] lay M P := e_iload (i := 5) rfl rfl
set_option maxRecDepth 20000 in
theorem g226_188 {d : Nat} {a0 a1 a2 a3 a4 a5 a6 : Option Value} {s0 : Int32} {lay : List mShp} {M : mMem} {P : mPost} : mG (d) 226 188 [a0, a1, a2, a3, a4, a5, a6] [.int s0] lay M P = P (some (.int s0)) lay M := e_ireturnI rfl rfl
-- 227 X10_taken
theorem g227_in {d : Nat} {x0 : Nat} {x1 : Int32} {x2 : Int32} {lay : List mShp} {M : mMem} {P : mPost} : mF d 227 [.ref x0, .int x1, .int x2] lay M P = mG d 227 0 [some (.ref x0), some (.int x1), some (.int x2), none, none] [] lay M P := mF_in rfl rfl
set_option maxRecDepth 20000 in
theorem g227_0 {d : Nat} {a0 a2 a3 a4 : Option Value} {x : Int32} {lay : List mShp} {M : mMem} {P : mPost} : mG (d) 227 0 [a0, some (.int x), a2, a3, a4] [] lay M P = mG d 227 1 [a0, some (.int x), a2, a3, a4] [.int x] lay M P := e_iload_n (i := 1) rfl rfl rfl
set_option maxRecDepth 20000 in
theorem g227_1 {d : Nat} {a0 a1 a2 a3 a4 : Option Value} {s0 : Int32} {lay : List mShp} {M : mMem} {P : mPost} : mG (d + 1) 227 1 [a0, a1, a2, a3, a4] [.int s0] lay M P = mF d 197 [.int s0] lay M (fun v lay1 M1 => mG (d + 1) 227 4 [a0, a1, a2, a3, a4] (v.toList ++ []) lay1 M1 P) := e_static1 (j := 197) rfl rfl rfl rfl rfl (Nat.le_of_ble_eq_true rfl)
set_option maxRecDepth 20000 in
theorem g227_4 {d : Nat} {a0 a1 a2 a3 a4 : Option Value} {s0 : Int32} {lay : List mShp} {M : mMem} {P : mPost} : mG (d) 227 4 [a0, a1, a2, a3, a4] [.int s0] lay M P = if s0 = 0 then mG d 227 17 [a0, a1, a2, a3, a4] [] lay M P else mG d 227 7 [a0, a1, a2, a3, a4] [] lay M P := e_if_eq rfl rfl
set_option maxRecDepth 20000 in
theorem g227_7 {d : Nat} {a0 a1 a3 a4 : Option Value} {x : Int32} {lay : List mShp} {M : mMem} {P : mPost} : mG (d) 227 7 [a0, a1, some (.int x), a3, a4] [] lay M P = mG d 227 8 [a0, a1, some (.int x), a3, a4] [.int x] lay M P := e_iload_n (i := 2) rfl rfl rfl
set_option maxRecDepth 20000 in
theorem g227_8 {d : Nat} {a0 a1 a2 a3 a4 : Option Value} {s0 : Int32} {lay : List mShp} {M : mMem} {P : mPost} : mG (d) 227 8 [a0, a1, a2, a3, a4] [.int s0] lay M P = mG d 227 9 [a0, a1, a2, a3, a4] [.int (Int32.ofInt 0), .int s0] lay M P := e_iconst rfl
set_option maxRecDepth 20000 in
theorem g227_9 {d : Nat} {a0 a1 a2 a3 a4 : Option Value} {s0 : Int32} {s1 : Int32} {lay : List mShp} {M : mMem} {P : mPost} : mG (d) 227 9 [a0, a1, a2, a3, a4] [.int s0, .int s1] lay M P = mG d 227 11 [a0, a1, a2, a3, a4] [.int (Int32.ofInt 7), .int s0, .int s1] lay M P := e_bipush rfl
set_option maxRecDepth 20000 in
theorem g227_11 {d : Nat} {a0 a1 a2 a3 a4 : Option Value} {s0 : Int32} {s1 : Int32} {s2 : Int32} {lay : List mShp} {M : mMem} {P : mPost} : mG (d + 1) 227 11 [a0, a1, a2, a3, a4] [.int s0, .int s1, .int s2] lay M P = mF d 146 [.int s2, .int s1, .int s0] lay M (fun v lay1 M1 => mG (d + 1) 227 14 [a0, a1, a2, a3, a4] (v.toList ++ []) lay1 M1 P) := e_static3 (j := 146) rfl rfl rfl rfl rfl (Nat.le_of_ble_eq_true rfl)
set_option maxRecDepth 20000 in
theorem g227_14 {d : Nat} {a0 a1 a2 a3 a4 : Option Value} {s0 : Int32} {lay : List mShp} {M : mMem} {P : mPost} : mG (d) 227 14 [a0, a1, a2, a3, a4] [.int s0] lay M P = if s0 = 0 then mG d 227 17 [a0, a1, a2, a3, a4] [] lay M P else mG d 227 19 [a0, a1, a2, a3, a4] [] lay M P := e_if_ne rfl rfl
set_option maxRecDepth 20000 in
theorem g227_17 {d : Nat} {a0 a1 a2 a3 a4 : Option Value} {lay : List mShp} {M : mMem} {P : mPost} : mG (d) 227 17 [a0, a1, a2, a3, a4] [] lay M P = mG d 227 18 [a0, a1, a2, a3, a4] [.int (Int32.ofInt (-1))] lay M P := e_iconst rfl
set_option maxRecDepth 20000 in
theorem g227_18 {d : Nat} {a0 a1 a2 a3 a4 : Option Value} {s0 : Int32} {lay : List mShp} {M : mMem} {P : mPost} : mG (d) 227 18 [a0, a1, a2, a3, a4] [.int s0] lay M P = P (some (.int s0)) lay M := e_ireturnI rfl rfl
set_option maxRecDepth 20000 in
theorem g227_19 {d : Nat} {a1 a2 a3 a4 : Option Value} {x : Nat} {lay : List mShp} {M : mMem} {P : mPost} (hx : ¬ x = 0) : mG (d) 227 19 [some (.ref x), a1, a2, a3, a4] [] lay M P = mG d 227 20 [some (.ref x), a1, a2, a3, a4] [.ref x] lay M P := e_aload_nP hx (i := 0) rfl rfl rfl
set_option maxRecDepth 20000 in
theorem g227_20 {d : Nat} {a0 a1 a2 a3 a4 : Option Value} {s0 : Nat} {lay : List mShp} {M : mMem} {P : mPost} (hs : mSh lay s0 = some (13, 44)) : mG (d) 227 20 [a0, a1, a2, a3, a4] [.ref s0] lay M P = mG d 227 23 [a0, a1, a2, a3, a4] [.ref (M.2.2 s0 28)] lay M P := mG_of_and (mIsO_of hs (by decide)) (e_getA (ci := 10) (j := 28) rfl rfl rfl)
set_option maxRecDepth 20000 in
theorem g227_23 {d : Nat} {a0 a2 a3 a4 : Option Value} {s0 : Nat} {x : Int32} {lay : List mShp} {M : mMem} {P : mPost} : mG (d) 227 23 [a0, some (.int x), a2, a3, a4] [.ref s0] lay M P = mG d 227 24 [a0, some (.int x), a2, a3, a4] [.int x, .ref s0] lay M P := e_iload_n (i := 1) rfl rfl rfl
set_option maxRecDepth 20000 in
theorem g227_24 {d : Nat} {a0 a1 a2 a3 a4 : Option Value} {s0 : Int32} {s1 : Nat} {lay : List mShp} {M : mMem} {P : mPost} (hs : mSh lay s1 = some (0, 6)) : mG (d) 227 24 [a0, a1, a2, a3, a4] [.int s0, .ref s1] lay M P = (mIdx s0 6 = true ∧ mG d 227 25 [a0, a1, a2, a3, a4] [.int (M.1 s1 s0.toNatClampNeg)] lay M P) := e_iaload rfl hs
set_option maxRecDepth 20000 in
theorem g227_25 {d : Nat} {a0 a1 a2 a3 a4 : Option Value} {s0 : Int32} {lay : List mShp} {M : mMem} {P : mPost} : mG (d) 227 25 [a0, a1, a2, a3, a4] [.int s0] lay M P = mG d 227 27 [a0, a1, a2, a3, a4] [.int (Int32.ofInt 10), .int s0] lay M P := e_bipush rfl
set_option maxRecDepth 20000 in
theorem g227_27 {d : Nat} {a0 a1 a2 a3 a4 : Option Value} {s0 : Int32} {s1 : Int32} {lay : List mShp} {M : mMem} {P : mPost} : mG (d) 227 27 [a0, a1, a2, a3, a4] [.int s0, .int s1] lay M P = if s1 < s0 then mG d 227 30 [a0, a1, a2, a3, a4] [] lay M P else mG d 227 48 [a0, a1, a2, a3, a4] [] lay M P := e_icmp_ge rfl rfl
set_option maxRecDepth 20000 in
theorem g227_30 {d : Nat} {a1 a2 a3 a4 : Option Value} {x : Nat} {lay : List mShp} {M : mMem} {P : mPost} (hx : ¬ x = 0) : mG (d) 227 30 [some (.ref x), a1, a2, a3, a4] [] lay M P = mG d 227 31 [some (.ref x), a1, a2, a3, a4] [.ref x] lay M P := e_aload_nP hx (i := 0) rfl rfl rfl
set_option maxRecDepth 20000 in
theorem g227_31 {d : Nat} {a0 a1 a2 a3 a4 : Option Value} {s0 : Nat} {lay : List mShp} {M : mMem} {P : mPost} (hs : mSh lay s0 = some (13, 44)) : mG (d) 227 31 [a0, a1, a2, a3, a4] [.ref s0] lay M P = mG d 227 34 [a0, a1, a2, a3, a4] [.ref (M.2.2 s0 28)] lay M P := mG_of_and (mIsO_of hs (by decide)) (e_getA (ci := 10) (j := 28) rfl rfl rfl)
set_option maxRecDepth 20000 in
theorem g227_34 {d : Nat} {a0 a2 a3 a4 : Option Value} {s0 : Nat} {x : Int32} {lay : List mShp} {M : mMem} {P : mPost} : mG (d) 227 34 [a0, some (.int x), a2, a3, a4] [.ref s0] lay M P = mG d 227 35 [a0, some (.int x), a2, a3, a4] [.int x, .ref s0] lay M P := e_iload_n (i := 1) rfl rfl rfl
set_option maxRecDepth 20000 in
theorem g227_35 {d : Nat} {a0 a1 a2 a3 a4 : Option Value} {s0 : Int32} {s1 : Nat} {lay : List mShp} {M : mMem} {P : mPost} (hs : mSh lay s1 = some (0, 6)) : mG (d) 227 35 [a0, a1, a2, a3, a4] [.int s0, .ref s1] lay M P = (mIdx s0 6 = true ∧ mG d 227 36 [a0, a1, a2, a3, a4] [.int (M.1 s1 s0.toNatClampNeg)] lay M P) := e_iaload rfl hs
set_option maxRecDepth 20000 in
theorem g227_36 {d : Nat} {a0 a1 a2 a3 a4 : Option Value} {s0 : Int32} {lay : List mShp} {M : mMem} {P : mPost} : mG (d) 227 36 [a0, a1, a2, a3, a4] [.int s0] lay M P = mG d 227 37 [a0, a1, a2, a3, a4] [.int (Int32.ofInt (-1)), .int s0] lay M P := e_iconst rfl
set_option maxRecDepth 20000 in
theorem g227_37 {d : Nat} {a0 a1 a2 a3 a4 : Option Value} {s0 : Int32} {s1 : Int32} {lay : List mShp} {M : mMem} {P : mPost} : mG (d) 227 37 [a0, a1, a2, a3, a4] [.int s0, .int s1] lay M P = if s1 = s0 then mG d 227 40 [a0, a1, a2, a3, a4] [] lay M P else mG d 227 45 [a0, a1, a2, a3, a4] [] lay M P := e_icmp_ne rfl rfl
set_option maxRecDepth 20000 in
theorem g227_40 {d : Nat} {a0 a1 a2 a3 a4 : Option Value} {lay : List mShp} {M : mMem} {P : mPost} : mG (d) 227 40 [a0, a1, a2, a3, a4] [] lay M P = mG d 227 42 [a0, a1, a2, a3, a4] [.int (Int32.ofInt (-11))] lay M P := e_bipush rfl
set_option maxRecDepth 20000 in
theorem g227_42 {d : Nat} {a0 a1 a2 a3 a4 : Option Value} {s0 : Int32} {lay : List mShp} {M : mMem} {P : mPost} : mG (d) 227 42 [a0, a1, a2, a3, a4] [.int s0] lay M P = mG d 227 47 [a0, a1, a2, a3, a4] [.int s0] lay M P := e_goto rfl rfl
set_option maxRecDepth 20000 in
theorem g227_45 {d : Nat} {a0 a1 a2 a3 a4 : Option Value} {lay : List mShp} {M : mMem} {P : mPost} : mG (d) 227 45 [a0, a1, a2, a3, a4] [] lay M P = mG d 227 47 [a0, a1, a2, a3, a4] [.int (Int32.ofInt (-12))] lay M P := e_bipush rfl
set_option maxRecDepth 20000 in
theorem g227_47 {d : Nat} {a0 a1 a2 a3 a4 : Option Value} {s0 : Int32} {lay : List mShp} {M : mMem} {P : mPost} : mG (d) 227 47 [a0, a1, a2, a3, a4] [.int s0] lay M P = P (some (.int s0)) lay M := e_ireturnI rfl rfl
set_option maxRecDepth 20000 in
theorem g227_48 {d : Nat} {a1 a2 a3 a4 : Option Value} {x : Nat} {lay : List mShp} {M : mMem} {P : mPost} (hx : ¬ x = 0) : mG (d) 227 48 [some (.ref x), a1, a2, a3, a4] [] lay M P = mG d 227 49 [some (.ref x), a1, a2, a3, a4] [.ref x] lay M P := e_aload_nP hx (i := 0) rfl rfl rfl
set_option maxRecDepth 20000 in
theorem g227_49 {d : Nat} {a0 a1 a2 a3 a4 : Option Value} {s0 : Nat} {lay : List mShp} {M : mMem} {P : mPost} (hs : mSh lay s0 = some (13, 44)) : mG (d) 227 49 [a0, a1, a2, a3, a4] [.ref s0] lay M P = mG d 227 52 [a0, a1, a2, a3, a4] [.ref (M.2.2 s0 40)] lay M P := mG_of_and (mIsO_of hs (by decide)) (e_getA (ci := 10) (j := 40) rfl rfl rfl)
set_option maxRecDepth 20000 in
theorem g227_52 {d : Nat} {a1 a2 a3 a4 : Option Value} {s0 : Nat} {x : Nat} {lay : List mShp} {M : mMem} {P : mPost} (hx : ¬ x = 0) : mG (d) 227 52 [some (.ref x), a1, a2, a3, a4] [.ref s0] lay M P = mG d 227 53 [some (.ref x), a1, a2, a3, a4] [.ref x, .ref s0] lay M P := e_aload_nP hx (i := 0) rfl rfl rfl
set_option maxRecDepth 20000 in
theorem g227_53 {d : Nat} {a0 a1 a2 a3 a4 : Option Value} {s0 : Nat} {s1 : Nat} {lay : List mShp} {M : mMem} {P : mPost} (hs : mSh lay s0 = some (13, 44)) : mG (d) 227 53 [a0, a1, a2, a3, a4] [.ref s0, .ref s1] lay M P = mG d 227 56 [a0, a1, a2, a3, a4] [.ref (M.2.2 s0 28), .ref s1] lay M P := mG_of_and (mIsO_of hs (by decide)) (e_getA (ci := 10) (j := 28) rfl rfl rfl)
set_option maxRecDepth 20000 in
theorem g227_56 {d : Nat} {a0 a2 a3 a4 : Option Value} {s0 : Nat} {s1 : Nat} {x : Int32} {lay : List mShp} {M : mMem} {P : mPost} : mG (d) 227 56 [a0, some (.int x), a2, a3, a4] [.ref s0, .ref s1] lay M P = mG d 227 57 [a0, some (.int x), a2, a3, a4] [.int x, .ref s0, .ref s1] lay M P := e_iload_n (i := 1) rfl rfl rfl
set_option maxRecDepth 20000 in
theorem g227_57 {d : Nat} {a0 a1 a2 a3 a4 : Option Value} {s0 : Int32} {s1 : Nat} {s2 : Nat} {lay : List mShp} {M : mMem} {P : mPost} (hs : mSh lay s1 = some (0, 6)) : mG (d) 227 57 [a0, a1, a2, a3, a4] [.int s0, .ref s1, .ref s2] lay M P = (mIdx s0 6 = true ∧ mG d 227 58 [a0, a1, a2, a3, a4] [.int (M.1 s1 s0.toNatClampNeg), .ref s2] lay M P) := e_iaload rfl hs
set_option maxRecDepth 20000 in
theorem g227_58 {d : Nat} {a0 a1 a2 a3 a4 : Option Value} {s0 : Int32} {s1 : Nat} {lay : List mShp} {M : mMem} {P : mPost} : mG (d) 227 58 [a0, a1, a2, a3, a4] [.int s0, .ref s1] lay M P = mG d 227 60 [a0, a1, a2, a3, a4] [.int (Int32.ofInt 10), .int s0, .ref s1] lay M P := e_bipush rfl
set_option maxRecDepth 20000 in
theorem g227_60 {d : Nat} {a0 a1 a2 a3 a4 : Option Value} {s0 : Int32} {s1 : Int32} {s2 : Nat} {lay : List mShp} {M : mMem} {P : mPost} : mG (d) 227 60 [a0, a1, a2, a3, a4] [.int s0, .int s1, .ref s2] lay M P = mG d 227 61 [a0, a1, a2, a3, a4] [.int (s1 - s0), .ref s2] lay M P := e_isub rfl
set_option maxRecDepth 20000 in
theorem g227_61 {d : Nat} {a0 a1 a2 a3 a4 : Option Value} {s0 : Int32} {s1 : Nat} {lay : List mShp} {M : mMem} {P : mPost} (hs : mSh lay s1 = some (0, 50)) : mG (d) 227 61 [a0, a1, a2, a3, a4] [.int s0, .ref s1] lay M P = (mIdx s0 50 = true ∧ mG d 227 62 [a0, a1, a2, a3, a4] [.int (M.1 s1 s0.toNatClampNeg)] lay M P) := e_iaload rfl hs
set_option maxRecDepth 20000 in
theorem g227_62 {d : Nat} {a0 a1 a2 a3 a4 : Option Value} {s0 : Int32} {lay : List mShp} {M : mMem} {P : mPost} (h0 : mNoL a2 = true) : mG (d) 227 62 [a0, a1, a2, a3, a4] [.int s0] lay M P = mG d 227 63 [a0, a1, a2, some (.int s0), a4] [] lay M P := e_istore_n (i := 3) rfl rfl (by simp) (mS1_3 h0)
set_option maxRecDepth 20000 in
theorem g227_63 {d : Nat} {a0 a1 a2 a4 : Option Value} {x : Int32} {lay : List mShp} {M : mMem} {P : mPost} : mG (d) 227 63 [a0, a1, a2, some (.int x), a4] [] lay M P = mG d 227 64 [a0, a1, a2, some (.int x), a4] [.int x] lay M P := e_iload_n (i := 3) rfl rfl rfl
set_option maxRecDepth 20000 in
theorem g227_64 {d : Nat} {a0 a1 a2 a3 a4 : Option Value} {s0 : Int32} {lay : List mShp} {M : mMem} {P : mPost} (h0 : mNoL a3 = true) : mG (d) 227 64 [a0, a1, a2, a3, a4] [.int s0] lay M P = mG d 227 66 [a0, a1, a2, a3, some (.int s0)] [] lay M P := e_istore (i := 4) rfl (by simp) (mS1_4 h0)
set_option maxRecDepth 20000 in
theorem g227_66 {d : Nat} {a0 a1 a2 a3 : Option Value} {x : Int32} {lay : List mShp} {M : mMem} {P : mPost} : mG (d) 227 66 [a0, a1, a2, a3, some (.int x)] [] lay M P = mG d 227 68 [a0, a1, a2, a3, some (.int x)] [.int x] lay M P := e_iload (i := 4) rfl rfl
set_option maxRecDepth 20000 in
theorem g227_68 {d : Nat} {a0 a1 a2 a3 a4 : Option Value} {s0 : Int32} {lay : List mShp} {M : mMem} {P : mPost} : mG (d) 227 68 [a0, a1, a2, a3, a4] [.int s0] lay M P = mG d 227 69 [a0, a1, a2, a3, a4] [.int (Int32.ofInt (-1)), .int s0] lay M P := e_iconst rfl
set_option maxRecDepth 20000 in
theorem g227_69 {d : Nat} {a0 a1 a2 a3 a4 : Option Value} {s0 : Int32} {s1 : Int32} {lay : List mShp} {M : mMem} {P : mPost} : mG (d) 227 69 [a0, a1, a2, a3, a4] [.int s0, .int s1] lay M P = if s1 = s0 then mG d 227 90 [a0, a1, a2, a3, a4] [] lay M P else mG d 227 72 [a0, a1, a2, a3, a4] [] lay M P := e_icmp_eq rfl rfl
set_option maxRecDepth 20000 in
theorem g227_72 {d : Nat} {a0 a1 a2 a3 : Option Value} {x : Int32} {lay : List mShp} {M : mMem} {P : mPost} : mG (d) 227 72 [a0, a1, a2, a3, some (.int x)] [] lay M P = mG d 227 74 [a0, a1, a2, a3, some (.int x)] [.int x] lay M P := e_iload (i := 4) rfl rfl
set_option maxRecDepth 20000 in
theorem g227_74 {d : Nat} {a0 a1 a3 a4 : Option Value} {s0 : Int32} {x : Int32} {lay : List mShp} {M : mMem} {P : mPost} : mG (d) 227 74 [a0, a1, some (.int x), a3, a4] [.int s0] lay M P = mG d 227 75 [a0, a1, some (.int x), a3, a4] [.int x, .int s0] lay M P := e_iload_n (i := 2) rfl rfl rfl
set_option maxRecDepth 20000 in
theorem g227_75 {d : Nat} {a0 a1 a2 a3 a4 : Option Value} {s0 : Int32} {s1 : Int32} {lay : List mShp} {M : mMem} {P : mPost} : mG (d) 227 75 [a0, a1, a2, a3, a4] [.int s0, .int s1] lay M P = if s1 = s0 then mG d 227 90 [a0, a1, a2, a3, a4] [] lay M P else mG d 227 78 [a0, a1, a2, a3, a4] [] lay M P := e_icmp_eq rfl rfl
set_option maxRecDepth 20000 in
theorem g227_78 {d : Nat} {a1 a2 a3 a4 : Option Value} {x : Nat} {lay : List mShp} {M : mMem} {P : mPost} (hx : ¬ x = 0) : mG (d) 227 78 [some (.ref x), a1, a2, a3, a4] [] lay M P = mG d 227 79 [some (.ref x), a1, a2, a3, a4] [.ref x] lay M P := e_aload_nP hx (i := 0) rfl rfl rfl
set_option maxRecDepth 20000 in
theorem g227_79 {d : Nat} {a0 a1 a2 a3 a4 : Option Value} {s0 : Nat} {lay : List mShp} {M : mMem} {P : mPost} (hs : mSh lay s0 = some (13, 44)) : mG (d) 227 79 [a0, a1, a2, a3, a4] [.ref s0] lay M P = mG d 227 82 [a0, a1, a2, a3, a4] [.ref (M.2.2 s0 38)] lay M P := mG_of_and (mIsO_of hs (by decide)) (e_getA (ci := 10) (j := 38) rfl rfl rfl)
set_option maxRecDepth 20000 in
theorem g227_82 {d : Nat} {a0 a1 a2 a3 : Option Value} {s0 : Nat} {x : Int32} {lay : List mShp} {M : mMem} {P : mPost} : mG (d) 227 82 [a0, a1, a2, a3, some (.int x)] [.ref s0] lay M P = mG d 227 84 [a0, a1, a2, a3, some (.int x)] [.int x, .ref s0] lay M P := e_iload (i := 4) rfl rfl
set_option maxRecDepth 20000 in
theorem g227_84 {d : Nat} {a0 a1 a2 a3 a4 : Option Value} {s0 : Int32} {s1 : Nat} {lay : List mShp} {M : mMem} {P : mPost} (hs : mSh lay s1 = some (0, 8)) : mG (d) 227 84 [a0, a1, a2, a3, a4] [.int s0, .ref s1] lay M P = (mIdx s0 8 = true ∧ mG d 227 85 [a0, a1, a2, a3, a4] [.int (M.1 s1 s0.toNatClampNeg)] lay M P) := e_iaload rfl hs
set_option maxRecDepth 20000 in
theorem g227_85 {d : Nat} {a0 a1 a2 a3 a4 : Option Value} {s0 : Int32} {lay : List mShp} {M : mMem} {P : mPost} (h0 : mNoL a3 = true) : mG (d) 227 85 [a0, a1, a2, a3, a4] [.int s0] lay M P = mG d 227 87 [a0, a1, a2, a3, some (.int s0)] [] lay M P := e_istore (i := 4) rfl (by simp) (mS1_4 h0)
set_option maxRecDepth 20000 in
theorem g227_87 {d : Nat} {a0 a1 a2 a3 a4 : Option Value} {lay : List mShp} {M : mMem} {P : mPost} : mG (d) 227 87 [a0, a1, a2, a3, a4] [] lay M P = mG d 227 66 [a0, a1, a2, a3, a4] [] lay M P := e_goto rfl rfl
set_option maxRecDepth 20000 in
theorem g227_90 {d : Nat} {a0 a1 a2 a3 : Option Value} {x : Int32} {lay : List mShp} {M : mMem} {P : mPost} : mG (d) 227 90 [a0, a1, a2, a3, some (.int x)] [] lay M P = mG d 227 92 [a0, a1, a2, a3, some (.int x)] [.int x] lay M P := e_iload (i := 4) rfl rfl
set_option maxRecDepth 20000 in
theorem g227_92 {d : Nat} {a0 a1 a2 a3 a4 : Option Value} {s0 : Int32} {lay : List mShp} {M : mMem} {P : mPost} : mG (d) 227 92 [a0, a1, a2, a3, a4] [.int s0] lay M P = mG d 227 93 [a0, a1, a2, a3, a4] [.int (Int32.ofInt (-1)), .int s0] lay M P := e_iconst rfl
set_option maxRecDepth 20000 in
theorem g227_93 {d : Nat} {a0 a1 a2 a3 a4 : Option Value} {s0 : Int32} {s1 : Int32} {lay : List mShp} {M : mMem} {P : mPost} : mG (d) 227 93 [a0, a1, a2, a3, a4] [.int s0, .int s1] lay M P = if s1 = s0 then mG d 227 96 [a0, a1, a2, a3, a4] [] lay M P else mG d 227 101 [a0, a1, a2, a3, a4] [] lay M P := e_icmp_ne rfl rfl
set_option maxRecDepth 20000 in
theorem g227_96 {d : Nat} {a0 a1 a2 a3 a4 : Option Value} {lay : List mShp} {M : mMem} {P : mPost} : mG (d) 227 96 [a0, a1, a2, a3, a4] [] lay M P = mG d 227 98 [a0, a1, a2, a3, a4] [.int (Int32.ofInt (-12))] lay M P := e_bipush rfl
set_option maxRecDepth 20000 in
theorem g227_98 {d : Nat} {a0 a1 a2 a3 a4 : Option Value} {s0 : Int32} {lay : List mShp} {M : mMem} {P : mPost} : mG (d) 227 98 [a0, a1, a2, a3, a4] [.int s0] lay M P = mG d 227 102 [a0, a1, a2, a3, a4] [.int s0] lay M P := e_goto rfl rfl
set_option maxRecDepth 20000 in
theorem g227_101 {d : Nat} {a0 a1 a2 a4 : Option Value} {x : Int32} {lay : List mShp} {M : mMem} {P : mPost} : mG (d) 227 101 [a0, a1, a2, some (.int x), a4] [] lay M P = mG d 227 102 [a0, a1, a2, some (.int x), a4] [.int x] lay M P := e_iload_n (i := 3) rfl rfl rfl
set_option maxRecDepth 20000 in
theorem g227_102 {d : Nat} {a0 a1 a2 a3 a4 : Option Value} {s0 : Int32} {lay : List mShp} {M : mMem} {P : mPost} : mG (d) 227 102 [a0, a1, a2, a3, a4] [.int s0] lay M P = P (some (.int s0)) lay M := e_ireturnI rfl rfl
-- 228 X10_count
theorem g228_in {d : Nat} {x0 : Nat} {x1 : Int32} {lay : List mShp} {M : mMem} {P : mPost} : mF d 228 [.ref x0, .int x1] lay M P = mG d 228 0 [some (.ref x0), some (.int x1)] [] lay M P := mF_in rfl rfl
set_option maxRecDepth 20000 in
theorem g228_0 {d : Nat} {a0 : Option Value} {x : Int32} {lay : List mShp} {M : mMem} {P : mPost} : mG (d) 228 0 [a0, some (.int x)] [] lay M P = mG d 228 1 [a0, some (.int x)] [.int x] lay M P := e_iload_n (i := 1) rfl rfl rfl
set_option maxRecDepth 20000 in
theorem g228_1_v0 {d : Nat} {a0 a1 : Option Value} {lay : List mShp} {M : mMem} {P : mPost} : mG (d) 228 1 [a0, a1] [.int (Int32.ofInt 0)] lay M P = mG d 228 40 [a0, a1] [] lay M P := e_tswitch (pc := 1) rfl (by decide +kernel)
set_option maxRecDepth 20000 in
theorem g228_1_v1 {d : Nat} {a0 a1 : Option Value} {lay : List mShp} {M : mMem} {P : mPost} : mG (d) 228 1 [a0, a1] [.int (Int32.ofInt 1)] lay M P = mG d 228 45 [a0, a1] [] lay M P := e_tswitch (pc := 1) rfl (by decide +kernel)
set_option maxRecDepth 20000 in
theorem g228_1_v2 {d : Nat} {a0 a1 : Option Value} {lay : List mShp} {M : mMem} {P : mPost} : mG (d) 228 1 [a0, a1] [.int (Int32.ofInt 2)] lay M P = mG d 228 53 [a0, a1] [] lay M P := e_tswitch (pc := 1) rfl (by decide +kernel)
set_option maxRecDepth 20000 in
theorem g228_1_v3 {d : Nat} {a0 a1 : Option Value} {lay : List mShp} {M : mMem} {P : mPost} : mG (d) 228 1 [a0, a1] [.int (Int32.ofInt 3)] lay M P = mG d 228 58 [a0, a1] [] lay M P := e_tswitch (pc := 1) rfl (by decide +kernel)
set_option maxRecDepth 20000 in
theorem g228_1_v4 {d : Nat} {a0 a1 : Option Value} {lay : List mShp} {M : mMem} {P : mPost} : mG (d) 228 1 [a0, a1] [.int (Int32.ofInt 4)] lay M P = mG d 228 63 [a0, a1] [] lay M P := e_tswitch (pc := 1) rfl (by decide +kernel)
set_option maxRecDepth 20000 in
theorem g228_1_v5 {d : Nat} {a0 a1 : Option Value} {lay : List mShp} {M : mMem} {P : mPost} : mG (d) 228 1 [a0, a1] [.int (Int32.ofInt 5)] lay M P = mG d 228 68 [a0, a1] [] lay M P := e_tswitch (pc := 1) rfl (by decide +kernel)
set_option maxRecDepth 20000 in
theorem g228_1_d {d : Nat} {a0 a1 : Option Value} {s0 : Int32} {lay : List mShp} {M : mMem} {P : mPost} (hd : mNotIn s0 [0, 1, 2, 3, 4, 5] = true) : mG (d) 228 1 [a0, a1] [.int s0] lay M P = mG d 228 73 [a0, a1] [] lay M P := by
  have hn := mNotIn_of hd
  refine e_tswitch (pc := 1) rfl ?_
  by_cases q : s0.toInt < 0 ∨ 5 < s0.toInt
  · rw [if_pos q]; rfl
  · rw [if_neg q]
    rcases (by omega : s0.toInt = 0 ∨ s0.toInt = 1 ∨ s0.toInt = 2 ∨ s0.toInt = 3 ∨ s0.toInt = 4 ∨ s0.toInt = 5) with q2 | q2 | q2 | q2 | q2 | q2
    · exact absurd q2 (hn 0 (by decide))
    · exact absurd q2 (hn 1 (by decide))
    · exact absurd q2 (hn 2 (by decide))
    · exact absurd q2 (hn 3 (by decide))
    · exact absurd q2 (hn 4 (by decide))
    · exact absurd q2 (hn 5 (by decide))
set_option maxRecDepth 20000 in
theorem g228_40 {d : Nat} {a1 : Option Value} {x : Nat} {lay : List mShp} {M : mMem} {P : mPost} (hx : ¬ x = 0) : mG (d) 228 40 [some (.ref x), a1] [] lay M P = mG d 228 41 [some (.ref x), a1] [.ref x] lay M P := e_aload_nP hx (i := 0) rfl rfl rfl
set_option maxRecDepth 20000 in
theorem g228_41 {d : Nat} {a0 a1 : Option Value} {s0 : Nat} {lay : List mShp} {M : mMem} {P : mPost} (hs : mSh lay s0 = some (13, 44)) : mG (d) 228 41 [a0, a1] [.ref s0] lay M P = mG d 228 44 [a0, a1] [.int (M.1 s0 2)] lay M P := mG_of_and (mIsO_of hs (by decide)) (e_getI (ci := 10) (j := 2) rfl rfl rfl)
set_option maxRecDepth 20000 in
theorem g228_44 {d : Nat} {a0 a1 : Option Value} {s0 : Int32} {lay : List mShp} {M : mMem} {P : mPost} : mG (d) 228 44 [a0, a1] [.int s0] lay M P = P (some (.int s0)) lay M := e_ireturnI rfl rfl
set_option maxRecDepth 20000 in
theorem g228_45 {d : Nat} {a1 : Option Value} {x : Nat} {lay : List mShp} {M : mMem} {P : mPost} (hx : ¬ x = 0) : mG (d) 228 45 [some (.ref x), a1] [] lay M P = mG d 228 46 [some (.ref x), a1] [.ref x] lay M P := e_aload_nP hx (i := 0) rfl rfl rfl
set_option maxRecDepth 20000 in
theorem g228_46 {d : Nat} {a0 a1 : Option Value} {s0 : Nat} {lay : List mShp} {M : mMem} {P : mPost} (hs : mSh lay s0 = some (13, 44)) : mG (d + 1) 228 46 [a0, a1] [.ref s0] lay M P = mF d 181 [.ref s0] lay M (fun v lay1 M1 => mG (d + 1) 228 49 [a0, a1] (v.toList ++ []) lay1 M1 P) := e_virtP0 (j := 181) (c := 10) rfl rfl rfl rfl rfl rfl hs (Nat.le_of_ble_eq_true rfl)
set_option maxRecDepth 20000 in
theorem g228_49 {d : Nat} {a0 a1 : Option Value} {s0 : Int32} {lay : List mShp} {M : mMem} {P : mPost} : mG (d + 1) 228 49 [a0, a1] [.int s0] lay M P = mF d 230 [.int s0] lay M (fun v lay1 M1 => mG (d + 1) 228 52 [a0, a1] (v.toList ++ []) lay1 M1 P) := e_static1 (j := 230) rfl rfl rfl rfl rfl (Nat.le_of_ble_eq_true rfl)
set_option maxRecDepth 20000 in
theorem g228_52 {d : Nat} {a0 a1 : Option Value} {s0 : Int32} {lay : List mShp} {M : mMem} {P : mPost} : mG (d) 228 52 [a0, a1] [.int s0] lay M P = P (some (.int s0)) lay M := e_ireturnI rfl rfl
set_option maxRecDepth 20000 in
theorem g228_53 {d : Nat} {a1 : Option Value} {x : Nat} {lay : List mShp} {M : mMem} {P : mPost} (hx : ¬ x = 0) : mG (d) 228 53 [some (.ref x), a1] [] lay M P = mG d 228 54 [some (.ref x), a1] [.ref x] lay M P := e_aload_nP hx (i := 0) rfl rfl rfl
set_option maxRecDepth 20000 in
theorem g228_54 {d : Nat} {a0 a1 : Option Value} {s0 : Nat} {lay : List mShp} {M : mMem} {P : mPost} (hs : mSh lay s0 = some (13, 44)) : mG (d) 228 54 [a0, a1] [.ref s0] lay M P = mG d 228 57 [a0, a1] [.int (M.1 s0 9)] lay M P := mG_of_and (mIsO_of hs (by decide)) (e_getI (ci := 10) (j := 9) rfl rfl rfl)
set_option maxRecDepth 20000 in
theorem g228_57 {d : Nat} {a0 a1 : Option Value} {s0 : Int32} {lay : List mShp} {M : mMem} {P : mPost} : mG (d) 228 57 [a0, a1] [.int s0] lay M P = P (some (.int s0)) lay M := e_ireturnI rfl rfl
set_option maxRecDepth 20000 in
theorem g228_58 {d : Nat} {a1 : Option Value} {x : Nat} {lay : List mShp} {M : mMem} {P : mPost} (hx : ¬ x = 0) : mG (d) 228 58 [some (.ref x), a1] [] lay M P = mG d 228 59 [some (.ref x), a1] [.ref x] lay M P := e_aload_nP hx (i := 0) rfl rfl rfl
set_option maxRecDepth 20000 in
theorem g228_59 {d : Nat} {a0 a1 : Option Value} {s0 : Nat} {lay : List mShp} {M : mMem} {P : mPost} (hs : mSh lay s0 = some (13, 44)) : mG (d) 228 59 [a0, a1] [.ref s0] lay M P = mG d 228 62 [a0, a1] [.int (M.1 s0 6)] lay M P := mG_of_and (mIsO_of hs (by decide)) (e_getI (ci := 10) (j := 6) rfl rfl rfl)
set_option maxRecDepth 20000 in
theorem g228_62 {d : Nat} {a0 a1 : Option Value} {s0 : Int32} {lay : List mShp} {M : mMem} {P : mPost} : mG (d) 228 62 [a0, a1] [.int s0] lay M P = P (some (.int s0)) lay M := e_ireturnI rfl rfl
set_option maxRecDepth 20000 in
theorem g228_63 {d : Nat} {a1 : Option Value} {x : Nat} {lay : List mShp} {M : mMem} {P : mPost} (hx : ¬ x = 0) : mG (d) 228 63 [some (.ref x), a1] [] lay M P = mG d 228 64 [some (.ref x), a1] [.ref x] lay M P := e_aload_nP hx (i := 0) rfl rfl rfl
set_option maxRecDepth 20000 in
theorem g228_64 {d : Nat} {a0 a1 : Option Value} {s0 : Nat} {lay : List mShp} {M : mMem} {P : mPost} (hs : mSh lay s0 = some (13, 44)) : mG (d) 228 64 [a0, a1] [.ref s0] lay M P = mG d 228 67 [a0, a1] [.int (M.1 s0 41)] lay M P := mG_of_and (mIsO_of hs (by decide)) (e_getI (ci := 10) (j := 41) rfl rfl rfl)
set_option maxRecDepth 20000 in
theorem g228_67 {d : Nat} {a0 a1 : Option Value} {s0 : Int32} {lay : List mShp} {M : mMem} {P : mPost} : mG (d) 228 67 [a0, a1] [.int s0] lay M P = P (some (.int s0)) lay M := e_ireturnI rfl rfl
set_option maxRecDepth 20000 in
theorem g228_68 {d : Nat} {a1 : Option Value} {x : Nat} {lay : List mShp} {M : mMem} {P : mPost} (hx : ¬ x = 0) : mG (d) 228 68 [some (.ref x), a1] [] lay M P = mG d 228 69 [some (.ref x), a1] [.ref x] lay M P := e_aload_nP hx (i := 0) rfl rfl rfl
set_option maxRecDepth 20000 in
theorem g228_69 {d : Nat} {a0 a1 : Option Value} {s0 : Nat} {lay : List mShp} {M : mMem} {P : mPost} (hs : mSh lay s0 = some (13, 44)) : mG (d) 228 69 [a0, a1] [.ref s0] lay M P = mG d 228 72 [a0, a1] [.int (M.1 s0 43)] lay M P := mG_of_and (mIsO_of hs (by decide)) (e_getI (ci := 10) (j := 43) rfl rfl rfl)
set_option maxRecDepth 20000 in
theorem g228_72 {d : Nat} {a0 a1 : Option Value} {s0 : Int32} {lay : List mShp} {M : mMem} {P : mPost} : mG (d) 228 72 [a0, a1] [.int s0] lay M P = P (some (.int s0)) lay M := e_ireturnI rfl rfl
set_option maxRecDepth 20000 in
theorem g228_73 {d : Nat} {a0 a1 : Option Value} {lay : List mShp} {M : mMem} {P : mPost} : mG (d) 228 73 [a0, a1] [] lay M P = mG d 228 74 [a0, a1] [.int (Int32.ofInt (-1))] lay M P := e_iconst rfl
set_option maxRecDepth 20000 in
theorem g228_74 {d : Nat} {a0 a1 : Option Value} {s0 : Int32} {lay : List mShp} {M : mMem} {P : mPost} : mG (d) 228 74 [a0, a1] [.int s0] lay M P = P (some (.int s0)) lay M := e_ireturnI rfl rfl
