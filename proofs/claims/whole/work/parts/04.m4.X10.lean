set_option maxRecDepth 20000 in
theorem g204_98 {d : Nat} {a0 a1 a2 a3 a4 a5 a6 : Option Value} {s0 : Int64} {lay : List mShp} {M : mMem} {P : mPost} : mG (d) 204 98 [a0, a1, a2, a3, a4, a5, a6] [.long s0] lay M P = mG d 204 101 [a0, a1, a2, a3, a4, a5, a6] [.long (Int64.ofInt 3), .long s0] lay M P := e_ldc2_w rfl rfl
set_option maxRecDepth 20000 in
theorem g204_101 {d : Nat} {a0 a1 a2 a3 a4 a5 a6 : Option Value} {s0 : Int64} {s1 : Int64} {lay : List mShp} {M : mMem} {P : mPost} : mG (d) 204 101 [a0, a1, a2, a3, a4, a5, a6] [.long s0, .long s1] lay M P = mG d 204 102 [a0, a1, a2, a3, a4, a5, a6] [.long (s1 * s0)] lay M P := e_lmul rfl
set_option maxRecDepth 20000 in
theorem g204_102 {d : Nat} {a0 a1 a2 a3 a4 a5 a6 : Option Value} {s0 : Int64} {lay : List mShp} {M : mMem} {P : mPost} (h0 : mNoL a3 = true) : mG (d) 204 102 [a0, a1, a2, a3, a4, a5, a6] [.long s0] lay M P = mG d 204 104 [a0, a1, a2, a3, some (.long s0), none, a6] [] lay M P := e_lstore (i := 4) rfl (by simp) (mS2_4 h0)
set_option maxRecDepth 20000 in
theorem g204_104 {d : Nat} {a0 a1 a2 a3 a4 a5 : Option Value} {x : Int32} {lay : List mShp} {M : mMem} {P : mPost} (h0 : mNoL a5 = true) : mG (d) 204 104 [a0, a1, a2, a3, a4, a5, some (.int x)] [] lay M P = mG d 204 107 [a0, a1, a2, a3, a4, a5, some (.int (x + Int32.ofInt 1))] [] lay M P := e_iinc (n := 6) rfl rfl (mS1_6 h0)
set_option maxRecDepth 20000 in
theorem g204_107 {d : Nat} {a0 a1 a2 a3 a4 a5 a6 : Option Value} {lay : List mShp} {M : mMem} {P : mPost} : mG (d) 204 107 [a0, a1, a2, a3, a4, a5, a6] [] lay M P = mG d 204 87 [a0, a1, a2, a3, a4, a5, a6] [] lay M P := e_goto rfl rfl
set_option maxRecDepth 20000 in
theorem g204_110 {d : Nat} {a0 a1 a3 a4 a5 a6 : Option Value} {x : Int32} {lay : List mShp} {M : mMem} {P : mPost} : mG (d) 204 110 [a0, a1, some (.int x), a3, a4, a5, a6] [] lay M P = mG d 204 111 [a0, a1, some (.int x), a3, a4, a5, a6] [.int x] lay M P := e_iload_n (i := 2) rfl rfl rfl
set_option maxRecDepth 20000 in
theorem g204_111 {d : Nat} {a0 a1 a2 a3 a4 a5 a6 : Option Value} {s0 : Int32} {lay : List mShp} {M : mMem} {P : mPost} : mG (d) 204 111 [a0, a1, a2, a3, a4, a5, a6] [.int s0] lay M P = mG d 204 112 [a0, a1, a2, a3, a4, a5, a6] [.int (Int32.ofInt 1), .int s0] lay M P := e_iconst rfl
set_option maxRecDepth 20000 in
theorem g204_112 {d : Nat} {a0 a1 a2 a3 a4 a5 a6 : Option Value} {s0 : Int32} {s1 : Int32} {lay : List mShp} {M : mMem} {P : mPost} : mG (d) 204 112 [a0, a1, a2, a3, a4, a5, a6] [.int s0, .int s1] lay M P = if s1 = s0 then mG d 204 115 [a0, a1, a2, a3, a4, a5, a6] [] lay M P else mG d 204 122 [a0, a1, a2, a3, a4, a5, a6] [] lay M P := e_icmp_ne rfl rfl
set_option maxRecDepth 20000 in
theorem g204_115 {d : Nat} {a0 a1 a2 a3 a5 a6 : Option Value} {x : Int64} {lay : List mShp} {M : mMem} {P : mPost} : mG (d) 204 115 [a0, a1, a2, a3, some (.long x), a5, a6] [] lay M P = mG d 204 117 [a0, a1, a2, a3, some (.long x), a5, a6] [.long x] lay M P := e_lload (i := 4) rfl rfl
set_option maxRecDepth 20000 in
theorem g204_117 {d : Nat} {a0 a1 a2 a3 a4 a5 a6 : Option Value} {s0 : Int64} {lay : List mShp} {M : mMem} {P : mPost} : mG (d) 204 117 [a0, a1, a2, a3, a4, a5, a6] [.long s0] lay M P = mG d 204 118 [a0, a1, a2, a3, a4, a5, a6] [.long (Int64.ofNat 1), .long s0] lay M P := e_lconst (n := 1) rfl
set_option maxRecDepth 20000 in
theorem g204_118 {d : Nat} {a0 a1 a2 a3 a4 a5 a6 : Option Value} {s0 : Int64} {s1 : Int64} {lay : List mShp} {M : mMem} {P : mPost} : mG (d) 204 118 [a0, a1, a2, a3, a4, a5, a6] [.long s0, .long s1] lay M P = mG d 204 119 [a0, a1, a2, a3, a4, a5, a6] [.long (s1 + s0)] lay M P := e_ladd rfl
set_option maxRecDepth 20000 in
theorem g204_119 {d : Nat} {a0 a1 a2 a3 a4 a5 a6 : Option Value} {s0 : Int64} {lay : List mShp} {M : mMem} {P : mPost} : mG (d) 204 119 [a0, a1, a2, a3, a4, a5, a6] [.long s0] lay M P = mG d 204 132 [a0, a1, a2, a3, a4, a5, a6] [.long s0] lay M P := e_goto rfl rfl
set_option maxRecDepth 20000 in
theorem g204_122 {d : Nat} {a0 a1 a2 a4 a5 a6 : Option Value} {x : Int32} {lay : List mShp} {M : mMem} {P : mPost} : mG (d) 204 122 [a0, a1, a2, some (.int x), a4, a5, a6] [] lay M P = mG d 204 123 [a0, a1, a2, some (.int x), a4, a5, a6] [.int x] lay M P := e_iload_n (i := 3) rfl rfl rfl
set_option maxRecDepth 20000 in
theorem g204_123 {d : Nat} {a0 a1 a2 a3 a4 a5 a6 : Option Value} {s0 : Int32} {lay : List mShp} {M : mMem} {P : mPost} : mG (d) 204 123 [a0, a1, a2, a3, a4, a5, a6] [.int s0] lay M P = if s0 < 0 then mG d 204 131 [a0, a1, a2, a3, a4, a5, a6] [] lay M P else mG d 204 126 [a0, a1, a2, a3, a4, a5, a6] [] lay M P := e_if_lt rfl rfl
set_option maxRecDepth 20000 in
theorem g204_126 {d : Nat} {a0 a1 a2 a3 a5 a6 : Option Value} {x : Int64} {lay : List mShp} {M : mMem} {P : mPost} : mG (d) 204 126 [a0, a1, a2, a3, some (.long x), a5, a6] [] lay M P = mG d 204 128 [a0, a1, a2, a3, some (.long x), a5, a6] [.long x] lay M P := e_lload (i := 4) rfl rfl
set_option maxRecDepth 20000 in
theorem g204_128 {d : Nat} {a0 a1 a2 a3 a4 a5 a6 : Option Value} {s0 : Int64} {lay : List mShp} {M : mMem} {P : mPost} : mG (d) 204 128 [a0, a1, a2, a3, a4, a5, a6] [.long s0] lay M P = mG d 204 132 [a0, a1, a2, a3, a4, a5, a6] [.long s0] lay M P := e_goto rfl rfl
set_option maxRecDepth 20000 in
theorem g204_131 {d : Nat} {a0 a1 a2 a3 a4 a5 a6 : Option Value} {lay : List mShp} {M : mMem} {P : mPost} : mG (d) 204 131 [a0, a1, a2, a3, a4, a5, a6] [] lay M P = mG d 204 132 [a0, a1, a2, a3, a4, a5, a6] [.long (Int64.ofNat 1)] lay M P := e_lconst (n := 1) rfl
set_option maxRecDepth 20000 in
theorem g204_132 {d : Nat} {a0 a1 a2 a3 a4 a5 a6 : Option Value} {s0 : Int64} {lay : List mShp} {M : mMem} {P : mPost} : mG (d) 204 132 [a0, a1, a2, a3, a4, a5, a6] [.long s0] lay M P = P (some (.long s0)) lay M := e_lreturn rfl rfl
-- 205 X10_paid
theorem g205_in {d : Nat} {x0 : Nat} {x1 : Int32} {x2 : Int32} {lay : List mShp} {M : mMem} {P : mPost} : mF d 205 [.ref x0, .int x1, .int x2] lay M P = mG d 205 0 [some (.ref x0), some (.int x1), some (.int x2), none, none, none, none] [] lay M P := mF_in rfl rfl
set_option maxRecDepth 20000 in
theorem g205_0 {d : Nat} {a1 a2 a3 a4 a5 a6 : Option Value} {x : Nat} {lay : List mShp} {M : mMem} {P : mPost} (hx : ¬ x = 0) : mG (d) 205 0 [some (.ref x), a1, a2, a3, a4, a5, a6] [] lay M P = mG d 205 1 [some (.ref x), a1, a2, a3, a4, a5, a6] [.ref x] lay M P := e_aload_nP hx (i := 0) rfl rfl rfl
set_option maxRecDepth 20000 in
theorem g205_1 {d : Nat} {a0 a2 a3 a4 a5 a6 : Option Value} {s0 : Nat} {x : Int32} {lay : List mShp} {M : mMem} {P : mPost} : mG (d) 205 1 [a0, some (.int x), a2, a3, a4, a5, a6] [.ref s0] lay M P = mG d 205 2 [a0, some (.int x), a2, a3, a4, a5, a6] [.int x, .ref s0] lay M P := e_iload_n (i := 1) rfl rfl rfl
set_option maxRecDepth 20000 in
theorem g205_2 {d : Nat} {a0 a1 a2 a3 a4 a5 a6 : Option Value} {s0 : Int32} {s1 : Nat} {lay : List mShp} {M : mMem} {P : mPost} (hs : mSh lay s1 = some (13, 44)) : mG (d + 1) 205 2 [a0, a1, a2, a3, a4, a5, a6] [.int s0, .ref s1] lay M P = mF d 151 [.ref s1, .int s0] lay M (fun v lay1 M1 => mG (d + 1) 205 5 [a0, a1, a2, a3, a4, a5, a6] (v.toList ++ []) lay1 M1 P) := e_virtP1 (j := 151) (c := 10) rfl rfl rfl rfl rfl rfl hs (Nat.le_of_ble_eq_true rfl)
set_option maxRecDepth 20000 in
theorem g205_5 {d : Nat} {a0 a1 a2 a3 a4 a5 a6 : Option Value} {s0 : Int32} {lay : List mShp} {M : mMem} {P : mPost} : mG (d) 205 5 [a0, a1, a2, a3, a4, a5, a6] [.int s0] lay M P = if s0 = 0 then mG d 205 19 [a0, a1, a2, a3, a4, a5, a6] [] lay M P else mG d 205 8 [a0, a1, a2, a3, a4, a5, a6] [] lay M P := e_if_eq rfl rfl
set_option maxRecDepth 20000 in
theorem g205_8 {d : Nat} {a0 a1 a3 a4 a5 a6 : Option Value} {x : Int32} {lay : List mShp} {M : mMem} {P : mPost} : mG (d) 205 8 [a0, a1, some (.int x), a3, a4, a5, a6] [] lay M P = mG d 205 9 [a0, a1, some (.int x), a3, a4, a5, a6] [.int x] lay M P := e_iload_n (i := 2) rfl rfl rfl
set_option maxRecDepth 20000 in
theorem g205_9 {d : Nat} {a0 a1 a2 a3 a4 a5 a6 : Option Value} {s0 : Int32} {lay : List mShp} {M : mMem} {P : mPost} : mG (d) 205 9 [a0, a1, a2, a3, a4, a5, a6] [.int s0] lay M P = mG d 205 10 [a0, a1, a2, a3, a4, a5, a6] [.int (Int32.ofInt 0), .int s0] lay M P := e_iconst rfl
set_option maxRecDepth 20000 in
theorem g205_10 {d : Nat} {a0 a1 a2 a3 a4 a5 a6 : Option Value} {s0 : Int32} {s1 : Int32} {lay : List mShp} {M : mMem} {P : mPost} : mG (d) 205 10 [a0, a1, a2, a3, a4, a5, a6] [.int s0, .int s1] lay M P = mG d 205 13 [a0, a1, a2, a3, a4, a5, a6] [.int (Int32.ofInt 9999), .int s0, .int s1] lay M P := e_sipush rfl
set_option maxRecDepth 20000 in
theorem g205_13 {d : Nat} {a0 a1 a2 a3 a4 a5 a6 : Option Value} {s0 : Int32} {s1 : Int32} {s2 : Int32} {lay : List mShp} {M : mMem} {P : mPost} : mG (d + 1) 205 13 [a0, a1, a2, a3, a4, a5, a6] [.int s0, .int s1, .int s2] lay M P = mF d 146 [.int s2, .int s1, .int s0] lay M (fun v lay1 M1 => mG (d + 1) 205 16 [a0, a1, a2, a3, a4, a5, a6] (v.toList ++ []) lay1 M1 P) := e_static3 (j := 146) rfl rfl rfl rfl rfl (Nat.le_of_ble_eq_true rfl)
set_option maxRecDepth 20000 in
theorem g205_16 {d : Nat} {a0 a1 a2 a3 a4 a5 a6 : Option Value} {s0 : Int32} {lay : List mShp} {M : mMem} {P : mPost} : mG (d) 205 16 [a0, a1, a2, a3, a4, a5, a6] [.int s0] lay M P = if s0 = 0 then mG d 205 19 [a0, a1, a2, a3, a4, a5, a6] [] lay M P else mG d 205 21 [a0, a1, a2, a3, a4, a5, a6] [] lay M P := e_if_ne rfl rfl
set_option maxRecDepth 20000 in
theorem g205_19 {d : Nat} {a0 a1 a2 a3 a4 a5 a6 : Option Value} {lay : List mShp} {M : mMem} {P : mPost} : mG (d) 205 19 [a0, a1, a2, a3, a4, a5, a6] [] lay M P = mG d 205 20 [a0, a1, a2, a3, a4, a5, a6] [.int (Int32.ofInt (-1))] lay M P := e_iconst rfl
set_option maxRecDepth 20000 in
theorem g205_20 {d : Nat} {a0 a1 a2 a3 a4 a5 a6 : Option Value} {s0 : Int32} {lay : List mShp} {M : mMem} {P : mPost} : mG (d) 205 20 [a0, a1, a2, a3, a4, a5, a6] [.int s0] lay M P = P (some (.int s0)) lay M := e_ireturnI rfl rfl
set_option maxRecDepth 20000 in
theorem g205_21 {d : Nat} {a0 a1 a2 a3 a4 a5 a6 : Option Value} {lay : List mShp} {M : mMem} {P : mPost} : mG (d) 205 21 [a0, a1, a2, a3, a4, a5, a6] [] lay M P = mG d 205 22 [a0, a1, a2, a3, a4, a5, a6] [.int (Int32.ofInt 0)] lay M P := e_iconst rfl
set_option maxRecDepth 20000 in
theorem g205_22 {d : Nat} {a0 a1 a2 a3 a4 a5 a6 : Option Value} {s0 : Int32} {lay : List mShp} {M : mMem} {P : mPost} (h0 : mNoL a2 = true) : mG (d) 205 22 [a0, a1, a2, a3, a4, a5, a6] [.int s0] lay M P = mG d 205 23 [a0, a1, a2, some (.int s0), a4, a5, a6] [] lay M P := e_istore_n (i := 3) rfl rfl (by simp) (mS1_3 h0)
set_option maxRecDepth 20000 in
theorem g205_23 {d : Nat} {a0 a1 a2 a3 a4 a5 a6 : Option Value} {lay : List mShp} {M : mMem} {P : mPost} : mG (d) 205 23 [a0, a1, a2, a3, a4, a5, a6] [] lay M P = mG d 205 24 [a0, a1, a2, a3, a4, a5, a6] [.int (Int32.ofInt 0)] lay M P := e_iconst rfl
set_option maxRecDepth 20000 in
theorem g205_24 {d : Nat} {a0 a1 a2 a3 a4 a5 a6 : Option Value} {s0 : Int32} {lay : List mShp} {M : mMem} {P : mPost} (h0 : mNoL a3 = true) : mG (d) 205 24 [a0, a1, a2, a3, a4, a5, a6] [.int s0] lay M P = mG d 205 26 [a0, a1, a2, a3, some (.int s0), a5, a6] [] lay M P := e_istore (i := 4) rfl (by simp) (mS1_4 h0)
set_option maxRecDepth 20000 in
theorem g205_26 {d : Nat} {a0 a1 a2 a3 a4 a5 a6 : Option Value} {lay : List mShp} {M : mMem} {P : mPost} : mG (d) 205 26 [a0, a1, a2, a3, a4, a5, a6] [] lay M P = mG d 205 27 [a0, a1, a2, a3, a4, a5, a6] [.int (Int32.ofInt 0)] lay M P := e_iconst rfl
set_option maxRecDepth 20000 in
theorem g205_27 {d : Nat} {a0 a1 a2 a3 a4 a5 a6 : Option Value} {s0 : Int32} {lay : List mShp} {M : mMem} {P : mPost} (h0 : mNoL a4 = true) : mG (d) 205 27 [a0, a1, a2, a3, a4, a5, a6] [.int s0] lay M P = mG d 205 29 [a0, a1, a2, a3, a4, some (.int s0), a6] [] lay M P := e_istore (i := 5) rfl (by simp) (mS1_5 h0)
set_option maxRecDepth 20000 in
theorem g205_29 {d : Nat} {a0 a1 a2 a3 a4 a6 : Option Value} {x : Int32} {lay : List mShp} {M : mMem} {P : mPost} : mG (d) 205 29 [a0, a1, a2, a3, a4, some (.int x), a6] [] lay M P = mG d 205 31 [a0, a1, a2, a3, a4, some (.int x), a6] [.int x] lay M P := e_iload (i := 5) rfl rfl
set_option maxRecDepth 20000 in
theorem g205_31 {d : Nat} {a1 a2 a3 a4 a5 a6 : Option Value} {s0 : Int32} {x : Nat} {lay : List mShp} {M : mMem} {P : mPost} (hx : ¬ x = 0) : mG (d) 205 31 [some (.ref x), a1, a2, a3, a4, a5, a6] [.int s0] lay M P = mG d 205 32 [some (.ref x), a1, a2, a3, a4, a5, a6] [.ref x, .int s0] lay M P := e_aload_nP hx (i := 0) rfl rfl rfl
set_option maxRecDepth 20000 in
theorem g205_32 {d : Nat} {a0 a1 a2 a3 a4 a5 a6 : Option Value} {s0 : Nat} {s1 : Int32} {lay : List mShp} {M : mMem} {P : mPost} (hs : mSh lay s0 = some (13, 44)) : mG (d) 205 32 [a0, a1, a2, a3, a4, a5, a6] [.ref s0, .int s1] lay M P = mG d 205 35 [a0, a1, a2, a3, a4, a5, a6] [.int (M.1 s0 2), .int s1] lay M P := mG_of_and (mIsO_of hs (by decide)) (e_getI (ci := 10) (j := 2) rfl rfl rfl)
set_option maxRecDepth 20000 in
theorem g205_35 {d : Nat} {a0 a1 a2 a3 a4 a5 a6 : Option Value} {s0 : Int32} {s1 : Int32} {lay : List mShp} {M : mMem} {P : mPost} : mG (d) 205 35 [a0, a1, a2, a3, a4, a5, a6] [.int s0, .int s1] lay M P = if s1 < s0 then mG d 205 38 [a0, a1, a2, a3, a4, a5, a6] [] lay M P else mG d 205 121 [a0, a1, a2, a3, a4, a5, a6] [] lay M P := e_icmp_ge rfl rfl
set_option maxRecDepth 20000 in
theorem g205_38 {d : Nat} {a1 a2 a3 a4 a5 a6 : Option Value} {x : Nat} {lay : List mShp} {M : mMem} {P : mPost} (hx : ¬ x = 0) : mG (d) 205 38 [some (.ref x), a1, a2, a3, a4, a5, a6] [] lay M P = mG d 205 39 [some (.ref x), a1, a2, a3, a4, a5, a6] [.ref x] lay M P := e_aload_nP hx (i := 0) rfl rfl rfl
set_option maxRecDepth 20000 in
theorem g205_39 {d : Nat} {a0 a1 a2 a3 a4 a6 : Option Value} {s0 : Nat} {x : Int32} {lay : List mShp} {M : mMem} {P : mPost} : mG (d) 205 39 [a0, a1, a2, a3, a4, some (.int x), a6] [.ref s0] lay M P = mG d 205 41 [a0, a1, a2, a3, a4, some (.int x), a6] [.int x, .ref s0] lay M P := e_iload (i := 5) rfl rfl
set_option maxRecDepth 20000 in
theorem g205_41 {d : Nat} {a0 a1 a2 a3 a4 a5 a6 : Option Value} {s0 : Int32} {s1 : Nat} {lay : List mShp} {M : mMem} {P : mPost} : mG (d) 205 41 [a0, a1, a2, a3, a4, a5, a6] [.int s0, .ref s1] lay M P = mG d 205 42 [a0, a1, a2, a3, a4, a5, a6] [.int (Int32.ofInt 4), .int s0, .ref s1] lay M P := e_iconst rfl
set_option maxRecDepth 20000 in
theorem g205_42 {d : Nat} {a0 a1 a2 a3 a4 a5 a6 : Option Value} {s0 : Int32} {s1 : Int32} {s2 : Nat} {lay : List mShp} {M : mMem} {P : mPost} (hs : mSh lay s2 = some (13, 44)) : mG (d + 1) 205 42 [a0, a1, a2, a3, a4, a5, a6] [.int s0, .int s1, .ref s2] lay M P = mF d 152 [.ref s2, .int s1, .int s0] lay M (fun v lay1 M1 => mG (d + 1) 205 45 [a0, a1, a2, a3, a4, a5, a6] (v.toList ++ []) lay1 M1 P) := e_virtP2 (j := 152) (c := 10) rfl rfl rfl rfl rfl rfl hs (Nat.le_of_ble_eq_true rfl)
set_option maxRecDepth 20000 in
theorem g205_45 {d : Nat} {a0 a1 a2 a3 a4 a5 a6 : Option Value} {s0 : Int32} {lay : List mShp} {M : mMem} {P : mPost} : mG (d) 205 45 [a0, a1, a2, a3, a4, a5, a6] [.int s0] lay M P = mG d 205 46 [a0, a1, a2, a3, a4, a5, a6] [.int (Int32.ofInt (-1)), .int s0] lay M P := e_iconst rfl
set_option maxRecDepth 20000 in
theorem g205_46 {d : Nat} {a0 a1 a2 a3 a4 a5 a6 : Option Value} {s0 : Int32} {s1 : Int32} {lay : List mShp} {M : mMem} {P : mPost} : mG (d) 205 46 [a0, a1, a2, a3, a4, a5, a6] [.int s0, .int s1] lay M P = if s1 = s0 then mG d 205 68 [a0, a1, a2, a3, a4, a5, a6] [] lay M P else mG d 205 49 [a0, a1, a2, a3, a4, a5, a6] [] lay M P := e_icmp_eq rfl rfl
set_option maxRecDepth 20000 in
theorem g205_49 {d : Nat} {a1 a2 a3 a4 a5 a6 : Option Value} {x : Nat} {lay : List mShp} {M : mMem} {P : mPost} (hx : ¬ x = 0) : mG (d) 205 49 [some (.ref x), a1, a2, a3, a4, a5, a6] [] lay M P = mG d 205 50 [some (.ref x), a1, a2, a3, a4, a5, a6] [.ref x] lay M P := e_aload_nP hx (i := 0) rfl rfl rfl
set_option maxRecDepth 20000 in
theorem g205_50 {d : Nat} {a1 a2 a3 a4 a5 a6 : Option Value} {s0 : Nat} {x : Nat} {lay : List mShp} {M : mMem} {P : mPost} (hx : ¬ x = 0) : mG (d) 205 50 [some (.ref x), a1, a2, a3, a4, a5, a6] [.ref s0] lay M P = mG d 205 51 [some (.ref x), a1, a2, a3, a4, a5, a6] [.ref x, .ref s0] lay M P := e_aload_nP hx (i := 0) rfl rfl rfl
set_option maxRecDepth 20000 in
theorem g205_51 {d : Nat} {a0 a1 a2 a3 a4 a6 : Option Value} {s0 : Nat} {s1 : Nat} {x : Int32} {lay : List mShp} {M : mMem} {P : mPost} : mG (d) 205 51 [a0, a1, a2, a3, a4, some (.int x), a6] [.ref s0, .ref s1] lay M P = mG d 205 53 [a0, a1, a2, a3, a4, some (.int x), a6] [.int x, .ref s0, .ref s1] lay M P := e_iload (i := 5) rfl rfl
set_option maxRecDepth 20000 in
theorem g205_53 {d : Nat} {a0 a1 a2 a3 a4 a5 a6 : Option Value} {s0 : Int32} {s1 : Nat} {s2 : Nat} {lay : List mShp} {M : mMem} {P : mPost} : mG (d) 205 53 [a0, a1, a2, a3, a4, a5, a6] [.int s0, .ref s1, .ref s2] lay M P = mG d 205 54 [a0, a1, a2, a3, a4, a5, a6] [.int (Int32.ofInt 4), .int s0, .ref s1, .ref s2] lay M P := e_iconst rfl
set_option maxRecDepth 20000 in
theorem g205_54 {d : Nat} {a0 a1 a2 a3 a4 a5 a6 : Option Value} {s0 : Int32} {s1 : Int32} {s2 : Nat} {s3 : Nat} {lay : List mShp} {M : mMem} {P : mPost} (hs : mSh lay s2 = some (13, 44)) : mG (d + 1) 205 54 [a0, a1, a2, a3, a4, a5, a6] [.int s0, .int s1, .ref s2, .ref s3] lay M P = mF d 152 [.ref s2, .int s1, .int s0] lay M (fun v lay1 M1 => mG (d + 1) 205 57 [a0, a1, a2, a3, a4, a5, a6] (v.toList ++ [.ref s3]) lay1 M1 P) := e_virtP2 (j := 152) (c := 10) rfl rfl rfl rfl rfl rfl hs (Nat.le_of_ble_eq_true rfl)
set_option maxRecDepth 20000 in
theorem g205_57 {d : Nat} {a0 a1 a2 a3 a4 a5 a6 : Option Value} {s0 : Int32} {s1 : Nat} {lay : List mShp} {M : mMem} {P : mPost} (hs : mSh lay s1 = some (13, 44)) : mG (d + 1) 205 57 [a0, a1, a2, a3, a4, a5, a6] [.int s0, .ref s1] lay M P = mF d 176 [.ref s1, .int s0] lay M (fun v lay1 M1 => mG (d + 1) 205 60 [a0, a1, a2, a3, a4, a5, a6] (v.toList ++ []) lay1 M1 P) := e_virtP1 (j := 176) (c := 10) rfl rfl rfl rfl rfl rfl hs (Nat.le_of_ble_eq_true rfl)
set_option maxRecDepth 20000 in
theorem g205_60 {d : Nat} {a0 a1 a2 a3 a4 a5 a6 : Option Value} {s0 : Int32} {lay : List mShp} {M : mMem} {P : mPost} : mG (d) 205 60 [a0, a1, a2, a3, a4, a5, a6] [.int s0] lay M P = mG d 205 61 [a0, a1, a2, a3, a4, a5, a6] [.int (Int32.ofInt 1), .int s0] lay M P := e_iconst rfl
set_option maxRecDepth 20000 in
theorem g205_61 {d : Nat} {a0 a1 a2 a3 a4 a5 a6 : Option Value} {s0 : Int32} {s1 : Int32} {lay : List mShp} {M : mMem} {P : mPost} : mG (d) 205 61 [a0, a1, a2, a3, a4, a5, a6] [.int s0, .int s1] lay M P = if s1 = s0 then mG d 205 64 [a0, a1, a2, a3, a4, a5, a6] [] lay M P else mG d 205 68 [a0, a1, a2, a3, a4, a5, a6] [] lay M P := e_icmp_ne rfl rfl
set_option maxRecDepth 20000 in
theorem g205_64 {d : Nat} {a0 a1 a2 a3 a4 a5 a6 : Option Value} {lay : List mShp} {M : mMem} {P : mPost} : mG (d) 205 64 [a0, a1, a2, a3, a4, a5, a6] [] lay M P = mG d 205 65 [a0, a1, a2, a3, a4, a5, a6] [.int (Int32.ofInt 1)] lay M P := e_iconst rfl
set_option maxRecDepth 20000 in
theorem g205_65 {d : Nat} {a0 a1 a2 a3 a4 a5 a6 : Option Value} {s0 : Int32} {lay : List mShp} {M : mMem} {P : mPost} : mG (d) 205 65 [a0, a1, a2, a3, a4, a5, a6] [.int s0] lay M P = mG d 205 69 [a0, a1, a2, a3, a4, a5, a6] [.int s0] lay M P := e_goto rfl rfl
set_option maxRecDepth 20000 in
theorem g205_68 {d : Nat} {a0 a1 a2 a3 a4 a5 a6 : Option Value} {lay : List mShp} {M : mMem} {P : mPost} : mG (d) 205 68 [a0, a1, a2, a3, a4, a5, a6] [] lay M P = mG d 205 69 [a0, a1, a2, a3, a4, a5, a6] [.int (Int32.ofInt 0)] lay M P := e_iconst rfl
set_option maxRecDepth 20000 in
theorem g205_69 {d : Nat} {a0 a1 a2 a3 a4 a5 a6 : Option Value} {s0 : Int32} {lay : List mShp} {M : mMem} {P : mPost} (h0 : mNoL a5 = true) : mG (d) 205 69 [a0, a1, a2, a3, a4, a5, a6] [.int s0] lay M P = mG d 205 71 [a0, a1, a2, a3, a4, a5, some (.int s0)] [] lay M P := e_istore (i := 6) rfl (by simp) (mS1_6 h0)
set_option maxRecDepth 20000 in
theorem g205_71 {d : Nat} {a0 a1 a2 a4 a5 a6 : Option Value} {x : Int32} {lay : List mShp} {M : mMem} {P : mPost} : mG (d) 205 71 [a0, a1, a2, some (.int x), a4, a5, a6] [] lay M P = mG d 205 72 [a0, a1, a2, some (.int x), a4, a5, a6] [.int x] lay M P := e_iload_n (i := 3) rfl rfl rfl
set_option maxRecDepth 20000 in
theorem g205_72 {d : Nat} {a0 a1 a2 a3 a4 a5 : Option Value} {s0 : Int32} {x : Int32} {lay : List mShp} {M : mMem} {P : mPost} : mG (d) 205 72 [a0, a1, a2, a3, a4, a5, some (.int x)] [.int s0] lay M P = mG d 205 74 [a0, a1, a2, a3, a4, a5, some (.int x)] [.int x, .int s0] lay M P := e_iload (i := 6) rfl rfl
set_option maxRecDepth 20000 in
theorem g205_74 {d : Nat} {a0 a1 a2 a3 a4 a5 a6 : Option Value} {s0 : Int32} {s1 : Int32} {lay : List mShp} {M : mMem} {P : mPost} : mG (d) 205 74 [a0, a1, a2, a3, a4, a5, a6] [.int s0, .int s1] lay M P = if s0 = 0 then mG d 205 87 [a0, a1, a2, a3, a4, a5, a6] [.int s1] lay M P else mG d 205 77 [a0, a1, a2, a3, a4, a5, a6] [.int s1] lay M P := e_if_eq rfl rfl
set_option maxRecDepth 20000 in
theorem g205_77 {d : Nat} {a1 a2 a3 a4 a5 a6 : Option Value} {s0 : Int32} {x : Nat} {lay : List mShp} {M : mMem} {P : mPost} (hx : ¬ x = 0) : mG (d) 205 77 [some (.ref x), a1, a2, a3, a4, a5, a6] [.int s0] lay M P = mG d 205 78 [some (.ref x), a1, a2, a3, a4, a5, a6] [.ref x, .int s0] lay M P := e_aload_nP hx (i := 0) rfl rfl rfl
set_option maxRecDepth 20000 in
theorem g205_78 {d : Nat} {a0 a1 a2 a3 a4 a6 : Option Value} {s0 : Nat} {s1 : Int32} {x : Int32} {lay : List mShp} {M : mMem} {P : mPost} : mG (d) 205 78 [a0, a1, a2, a3, a4, some (.int x), a6] [.ref s0, .int s1] lay M P = mG d 205 80 [a0, a1, a2, a3, a4, some (.int x), a6] [.int x, .ref s0, .int s1] lay M P := e_iload (i := 5) rfl rfl
set_option maxRecDepth 20000 in
theorem g205_80 {d : Nat} {a0 a1 a2 a3 a4 a5 a6 : Option Value} {s0 : Int32} {s1 : Nat} {s2 : Int32} {lay : List mShp} {M : mMem} {P : mPost} : mG (d) 205 80 [a0, a1, a2, a3, a4, a5, a6] [.int s0, .ref s1, .int s2] lay M P = mG d 205 81 [a0, a1, a2, a3, a4, a5, a6] [.int (Int32.ofInt 1), .int s0, .ref s1, .int s2] lay M P := e_iconst rfl
set_option maxRecDepth 20000 in
theorem g205_81 {d : Nat} {a0 a1 a2 a3 a4 a5 a6 : Option Value} {s0 : Int32} {s1 : Int32} {s2 : Nat} {s3 : Int32} {lay : List mShp} {M : mMem} {P : mPost} (hs : mSh lay s2 = some (13, 44)) : mG (d + 1) 205 81 [a0, a1, a2, a3, a4, a5, a6] [.int s0, .int s1, .ref s2, .int s3] lay M P = mF d 152 [.ref s2, .int s1, .int s0] lay M (fun v lay1 M1 => mG (d + 1) 205 84 [a0, a1, a2, a3, a4, a5, a6] (v.toList ++ [.int s3]) lay1 M1 P) := e_virtP2 (j := 152) (c := 10) rfl rfl rfl rfl rfl rfl hs (Nat.le_of_ble_eq_true rfl)
set_option maxRecDepth 20000 in
theorem g205_84 {d : Nat} {a0 a1 a2 a3 a4 a5 a6 : Option Value} {s0 : Int32} {s1 : Int32} {lay : List mShp} {M : mMem} {P : mPost} : mG (d) 205 84 [a0, a1, a2, a3, a4, a5, a6] [.int s0, .int s1] lay M P = mG d 205 88 [a0, a1, a2, a3, a4, a5, a6] [.int s0, .int s1] lay M P := e_goto rfl rfl
set_option maxRecDepth 20000 in
theorem g205_87 {d : Nat} {a0 a1 a2 a3 a4 a5 a6 : Option Value} {s0 : Int32} {lay : List mShp} {M : mMem} {P : mPost} : mG (d) 205 87 [a0, a1, a2, a3, a4, a5, a6] [.int s0] lay M P = mG d 205 88 [a0, a1, a2, a3, a4, a5, a6] [.int (Int32.ofInt 0), .int s0] lay M P := e_iconst rfl
set_option maxRecDepth 20000 in
theorem g205_88 {d : Nat} {a0 a1 a2 a3 a4 a5 a6 : Option Value} {s0 : Int32} {s1 : Int32} {lay : List mShp} {M : mMem} {P : mPost} : mG (d) 205 88 [a0, a1, a2, a3, a4, a5, a6] [.int s0, .int s1] lay M P = mG d 205 89 [a0, a1, a2, a3, a4, a5, a6] [.int (s1 + s0)] lay M P := e_iadd rfl
set_option maxRecDepth 20000 in
theorem g205_89 {d : Nat} {a0 a1 a2 a3 a4 a5 a6 : Option Value} {s0 : Int32} {lay : List mShp} {M : mMem} {P : mPost} (h0 : mNoL a2 = true) : mG (d) 205 89 [a0, a1, a2, a3, a4, a5, a6] [.int s0] lay M P = mG d 205 90 [a0, a1, a2, some (.int s0), a4, a5, a6] [] lay M P := e_istore_n (i := 3) rfl rfl (by simp) (mS1_3 h0)
set_option maxRecDepth 20000 in
theorem g205_90 {d : Nat} {a0 a1 a2 a3 a4 a5 : Option Value} {x : Int32} {lay : List mShp} {M : mMem} {P : mPost} : mG (d) 205 90 [a0, a1, a2, a3, a4, a5, some (.int x)] [] lay M P = mG d 205 92 [a0, a1, a2, a3, a4, a5, some (.int x)] [.int x] lay M P := e_iload (i := 6) rfl rfl
set_option maxRecDepth 20000 in
theorem g205_92 {d : Nat} {a0 a1 a2 a3 a4 a5 a6 : Option Value} {s0 : Int32} {lay : List mShp} {M : mMem} {P : mPost} : mG (d) 205 92 [a0, a1, a2, a3, a4, a5, a6] [.int s0] lay M P = if s0 = 0 then mG d 205 111 [a0, a1, a2, a3, a4, a5, a6] [] lay M P else mG d 205 95 [a0, a1, a2, a3, a4, a5, a6] [] lay M P := e_if_eq rfl rfl
set_option maxRecDepth 20000 in
theorem g205_95 {d : Nat} {a0 a1 a2 a3 a4 a6 : Option Value} {x : Int32} {lay : List mShp} {M : mMem} {P : mPost} : mG (d) 205 95 [a0, a1, a2, a3, a4, some (.int x), a6] [] lay M P = mG d 205 97 [a0, a1, a2, a3, a4, some (.int x), a6] [.int x] lay M P := e_iload (i := 5) rfl rfl
set_option maxRecDepth 20000 in
theorem g205_97 {d : Nat} {a0 a2 a3 a4 a5 a6 : Option Value} {s0 : Int32} {x : Int32} {lay : List mShp} {M : mMem} {P : mPost} : mG (d) 205 97 [a0, some (.int x), a2, a3, a4, a5, a6] [.int s0] lay M P = mG d 205 98 [a0, some (.int x), a2, a3, a4, a5, a6] [.int x, .int s0] lay M P := e_iload_n (i := 1) rfl rfl rfl
set_option maxRecDepth 20000 in
theorem g205_98 {d : Nat} {a0 a1 a2 a3 a4 a5 a6 : Option Value} {s0 : Int32} {s1 : Int32} {lay : List mShp} {M : mMem} {P : mPost} : mG (d) 205 98 [a0, a1, a2, a3, a4, a5, a6] [.int s0, .int s1] lay M P = if s1 = s0 then mG d 205 101 [a0, a1, a2, a3, a4, a5, a6] [] lay M P else mG d 205 111 [a0, a1, a2, a3, a4, a5, a6] [] lay M P := e_icmp_ne rfl rfl
set_option maxRecDepth 20000 in
theorem g205_101 {d : Nat} {a1 a2 a3 a4 a5 a6 : Option Value} {x : Nat} {lay : List mShp} {M : mMem} {P : mPost} (hx : ¬ x = 0) : mG (d) 205 101 [some (.ref x), a1, a2, a3, a4, a5, a6] [] lay M P = mG d 205 102 [some (.ref x), a1, a2, a3, a4, a5, a6] [.ref x] lay M P := e_aload_nP hx (i := 0) rfl rfl rfl
set_option maxRecDepth 20000 in
theorem g205_102 {d : Nat} {a0 a1 a2 a3 a4 a6 : Option Value} {s0 : Nat} {x : Int32} {lay : List mShp} {M : mMem} {P : mPost} : mG (d) 205 102 [a0, a1, a2, a3, a4, some (.int x), a6] [.ref s0] lay M P = mG d 205 104 [a0, a1, a2, a3, a4, some (.int x), a6] [.int x, .ref s0] lay M P := e_iload (i := 5) rfl rfl
set_option maxRecDepth 20000 in
theorem g205_104 {d : Nat} {a0 a1 a2 a3 a4 a5 a6 : Option Value} {s0 : Int32} {s1 : Nat} {lay : List mShp} {M : mMem} {P : mPost} : mG (d) 205 104 [a0, a1, a2, a3, a4, a5, a6] [.int s0, .ref s1] lay M P = mG d 205 105 [a0, a1, a2, a3, a4, a5, a6] [.int (Int32.ofInt 1), .int s0, .ref s1] lay M P := e_iconst rfl
set_option maxRecDepth 20000 in
theorem g205_105 {d : Nat} {a0 a1 a2 a3 a4 a5 a6 : Option Value} {s0 : Int32} {s1 : Int32} {s2 : Nat} {lay : List mShp} {M : mMem} {P : mPost} (hs : mSh lay s2 = some (13, 44)) : mG (d + 1) 205 105 [a0, a1, a2, a3, a4, a5, a6] [.int s0, .int s1, .ref s2] lay M P = mF d 152 [.ref s2, .int s1, .int s0] lay M (fun v lay1 M1 => mG (d + 1) 205 108 [a0, a1, a2, a3, a4, a5, a6] (v.toList ++ []) lay1 M1 P) := e_virtP2 (j := 152) (c := 10) rfl rfl rfl rfl rfl rfl hs (Nat.le_of_ble_eq_true rfl)
set_option maxRecDepth 20000 in
theorem g205_108 {d : Nat} {a0 a1 a2 a3 a4 a5 a6 : Option Value} {s0 : Int32} {lay : List mShp} {M : mMem} {P : mPost} : mG (d) 205 108 [a0, a1, a2, a3, a4, a5, a6] [.int s0] lay M P = mG d 205 113 [a0, a1, a2, a3, a4, a5, a6] [.int s0] lay M P := e_goto rfl rfl
set_option maxRecDepth 20000 in
theorem g205_111 {d : Nat} {a0 a1 a2 a3 a5 a6 : Option Value} {x : Int32} {lay : List mShp} {M : mMem} {P : mPost} : mG (d) 205 111 [a0, a1, a2, a3, some (.int x), a5, a6] [] lay M P = mG d 205 113 [a0, a1, a2, a3, some (.int x), a5, a6] [.int x] lay M P := e_iload (i := 4) rfl rfl
set_option maxRecDepth 20000 in
theorem g205_113 {d : Nat} {a0 a1 a2 a3 a4 a5 a6 : Option Value} {s0 : Int32} {lay : List mShp} {M : mMem} {P : mPost} (h0 : mNoL a3 = true) : mG (d) 205 113 [a0, a1, a2, a3, a4, a5, a6] [.int s0] lay M P = mG d 205 115 [a0, a1, a2, a3, some (.int s0), a5, a6] [] lay M P := e_istore (i := 4) rfl (by simp) (mS1_4 h0)
set_option maxRecDepth 20000 in
theorem g205_115 {d : Nat} {a0 a1 a2 a3 a4 a6 : Option Value} {x : Int32} {lay : List mShp} {M : mMem} {P : mPost} (h0 : mNoL a4 = true) : mG (d) 205 115 [a0, a1, a2, a3, a4, some (.int x), a6] [] lay M P = mG d 205 118 [a0, a1, a2, a3, a4, some (.int (x + Int32.ofInt 1)), a6] [] lay M P := e_iinc (n := 5) rfl rfl (mS1_5 h0)
set_option maxRecDepth 20000 in
theorem g205_118 {d : Nat} {a0 a1 a2 a3 a4 a5 a6 : Option Value} {lay : List mShp} {M : mMem} {P : mPost} : mG (d) 205 118 [a0, a1, a2, a3, a4, a5, a6] [] lay M P = mG d 205 29 [a0, a1, a2, a3, a4, a5, a6] [] lay M P := e_goto rfl rfl
set_option maxRecDepth 20000 in
theorem g205_121 {d : Nat} {a0 a1 a2 a4 a5 a6 : Option Value} {x : Int32} {lay : List mShp} {M : mMem} {P : mPost} : mG (d) 205 121 [a0, a1, a2, some (.int x), a4, a5, a6] [] lay M P = mG d 205 122 [a0, a1, a2, some (.int x), a4, a5, a6] [.int x] lay M P := e_iload_n (i := 3) rfl rfl rfl
set_option maxRecDepth 20000 in
theorem g205_122 {d : Nat} {a0 a1 a2 a3 a4 a5 a6 : Option Value} {s0 : Int32} {lay : List mShp} {M : mMem} {P : mPost} : mG (d) 205 122 [a0, a1, a2, a3, a4, a5, a6] [.int s0] lay M P = if s0 = 0 then mG d 205 125 [a0, a1, a2, a3, a4, a5, a6] [] lay M P else mG d 205 129 [a0, a1, a2, a3, a4, a5, a6] [] lay M P := e_if_ne rfl rfl
set_option maxRecDepth 20000 in
theorem g205_125 {d : Nat} {a0 a1 a2 a3 a4 a5 a6 : Option Value} {lay : List mShp} {M : mMem} {P : mPost} : mG (d) 205 125 [a0, a1, a2, a3, a4, a5, a6] [] lay M P = mG d 205 126 [a0, a1, a2, a3, a4, a5, a6] [.int (Int32.ofInt 0)] lay M P := e_iconst rfl
set_option maxRecDepth 20000 in
theorem g205_126 {d : Nat} {a0 a1 a2 a3 a4 a5 a6 : Option Value} {s0 : Int32} {lay : List mShp} {M : mMem} {P : mPost} : mG (d) 205 126 [a0, a1, a2, a3, a4, a5, a6] [.int s0] lay M P = mG d 205 135 [a0, a1, a2, a3, a4, a5, a6] [.int s0] lay M P := e_goto rfl rfl
set_option maxRecDepth 20000 in
theorem g205_129 {d : Nat} {a0 a1 a3 a4 a5 a6 : Option Value} {x : Int32} {lay : List mShp} {M : mMem} {P : mPost} : mG (d) 205 129 [a0, a1, some (.int x), a3, a4, a5, a6] [] lay M P = mG d 205 130 [a0, a1, some (.int x), a3, a4, a5, a6] [.int x] lay M P := e_iload_n (i := 2) rfl rfl rfl
set_option maxRecDepth 20000 in
theorem g205_130 {d : Nat} {a0 a1 a2 a3 a5 a6 : Option Value} {s0 : Int32} {x : Int32} {lay : List mShp} {M : mMem} {P : mPost} : mG (d) 205 130 [a0, a1, a2, a3, some (.int x), a5, a6] [.int s0] lay M P = mG d 205 132 [a0, a1, a2, a3, some (.int x), a5, a6] [.int x, .int s0] lay M P := e_iload (i := 4) rfl rfl
set_option maxRecDepth 20000 in
theorem g205_132 {d : Nat} {a0 a1 a2 a3 a4 a5 a6 : Option Value} {s0 : Int32} {s1 : Int32} {lay : List mShp} {M : mMem} {P : mPost} : mG (d) 205 132 [a0, a1, a2, a3, a4, a5, a6] [.int s0, .int s1] lay M P = mG d 205 133 [a0, a1, a2, a3, a4, a5, a6] [.int (s1 * s0)] lay M P := e_imul rfl
set_option maxRecDepth 20000 in
theorem g205_133 {d : Nat} {a0 a1 a2 a4 a5 a6 : Option Value} {s0 : Int32} {x : Int32} {lay : List mShp} {M : mMem} {P : mPost} : mG (d) 205 133 [a0, a1, a2, some (.int x), a4, a5, a6] [.int s0] lay M P = mG d 205 134 [a0, a1, a2, some (.int x), a4, a5, a6] [.int x, .int s0] lay M P := e_iload_n (i := 3) rfl rfl rfl
set_option maxRecDepth 20000 in
theorem g205_134 {d : Nat} {a0 a1 a2 a3 a4 a5 a6 : Option Value} {s0 : Int32} {s1 : Int32} {lay : List mShp} {M : mMem} {P : mPost} : mG (d) 205 134 [a0, a1, a2, a3, a4, a5, a6] [.int s0, .int s1] lay M P = (s0 ≠ 0 ∧ mG d 205 135 [a0, a1, a2, a3, a4, a5, a6] [.int (s1 / s0)] lay M P) := e_idiv rfl
set_option maxRecDepth 20000 in
theorem g205_135 {d : Nat} {a0 a1 a2 a3 a4 a5 a6 : Option Value} {s0 : Int32} {lay : List mShp} {M : mMem} {P : mPost} : mG (d) 205 135 [a0, a1, a2, a3, a4, a5, a6] [.int s0] lay M P = P (some (.int s0)) lay M := e_ireturnI rfl rfl
-- 206 X10_passOn
theorem g206_in {d : Nat} {x0 : Nat} {x1 : Int32} {lay : List mShp} {M : mMem} {P : mPost} : mF d 206 [.ref x0, .int x1] lay M P = mG d 206 0 [some (.ref x0), some (.int x1), none] [] lay M P := mF_in rfl rfl
set_option maxRecDepth 20000 in
theorem g206_0 {d : Nat} {a1 a2 : Option Value} {x : Nat} {lay : List mShp} {M : mMem} {P : mPost} (hx : ¬ x = 0) : mG (d) 206 0 [some (.ref x), a1, a2] [] lay M P = mG d 206 1 [some (.ref x), a1, a2] [.ref x] lay M P := e_aload_nP hx (i := 0) rfl rfl rfl
set_option maxRecDepth 20000 in
theorem g206_1 {d : Nat} {a0 a2 : Option Value} {s0 : Nat} {x : Int32} {lay : List mShp} {M : mMem} {P : mPost} : mG (d) 206 1 [a0, some (.int x), a2] [.ref s0] lay M P = mG d 206 2 [a0, some (.int x), a2] [.int x, .ref s0] lay M P := e_iload_n (i := 1) rfl rfl rfl
set_option maxRecDepth 20000 in
theorem g206_2 {d : Nat} {a0 a1 a2 : Option Value} {s0 : Int32} {s1 : Nat} {lay : List mShp} {M : mMem} {P : mPost} : mG (d) 206 2 [a0, a1, a2] [.int s0, .ref s1] lay M P = mG d 206 3 [a0, a1, a2] [.int (Int32.ofInt 4), .int s0, .ref s1] lay M P := e_iconst rfl
set_option maxRecDepth 20000 in
theorem g206_3 {d : Nat} {a0 a1 a2 : Option Value} {s0 : Int32} {s1 : Int32} {s2 : Nat} {lay : List mShp} {M : mMem} {P : mPost} (hs : mSh lay s2 = some (13, 44)) : mG (d + 1) 206 3 [a0, a1, a2] [.int s0, .int s1, .ref s2] lay M P = mF d 152 [.ref s2, .int s1, .int s0] lay M (fun v lay1 M1 => mG (d + 1) 206 6 [a0, a1, a2] (v.toList ++ []) lay1 M1 P) := e_virtP2 (j := 152) (c := 10) rfl rfl rfl rfl rfl rfl hs (Nat.le_of_ble_eq_true rfl)
set_option maxRecDepth 20000 in
theorem g206_6 {d : Nat} {a0 a1 a2 : Option Value} {s0 : Int32} {lay : List mShp} {M : mMem} {P : mPost} : mG (d) 206 6 [a0, a1, a2] [.int s0] lay M P = mG d 206 7 [a0, a1, a2] [.int (Int32.ofInt 1), .int s0] lay M P := e_iconst rfl
set_option maxRecDepth 20000 in
theorem g206_7 {d : Nat} {a0 a1 a2 : Option Value} {s0 : Int32} {s1 : Int32} {lay : List mShp} {M : mMem} {P : mPost} : mG (d) 206 7 [a0, a1, a2] [.int s0, .int s1] lay M P = mG d 206 8 [a0, a1, a2] [.int (s1 + s0)] lay M P := e_iadd rfl
set_option maxRecDepth 20000 in
theorem g206_8 {d : Nat} {a1 a2 : Option Value} {s0 : Int32} {x : Nat} {lay : List mShp} {M : mMem} {P : mPost} (hx : ¬ x = 0) : mG (d) 206 8 [some (.ref x), a1, a2] [.int s0] lay M P = mG d 206 9 [some (.ref x), a1, a2] [.ref x, .int s0] lay M P := e_aload_nP hx (i := 0) rfl rfl rfl
set_option maxRecDepth 20000 in
theorem g206_9 {d : Nat} {a0 a1 a2 : Option Value} {s0 : Nat} {s1 : Int32} {lay : List mShp} {M : mMem} {P : mPost} (hs : mSh lay s0 = some (13, 44)) : mG (d) 206 9 [a0, a1, a2] [.ref s0, .int s1] lay M P = mG d 206 12 [a0, a1, a2] [.int (M.1 s0 2), .int s1] lay M P := mG_of_and (mIsO_of hs (by decide)) (e_getI (ci := 10) (j := 2) rfl rfl rfl)
set_option maxRecDepth 20000 in
theorem g206_12 {d : Nat} {a0 a1 a2 : Option Value} {s0 : Int32} {s1 : Int32} {lay : List mShp} {M : mMem} {P : mPost} : mG (d) 206 12 [a0, a1, a2] [.int s0, .int s1] lay M P = (s0 ≠ 0 ∧ mG d 206 13 [a0, a1, a2] [.int (s1 - s1 / s0 * s0)] lay M P) := e_irem rfl
set_option maxRecDepth 20000 in
theorem g206_13 {d : Nat} {a0 a1 a2 : Option Value} {s0 : Int32} {lay : List mShp} {M : mMem} {P : mPost} (h0 : mNoL a1 = true) : mG (d) 206 13 [a0, a1, a2] [.int s0] lay M P = mG d 206 14 [a0, a1, some (.int s0)] [] lay M P := e_istore_n (i := 2) rfl rfl (by simp) (mS1_2 h0)
set_option maxRecDepth 20000 in
theorem g206_14 {d : Nat} {a0 a1 : Option Value} {x : Int32} {lay : List mShp} {M : mMem} {P : mPost} : mG (d) 206 14 [a0, a1, some (.int x)] [] lay M P = mG d 206 15 [a0, a1, some (.int x)] [.int x] lay M P := e_iload_n (i := 2) rfl rfl rfl
set_option maxRecDepth 20000 in
theorem g206_15 {d : Nat} {a0 a2 : Option Value} {s0 : Int32} {x : Int32} {lay : List mShp} {M : mMem} {P : mPost} : mG (d) 206 15 [a0, some (.int x), a2] [.int s0] lay M P = mG d 206 16 [a0, some (.int x), a2] [.int x, .int s0] lay M P := e_iload_n (i := 1) rfl rfl rfl
set_option maxRecDepth 20000 in
theorem g206_16 {d : Nat} {a0 a1 a2 : Option Value} {s0 : Int32} {s1 : Int32} {lay : List mShp} {M : mMem} {P : mPost} : mG (d) 206 16 [a0, a1, a2] [.int s0, .int s1] lay M P = if s1 = s0 then mG d 206 19 [a0, a1, a2] [] lay M P else mG d 206 30 [a0, a1, a2] [] lay M P := e_icmp_ne rfl rfl
set_option maxRecDepth 20000 in
theorem g206_19 {d : Nat} {a0 a1 : Option Value} {x : Int32} {lay : List mShp} {M : mMem} {P : mPost} : mG (d) 206 19 [a0, a1, some (.int x)] [] lay M P = mG d 206 20 [a0, a1, some (.int x)] [.int x] lay M P := e_iload_n (i := 2) rfl rfl rfl
set_option maxRecDepth 20000 in
theorem g206_20 {d : Nat} {a0 a1 a2 : Option Value} {s0 : Int32} {lay : List mShp} {M : mMem} {P : mPost} : mG (d) 206 20 [a0, a1, a2] [.int s0] lay M P = mG d 206 21 [a0, a1, a2] [.int (Int32.ofInt 1), .int s0] lay M P := e_iconst rfl
set_option maxRecDepth 20000 in
theorem g206_21 {d : Nat} {a0 a1 a2 : Option Value} {s0 : Int32} {s1 : Int32} {lay : List mShp} {M : mMem} {P : mPost} : mG (d) 206 21 [a0, a1, a2] [.int s0, .int s1] lay M P = mG d 206 22 [a0, a1, a2] [.int (s1 + s0)] lay M P := e_iadd rfl
set_option maxRecDepth 20000 in
theorem g206_22 {d : Nat} {a1 a2 : Option Value} {s0 : Int32} {x : Nat} {lay : List mShp} {M : mMem} {P : mPost} (hx : ¬ x = 0) : mG (d) 206 22 [some (.ref x), a1, a2] [.int s0] lay M P = mG d 206 23 [some (.ref x), a1, a2] [.ref x, .int s0] lay M P := e_aload_nP hx (i := 0) rfl rfl rfl
set_option maxRecDepth 20000 in
theorem g206_23 {d : Nat} {a0 a1 a2 : Option Value} {s0 : Nat} {s1 : Int32} {lay : List mShp} {M : mMem} {P : mPost} (hs : mSh lay s0 = some (13, 44)) : mG (d) 206 23 [a0, a1, a2] [.ref s0, .int s1] lay M P = mG d 206 26 [a0, a1, a2] [.int (M.1 s0 2), .int s1] lay M P := mG_of_and (mIsO_of hs (by decide)) (e_getI (ci := 10) (j := 2) rfl rfl rfl)
set_option maxRecDepth 20000 in
theorem g206_26 {d : Nat} {a0 a1 a2 : Option Value} {s0 : Int32} {s1 : Int32} {lay : List mShp} {M : mMem} {P : mPost} : mG (d) 206 26 [a0, a1, a2] [.int s0, .int s1] lay M P = (s0 ≠ 0 ∧ mG d 206 27 [a0, a1, a2] [.int (s1 - s1 / s0 * s0)] lay M P) := e_irem rfl
set_option maxRecDepth 20000 in
theorem g206_27 {d : Nat} {a0 a1 a2 : Option Value} {s0 : Int32} {lay : List mShp} {M : mMem} {P : mPost} : mG (d) 206 27 [a0, a1, a2] [.int s0] lay M P = mG d 206 31 [a0, a1, a2] [.int s0] lay M P := e_goto rfl rfl
set_option maxRecDepth 20000 in
theorem g206_30 {d : Nat} {a0 a1 : Option Value} {x : Int32} {lay : List mShp} {M : mMem} {P : mPost} : mG (d) 206 30 [a0, a1, some (.int x)] [] lay M P = mG d 206 31 [a0, a1, some (.int x)] [.int x] lay M P := e_iload_n (i := 2) rfl rfl rfl
set_option maxRecDepth 20000 in
theorem g206_31 {d : Nat} {a0 a1 a2 : Option Value} {s0 : Int32} {lay : List mShp} {M : mMem} {P : mPost} (h0 : mNoL a1 = true) : mG (d) 206 31 [a0, a1, a2] [.int s0] lay M P = mG d 206 32 [a0, a1, some (.int s0)] [] lay M P := e_istore_n (i := 2) rfl rfl (by simp) (mS1_2 h0)
set_option maxRecDepth 20000 in
theorem g206_32 {d : Nat} {a1 a2 : Option Value} {x : Nat} {lay : List mShp} {M : mMem} {P : mPost} (hx : ¬ x = 0) : mG (d) 206 32 [some (.ref x), a1, a2] [] lay M P = mG d 206 33 [some (.ref x), a1, a2] [.ref x] lay M P := e_aload_nP hx (i := 0) rfl rfl rfl
set_option maxRecDepth 20000 in
theorem g206_33 {d : Nat} {a0 a2 : Option Value} {s0 : Nat} {x : Int32} {lay : List mShp} {M : mMem} {P : mPost} : mG (d) 206 33 [a0, some (.int x), a2] [.ref s0] lay M P = mG d 206 34 [a0, some (.int x), a2] [.int x, .ref s0] lay M P := e_iload_n (i := 1) rfl rfl rfl
set_option maxRecDepth 20000 in
theorem g206_34 {d : Nat} {a0 a1 a2 : Option Value} {s0 : Int32} {s1 : Nat} {lay : List mShp} {M : mMem} {P : mPost} : mG (d) 206 34 [a0, a1, a2] [.int s0, .ref s1] lay M P = mG d 206 35 [a0, a1, a2] [.int (Int32.ofInt 4), .int s0, .ref s1] lay M P := e_iconst rfl
set_option maxRecDepth 20000 in
theorem g206_35 {d : Nat} {a0 a1 : Option Value} {s0 : Int32} {s1 : Int32} {s2 : Nat} {x : Int32} {lay : List mShp} {M : mMem} {P : mPost} : mG (d) 206 35 [a0, a1, some (.int x)] [.int s0, .int s1, .ref s2] lay M P = mG d 206 36 [a0, a1, some (.int x)] [.int x, .int s0, .int s1, .ref s2] lay M P := e_iload_n (i := 2) rfl rfl rfl
set_option maxRecDepth 20000 in
theorem g206_36 {d : Nat} {a0 a2 : Option Value} {s0 : Int32} {s1 : Int32} {s2 : Int32} {s3 : Nat} {x : Int32} {lay : List mShp} {M : mMem} {P : mPost} : mG (d) 206 36 [a0, some (.int x), a2] [.int s0, .int s1, .int s2, .ref s3] lay M P = mG d 206 37 [a0, some (.int x), a2] [.int x, .int s0, .int s1, .int s2, .ref s3] lay M P := e_iload_n (i := 1) rfl rfl rfl
set_option maxRecDepth 20000 in
theorem g206_37 {d : Nat} {a0 a1 a2 : Option Value} {s0 : Int32} {s1 : Int32} {s2 : Int32} {s3 : Int32} {s4 : Nat} {lay : List mShp} {M : mMem} {P : mPost} : mG (d) 206 37 [a0, a1, a2] [.int s0, .int s1, .int s2, .int s3, .ref s4] lay M P = if s1 = s0 then mG d 206 40 [a0, a1, a2] [.int s2, .int s3, .ref s4] lay M P else mG d 206 44 [a0, a1, a2] [.int s2, .int s3, .ref s4] lay M P := e_icmp_ne rfl rfl
set_option maxRecDepth 20000 in
theorem g206_40 {d : Nat} {a0 a1 a2 : Option Value} {s0 : Int32} {s1 : Int32} {s2 : Nat} {lay : List mShp} {M : mMem} {P : mPost} : mG (d) 206 40 [a0, a1, a2] [.int s0, .int s1, .ref s2] lay M P = mG d 206 41 [a0, a1, a2] [.int (Int32.ofInt (-1)), .int s0, .int s1, .ref s2] lay M P := e_iconst rfl
set_option maxRecDepth 20000 in
theorem g206_41 {d : Nat} {a0 a1 a2 : Option Value} {s0 : Int32} {s1 : Int32} {s2 : Int32} {s3 : Nat} {lay : List mShp} {M : mMem} {P : mPost} : mG (d) 206 41 [a0, a1, a2] [.int s0, .int s1, .int s2, .ref s3] lay M P = mG d 206 45 [a0, a1, a2] [.int s0, .int s1, .int s2, .ref s3] lay M P := e_goto rfl rfl
set_option maxRecDepth 20000 in
theorem g206_44 {d : Nat} {a0 a1 : Option Value} {s0 : Int32} {s1 : Int32} {s2 : Nat} {x : Int32} {lay : List mShp} {M : mMem} {P : mPost} : mG (d) 206 44 [a0, a1, some (.int x)] [.int s0, .int s1, .ref s2] lay M P = mG d 206 45 [a0, a1, some (.int x)] [.int x, .int s0, .int s1, .ref s2] lay M P := e_iload_n (i := 2) rfl rfl rfl
set_option maxRecDepth 20000 in
theorem g206_45 {d : Nat} {a0 a1 a2 : Option Value} {s0 : Int32} {s1 : Int32} {s2 : Int32} {s3 : Nat} {lay : List mShp} {M : mMem} {P : mPost} (hs : mSh lay s3 = some (13, 44)) : mG (d + 1) 206 45 [a0, a1, a2] [.int s0, .int s1, .int s2, .ref s3] lay M P = mF d 153 [.ref s3, .int s2, .int s1, .int s0] lay M (fun v lay1 M1 => mG (d + 1) 206 48 [a0, a1, a2] (v.toList ++ []) lay1 M1 P) := e_virtP3 (j := 153) (c := 10) rfl rfl rfl rfl rfl rfl hs (Nat.le_of_ble_eq_true rfl)
set_option maxRecDepth 20000 in
theorem g206_48 {d : Nat} {a0 a1 a2 : Option Value} {lay : List mShp} {M : mMem} {P : mPost} : mG (d) 206 48 [a0, a1, a2] [] lay M P = P none lay M := e_return rfl rfl
-- 207 X10_turns
theorem g207_in {d : Nat} {x0 : Nat} {x1 : Int32} {x2 : Int32} {x3 : Int32} {lay : List mShp} {M : mMem} {P : mPost} : mF d 207 [.ref x0, .int x1, .int x2, .int x3] lay M P = mG d 207 0 [some (.ref x0), some (.int x1), some (.int x2), some (.int x3), none, none, none, none, none, none] [] lay M P := mF_in rfl rfl
set_option maxRecDepth 20000 in
theorem g207_0 {d : Nat} {a1 a2 a3 a4 a5 a6 a7 a8 a9 : Option Value} {x : Nat} {lay : List mShp} {M : mMem} {P : mPost} (hx : ¬ x = 0) : mG (d) 207 0 [some (.ref x), a1, a2, a3, a4, a5, a6, a7, a8, a9] [] lay M P = mG d 207 1 [some (.ref x), a1, a2, a3, a4, a5, a6, a7, a8, a9] [.ref x] lay M P := e_aload_nP hx (i := 0) rfl rfl rfl
set_option maxRecDepth 20000 in
theorem g207_1 {d : Nat} {a0 a1 a2 a3 a4 a5 a6 a7 a8 a9 : Option Value} {s0 : Nat} {lay : List mShp} {M : mMem} {P : mPost} : mG (d) 207 1 [a0, a1, a2, a3, a4, a5, a6, a7, a8, a9] [.ref s0] lay M P = mG d 207 2 [a0, a1, a2, a3, a4, a5, a6, a7, a8, a9] [.int (Int32.ofInt 1), .ref s0] lay M P := e_iconst rfl
set_option maxRecDepth 20000 in
theorem g207_2 {d : Nat} {a0 a2 a3 a4 a5 a6 a7 a8 a9 : Option Value} {s0 : Int32} {s1 : Nat} {x : Int32} {lay : List mShp} {M : mMem} {P : mPost} : mG (d) 207 2 [a0, some (.int x), a2, a3, a4, a5, a6, a7, a8, a9] [.int s0, .ref s1] lay M P = mG d 207 3 [a0, some (.int x), a2, a3, a4, a5, a6, a7, a8, a9] [.int x, .int s0, .ref s1] lay M P := e_iload_n (i := 1) rfl rfl rfl
set_option maxRecDepth 20000 in
theorem g207_3 {d : Nat} {a0 a1 a2 a3 a4 a5 a6 a7 a8 a9 : Option Value} {s0 : Int32} {s1 : Int32} {s2 : Nat} {lay : List mShp} {M : mMem} {P : mPost} : mG (d) 207 3 [a0, a1, a2, a3, a4, a5, a6, a7, a8, a9] [.int s0, .int s1, .ref s2] lay M P = mG d 207 4 [a0, a1, a2, a3, a4, a5, a6, a7, a8, a9] [.int (s1 + s0), .ref s2] lay M P := e_iadd rfl
set_option maxRecDepth 20000 in
theorem g207_4 {d : Nat} {a0 a1 a2 a3 a4 a5 a6 a7 a8 a9 : Option Value} {s0 : Int32} {s1 : Nat} {lay : List mShp} {M : mMem} {P : mPost} (hs : mSh lay s1 = some (13, 44)) : mG (d + 1) 207 4 [a0, a1, a2, a3, a4, a5, a6, a7, a8, a9] [.int s0, .ref s1] lay M P = mF d 149 [.ref s1, .int s0] lay M (fun v lay1 M1 => mG (d + 1) 207 7 [a0, a1, a2, a3, a4, a5, a6, a7, a8, a9] (v.toList ++ []) lay1 M1 P) := e_virtP1 (j := 149) (c := 10) rfl rfl rfl rfl rfl rfl hs (Nat.le_of_ble_eq_true rfl)
set_option maxRecDepth 20000 in
theorem g207_7 {d : Nat} {a0 a2 a3 a4 a5 a6 a7 a8 a9 : Option Value} {x : Int32} {lay : List mShp} {M : mMem} {P : mPost} : mG (d) 207 7 [a0, some (.int x), a2, a3, a4, a5, a6, a7, a8, a9] [] lay M P = mG d 207 8 [a0, some (.int x), a2, a3, a4, a5, a6, a7, a8, a9] [.int x] lay M P := e_iload_n (i := 1) rfl rfl rfl
set_option maxRecDepth 20000 in
theorem g207_8 {d : Nat} {a0 a1 a3 a4 a5 a6 a7 a8 a9 : Option Value} {s0 : Int32} {x : Int32} {lay : List mShp} {M : mMem} {P : mPost} : mG (d) 207 8 [a0, a1, some (.int x), a3, a4, a5, a6, a7, a8, a9] [.int s0] lay M P = mG d 207 9 [a0, a1, some (.int x), a3, a4, a5, a6, a7, a8, a9] [.int x, .int s0] lay M P := e_iload_n (i := 2) rfl rfl rfl
set_option maxRecDepth 20000 in
theorem g207_9 {d : Nat} {a0 a1 a2 a3 a4 a5 a6 a7 a8 a9 : Option Value} {s0 : Int32} {s1 : Int32} {lay : List mShp} {M : mMem} {P : mPost} : mG (d) 207 9 [a0, a1, a2, a3, a4, a5, a6, a7, a8, a9] [.int s0, .int s1] lay M P = if s1 = s0 then mG d 207 12 [a0, a1, a2, a3, a4, a5, a6, a7, a8, a9] [] lay M P else mG d 207 36 [a0, a1, a2, a3, a4, a5, a6, a7, a8, a9] [] lay M P := e_icmp_ne rfl rfl
set_option maxRecDepth 20000 in
theorem g207_12 {d : Nat} {a1 a2 a3 a4 a5 a6 a7 a8 a9 : Option Value} {x : Nat} {lay : List mShp} {M : mMem} {P : mPost} (hx : ¬ x = 0) : mG (d) 207 12 [some (.ref x), a1, a2, a3, a4, a5, a6, a7, a8, a9] [] lay M P = mG d 207 13 [some (.ref x), a1, a2, a3, a4, a5, a6, a7, a8, a9] [.ref x] lay M P := e_aload_nP hx (i := 0) rfl rfl rfl
set_option maxRecDepth 20000 in
theorem g207_13 {d : Nat} {a0 a1 a2 a4 a5 a6 a7 a8 a9 : Option Value} {s0 : Nat} {x : Int32} {lay : List mShp} {M : mMem} {P : mPost} : mG (d) 207 13 [a0, a1, a2, some (.int x), a4, a5, a6, a7, a8, a9] [.ref s0] lay M P = mG d 207 14 [a0, a1, a2, some (.int x), a4, a5, a6, a7, a8, a9] [.int x, .ref s0] lay M P := e_iload_n (i := 3) rfl rfl rfl
set_option maxRecDepth 20000 in
theorem g207_14 {d : Nat} {a0 a1 a2 a3 a4 a5 a6 a7 a8 a9 : Option Value} {s0 : Int32} {s1 : Nat} {lay : List mShp} {M : mMem} {P : mPost} (hs : mSh lay s1 = some (13, 44)) : mG (d + 1) 207 14 [a0, a1, a2, a3, a4, a5, a6, a7, a8, a9] [.int s0, .ref s1] lay M P = mF d 180 [.ref s1, .int s0] lay M (fun v lay1 M1 => mG (d + 1) 207 17 [a0, a1, a2, a3, a4, a5, a6, a7, a8, a9] (v.toList ++ []) lay1 M1 P) := e_virtP1 (j := 180) (c := 10) rfl rfl rfl rfl rfl rfl hs (Nat.le_of_ble_eq_true rfl)
set_option maxRecDepth 20000 in
theorem g207_17 {d : Nat} {a1 a2 a3 a4 a5 a6 a7 a8 a9 : Option Value} {x : Nat} {lay : List mShp} {M : mMem} {P : mPost} (hx : ¬ x = 0) : mG (d) 207 17 [some (.ref x), a1, a2, a3, a4, a5, a6, a7, a8, a9] [] lay M P = mG d 207 18 [some (.ref x), a1, a2, a3, a4, a5, a6, a7, a8, a9] [.ref x] lay M P := e_aload_nP hx (i := 0) rfl rfl rfl
set_option maxRecDepth 20000 in
theorem g207_18 {d : Nat} {a0 a1 a2 a3 a4 a5 a6 a7 a8 a9 : Option Value} {s0 : Nat} {lay : List mShp} {M : mMem} {P : mPost} (hs : mSh lay s0 = some (13, 44)) : mG (d + 1) 207 18 [a0, a1, a2, a3, a4, a5, a6, a7, a8, a9] [.ref s0] lay M P = mF d 181 [.ref s0] lay M (fun v lay1 M1 => mG (d + 1) 207 21 [a0, a1, a2, a3, a4, a5, a6, a7, a8, a9] (v.toList ++ []) lay1 M1 P) := e_virtP0 (j := 181) (c := 10) rfl rfl rfl rfl rfl rfl hs (Nat.le_of_ble_eq_true rfl)
set_option maxRecDepth 20000 in
theorem g207_21 {d : Nat} {a0 a1 a2 a3 a4 a5 a6 a7 a8 a9 : Option Value} {s0 : Int32} {lay : List mShp} {M : mMem} {P : mPost} : mG (d + 1) 207 21 [a0, a1, a2, a3, a4, a5, a6, a7, a8, a9] [.int s0] lay M P = mF d 230 [.int s0] lay M (fun v lay1 M1 => mG (d + 1) 207 24 [a0, a1, a2, a3, a4, a5, a6, a7, a8, a9] (v.toList ++ []) lay1 M1 P) := e_static1 (j := 230) rfl rfl rfl rfl rfl (Nat.le_of_ble_eq_true rfl)
set_option maxRecDepth 20000 in
theorem g207_24 {d : Nat} {a0 a1 a2 a3 a4 a5 a6 a7 a8 a9 : Option Value} {s0 : Int32} {lay : List mShp} {M : mMem} {P : mPost} (h0 : mNoL a3 = true) : mG (d) 207 24 [a0, a1, a2, a3, a4, a5, a6, a7, a8, a9] [.int s0] lay M P = mG d 207 26 [a0, a1, a2, a3, some (.int s0), a5, a6, a7, a8, a9] [] lay M P := e_istore (i := 4) rfl (by simp) (mS1_4 h0)
set_option maxRecDepth 20000 in
theorem g207_26 {d : Nat} {a1 a2 a3 a4 a5 a6 a7 a8 a9 : Option Value} {x : Nat} {lay : List mShp} {M : mMem} {P : mPost} (hx : ¬ x = 0) : mG (d) 207 26 [some (.ref x), a1, a2, a3, a4, a5, a6, a7, a8, a9] [] lay M P = mG d 207 27 [some (.ref x), a1, a2, a3, a4, a5, a6, a7, a8, a9] [.ref x] lay M P := e_aload_nP hx (i := 0) rfl rfl rfl
set_option maxRecDepth 20000 in
theorem g207_27 {d : Nat} {a0 a1 a2 a3 a4 a5 a6 a7 a8 a9 : Option Value} {s0 : Nat} {lay : List mShp} {M : mMem} {P : mPost} : mG (d) 207 27 [a0, a1, a2, a3, a4, a5, a6, a7, a8, a9] [.ref s0] lay M P = mG d 207 28 [a0, a1, a2, a3, a4, a5, a6, a7, a8, a9] [.int (Int32.ofInt 1), .ref s0] lay M P := e_iconst rfl
set_option maxRecDepth 20000 in
theorem g207_28 {d : Nat} {a0 a2 a3 a4 a5 a6 a7 a8 a9 : Option Value} {s0 : Int32} {s1 : Nat} {x : Int32} {lay : List mShp} {M : mMem} {P : mPost} : mG (d) 207 28 [a0, some (.int x), a2, a3, a4, a5, a6, a7, a8, a9] [.int s0, .ref s1] lay M P = mG d 207 29 [a0, some (.int x), a2, a3, a4, a5, a6, a7, a8, a9] [.int x, .int s0, .ref s1] lay M P := e_iload_n (i := 1) rfl rfl rfl
set_option maxRecDepth 20000 in
theorem g207_29 {d : Nat} {a0 a1 a2 a3 a4 a5 a6 a7 a8 a9 : Option Value} {s0 : Int32} {s1 : Int32} {s2 : Nat} {lay : List mShp} {M : mMem} {P : mPost} : mG (d) 207 29 [a0, a1, a2, a3, a4, a5, a6, a7, a8, a9] [.int s0, .int s1, .ref s2] lay M P = mG d 207 30 [a0, a1, a2, a3, a4, a5, a6, a7, a8, a9] [.int (s1 + s0), .ref s2] lay M P := e_iadd rfl
set_option maxRecDepth 20000 in
theorem g207_30 {d : Nat} {a0 a1 a2 a3 a4 a5 a6 a7 a8 a9 : Option Value} {s0 : Int32} {s1 : Nat} {lay : List mShp} {M : mMem} {P : mPost} (hs : mSh lay s1 = some (13, 44)) : mG (d + 1) 207 30 [a0, a1, a2, a3, a4, a5, a6, a7, a8, a9] [.int s0, .ref s1] lay M P = mF d 150 [.ref s1, .int s0] lay M (fun v lay1 M1 => mG (d + 1) 207 33 [a0, a1, a2, a3, a4, a5, a6, a7, a8, a9] (v.toList ++ []) lay1 M1 P) := e_virtP1 (j := 150) (c := 10) rfl rfl rfl rfl rfl rfl hs (Nat.le_of_ble_eq_true rfl)
set_option maxRecDepth 20000 in
theorem g207_33 {d : Nat} {a0 a1 a2 a3 a5 a6 a7 a8 a9 : Option Value} {x : Int32} {lay : List mShp} {M : mMem} {P : mPost} : mG (d) 207 33 [a0, a1, a2, a3, some (.int x), a5, a6, a7, a8, a9] [] lay M P = mG d 207 35 [a0, a1, a2, a3, some (.int x), a5, a6, a7, a8, a9] [.int x] lay M P := e_iload (i := 4) rfl rfl
set_option maxRecDepth 20000 in
theorem g207_35 {d : Nat} {a0 a1 a2 a3 a4 a5 a6 a7 a8 a9 : Option Value} {s0 : Int32} {lay : List mShp} {M : mMem} {P : mPost} : mG (d) 207 35 [a0, a1, a2, a3, a4, a5, a6, a7, a8, a9] [.int s0] lay M P = P (some (.int s0)) lay M := e_ireturnI rfl rfl
set_option maxRecDepth 20000 in
theorem g207_36 {d : Nat} {a0 a2 a3 a4 a5 a6 a7 a8 a9 : Option Value} {x : Int32} {lay : List mShp} {M : mMem} {P : mPost} : mG (d) 207 36 [a0, some (.int x), a2, a3, a4, a5, a6, a7, a8, a9] [] lay M P = mG d 207 37 [a0, some (.int x), a2, a3, a4, a5, a6, a7, a8, a9] [.int x] lay M P := e_iload_n (i := 1) rfl rfl rfl
set_option maxRecDepth 20000 in
theorem g207_37 {d : Nat} {a0 a1 a2 a3 a4 a5 a6 a7 a8 a9 : Option Value} {s0 : Int32} {lay : List mShp} {M : mMem} {P : mPost} : mG (d) 207 37 [a0, a1, a2, a3, a4, a5, a6, a7, a8, a9] [.int s0] lay M P = mG d 207 38 [a0, a1, a2, a3, a4, a5, a6, a7, a8, a9] [.int (Int32.ofInt 2), .int s0] lay M P := e_iconst rfl
set_option maxRecDepth 20000 in
theorem g207_38 {d : Nat} {a0 a1 a2 a3 a4 a5 a6 a7 a8 a9 : Option Value} {s0 : Int32} {s1 : Int32} {lay : List mShp} {M : mMem} {P : mPost} : mG (d) 207 38 [a0, a1, a2, a3, a4, a5, a6, a7, a8, a9] [.int s0, .int s1] lay M P = (s0 ≠ 0 ∧ mG d 207 39 [a0, a1, a2, a3, a4, a5, a6, a7, a8, a9] [.int (s1 - s1 / s0 * s0)] lay M P) := e_irem rfl
set_option maxRecDepth 20000 in
theorem g207_39 {d : Nat} {a0 a1 a2 a3 a4 a5 a6 a7 a8 a9 : Option Value} {s0 : Int32} {lay : List mShp} {M : mMem} {P : mPost} : mG (d) 207 39 [a0, a1, a2, a3, a4, a5, a6, a7, a8, a9] [.int s0] lay M P = if s0 = 0 then mG d 207 42 [a0, a1, a2, a3, a4, a5, a6, a7, a8, a9] [] lay M P else mG d 207 46 [a0, a1, a2, a3, a4, a5, a6, a7, a8, a9] [] lay M P := e_if_ne rfl rfl
set_option maxRecDepth 20000 in
theorem g207_42 {d : Nat} {a0 a1 a2 a3 a4 a5 a6 a7 a8 a9 : Option Value} {lay : List mShp} {M : mMem} {P : mPost} : mG (d) 207 42 [a0, a1, a2, a3, a4, a5, a6, a7, a8, a9] [] lay M P = mG d 207 43 [a0, a1, a2, a3, a4, a5, a6, a7, a8, a9] [.int (Int32.ofInt 1)] lay M P := e_iconst rfl
set_option maxRecDepth 20000 in
theorem g207_43 {d : Nat} {a0 a1 a2 a3 a4 a5 a6 a7 a8 a9 : Option Value} {s0 : Int32} {lay : List mShp} {M : mMem} {P : mPost} : mG (d) 207 43 [a0, a1, a2, a3, a4, a5, a6, a7, a8, a9] [.int s0] lay M P = mG d 207 47 [a0, a1, a2, a3, a4, a5, a6, a7, a8, a9] [.int s0] lay M P := e_goto rfl rfl
set_option maxRecDepth 20000 in
theorem g207_46 {d : Nat} {a0 a1 a2 a3 a4 a5 a6 a7 a8 a9 : Option Value} {lay : List mShp} {M : mMem} {P : mPost} : mG (d) 207 46 [a0, a1, a2, a3, a4, a5, a6, a7, a8, a9] [] lay M P = mG d 207 47 [a0, a1, a2, a3, a4, a5, a6, a7, a8, a9] [.int (Int32.ofInt 0)] lay M P := e_iconst rfl
set_option maxRecDepth 20000 in
theorem g207_47 {d : Nat} {a0 a1 a2 a3 a4 a5 a6 a7 a8 a9 : Option Value} {s0 : Int32} {lay : List mShp} {M : mMem} {P : mPost} (h0 : mNoL a3 = true) : mG (d) 207 47 [a0, a1, a2, a3, a4, a5, a6, a7, a8, a9] [.int s0] lay M P = mG d 207 49 [a0, a1, a2, a3, some (.int s0), a5, a6, a7, a8, a9] [] lay M P := e_istore (i := 4) rfl (by simp) (mS1_4 h0)
set_option maxRecDepth 20000 in
theorem g207_49 {d : Nat} {a0 a1 a2 a3 a5 a6 a7 a8 a9 : Option Value} {x : Int32} {lay : List mShp} {M : mMem} {P : mPost} : mG (d) 207 49 [a0, a1, a2, a3, some (.int x), a5, a6, a7, a8, a9] [] lay M P = mG d 207 51 [a0, a1, a2, a3, some (.int x), a5, a6, a7, a8, a9] [.int x] lay M P := e_iload (i := 4) rfl rfl
set_option maxRecDepth 20000 in
theorem g207_51 {d : Nat} {a0 a1 a2 a3 a4 a5 a6 a7 a8 a9 : Option Value} {s0 : Int32} {lay : List mShp} {M : mMem} {P : mPost} : mG (d) 207 51 [a0, a1, a2, a3, a4, a5, a6, a7, a8, a9] [.int s0] lay M P = if s0 = 0 then mG d 207 60 [a0, a1, a2, a3, a4, a5, a6, a7, a8, a9] [] lay M P else mG d 207 54 [a0, a1, a2, a3, a4, a5, a6, a7, a8, a9] [] lay M P := e_if_eq rfl rfl
set_option maxRecDepth 20000 in
theorem g207_54 {d : Nat} {a0 a1 a2 a3 a4 a5 a6 a7 a8 a9 : Option Value} {lay : List mShp} {M : mMem} {P : mPost} : mG (d) 207 54 [a0, a1, a2, a3, a4, a5, a6, a7, a8, a9] [] lay M P = mG d 207 57 [a0, a1, a2, a3, a4, a5, a6, a7, a8, a9] [.int (Int32.ofInt 2147483647)] lay M P := e_ldc_w rfl rfl
set_option maxRecDepth 20000 in
theorem g207_57 {d : Nat} {a0 a1 a2 a3 a4 a5 a6 a7 a8 a9 : Option Value} {s0 : Int32} {lay : List mShp} {M : mMem} {P : mPost} : mG (d) 207 57 [a0, a1, a2, a3, a4, a5, a6, a7, a8, a9] [.int s0] lay M P = mG d 207 61 [a0, a1, a2, a3, a4, a5, a6, a7, a8, a9] [.int s0] lay M P := e_goto rfl rfl
set_option maxRecDepth 20000 in
theorem g207_60 {d : Nat} {a0 a1 a2 a3 a4 a5 a6 a7 a8 a9 : Option Value} {lay : List mShp} {M : mMem} {P : mPost} : mG (d) 207 60 [a0, a1, a2, a3, a4, a5, a6, a7, a8, a9] [] lay M P = mG d 207 61 [a0, a1, a2, a3, a4, a5, a6, a7, a8, a9] [.int (Int32.ofInt (-1))] lay M P := e_iconst rfl
set_option maxRecDepth 20000 in
theorem g207_61 {d : Nat} {a0 a1 a2 a3 a4 a5 a6 a7 a8 a9 : Option Value} {s0 : Int32} {lay : List mShp} {M : mMem} {P : mPost} (h0 : mNoL a4 = true) : mG (d) 207 61 [a0, a1, a2, a3, a4, a5, a6, a7, a8, a9] [.int s0] lay M P = mG d 207 63 [a0, a1, a2, a3, a4, some (.int s0), a6, a7, a8, a9] [] lay M P := e_istore (i := 5) rfl (by simp) (mS1_5 h0)
set_option maxRecDepth 20000 in
theorem g207_63 {d : Nat} {a0 a1 a2 a3 a4 a5 a6 a7 a8 a9 : Option Value} {lay : List mShp} {M : mMem} {P : mPost} : mG (d) 207 63 [a0, a1, a2, a3, a4, a5, a6, a7, a8, a9] [] lay M P = mG d 207 65 [a0, a1, a2, a3, a4, a5, a6, a7, a8, a9] [.int (Int32.ofInt 8)] lay M P := e_bipush rfl
set_option maxRecDepth 20000 in
theorem g207_65 {d : Nat} {a0 a1 a2 a3 a4 a5 a6 a7 a8 a9 : Option Value} {s0 : Int32} {lay : List mShp} {M : mMem} {P : mPost} (h0 : mNoL a5 = true) : mG (d) 207 65 [a0, a1, a2, a3, a4, a5, a6, a7, a8, a9] [.int s0] lay M P = mG d 207 67 [a0, a1, a2, a3, a4, a5, some (.int s0), a7, a8, a9] [] lay M P := e_istore (i := 6) rfl (by simp) (mS1_6 h0)
set_option maxRecDepth 20000 in
theorem g207_67 {d : Nat} {a0 a1 a2 a3 a4 a5 a6 a7 a8 a9 : Option Value} {lay : List mShp} {M : mMem} {P : mPost} : mG (d) 207 67 [a0, a1, a2, a3, a4, a5, a6, a7, a8, a9] [] lay M P = mG d 207 68 [a0, a1, a2, a3, a4, a5, a6, a7, a8, a9] [.int (Int32.ofInt (-1))] lay M P := e_iconst rfl
set_option maxRecDepth 20000 in
theorem g207_68 {d : Nat} {a0 a1 a2 a3 a4 a5 a6 a7 a8 a9 : Option Value} {s0 : Int32} {lay : List mShp} {M : mMem} {P : mPost} (h0 : mNoL a6 = true) : mG (d) 207 68 [a0, a1, a2, a3, a4, a5, a6, a7, a8, a9] [.int s0] lay M P = mG d 207 70 [a0, a1, a2, a3, a4, a5, a6, some (.int s0), a8, a9] [] lay M P := e_istore (i := 7) rfl (by simp) (mS1_7 h0)
set_option maxRecDepth 20000 in
theorem g207_70 {d : Nat} {a0 a1 a2 a3 a4 a5 a6 a8 a9 : Option Value} {x : Int32} {lay : List mShp} {M : mMem} {P : mPost} : mG (d) 207 70 [a0, a1, a2, a3, a4, a5, a6, some (.int x), a8, a9] [] lay M P = mG d 207 72 [a0, a1, a2, a3, a4, a5, a6, some (.int x), a8, a9] [.int x] lay M P := e_iload (i := 7) rfl rfl
set_option maxRecDepth 20000 in
theorem g207_72 {d : Nat} {a1 a2 a3 a4 a5 a6 a7 a8 a9 : Option Value} {s0 : Int32} {x : Nat} {lay : List mShp} {M : mMem} {P : mPost} (hx : ¬ x = 0) : mG (d) 207 72 [some (.ref x), a1, a2, a3, a4, a5, a6, a7, a8, a9] [.int s0] lay M P = mG d 207 73 [some (.ref x), a1, a2, a3, a4, a5, a6, a7, a8, a9] [.ref x, .int s0] lay M P := e_aload_nP hx (i := 0) rfl rfl rfl
set_option maxRecDepth 20000 in
theorem g207_73 {d : Nat} {a0 a1 a2 a3 a4 a5 a6 a7 a8 a9 : Option Value} {s0 : Nat} {s1 : Int32} {lay : List mShp} {M : mMem} {P : mPost} (hs : mSh lay s0 = some (13, 44)) : mG (d) 207 73 [a0, a1, a2, a3, a4, a5, a6, a7, a8, a9] [.ref s0, .int s1] lay M P = mG d 207 76 [a0, a1, a2, a3, a4, a5, a6, a7, a8, a9] [.int (M.1 s0 2), .int s1] lay M P := mG_of_and (mIsO_of hs (by decide)) (e_getI (ci := 10) (j := 2) rfl rfl rfl)
set_option maxRecDepth 20000 in
theorem g207_76 {d : Nat} {a0 a1 a2 a3 a4 a5 a6 a7 a8 a9 : Option Value} {s0 : Int32} {s1 : Int32} {lay : List mShp} {M : mMem} {P : mPost} : mG (d) 207 76 [a0, a1, a2, a3, a4, a5, a6, a7, a8, a9] [.int s0, .int s1] lay M P = if s1 < s0 then mG d 207 79 [a0, a1, a2, a3, a4, a5, a6, a7, a8, a9] [] lay M P else mG d 207 220 [a0, a1, a2, a3, a4, a5, a6, a7, a8, a9] [] lay M P := e_icmp_ge rfl rfl
set_option maxRecDepth 20000 in
theorem g207_79 {d : Nat} {a0 a1 a2 a3 a4 a5 a6 a8 a9 : Option Value} {x : Int32} {lay : List mShp} {M : mMem} {P : mPost} : mG (d) 207 79 [a0, a1, a2, a3, a4, a5, a6, some (.int x), a8, a9] [] lay M P = mG d 207 81 [a0, a1, a2, a3, a4, a5, a6, some (.int x), a8, a9] [.int x] lay M P := e_iload (i := 7) rfl rfl
set_option maxRecDepth 20000 in
theorem g207_81 {d : Nat} {a0 a1 a2 a3 a4 a5 a6 a7 a8 a9 : Option Value} {s0 : Int32} {lay : List mShp} {M : mMem} {P : mPost} : mG (d) 207 81 [a0, a1, a2, a3, a4, a5, a6, a7, a8, a9] [.int s0] lay M P = if s0 < 0 then mG d 207 98 [a0, a1, a2, a3, a4, a5, a6, a7, a8, a9] [] lay M P else mG d 207 84 [a0, a1, a2, a3, a4, a5, a6, a7, a8, a9] [] lay M P := e_if_lt rfl rfl
set_option maxRecDepth 20000 in
theorem g207_84 {d : Nat} {a0 a1 a2 a3 a5 a6 a7 a8 a9 : Option Value} {x : Int32} {lay : List mShp} {M : mMem} {P : mPost} : mG (d) 207 84 [a0, a1, a2, a3, some (.int x), a5, a6, a7, a8, a9] [] lay M P = mG d 207 86 [a0, a1, a2, a3, some (.int x), a5, a6, a7, a8, a9] [.int x] lay M P := e_iload (i := 4) rfl rfl
set_option maxRecDepth 20000 in
theorem g207_86 {d : Nat} {a0 a1 a2 a3 a4 a5 a6 a7 a8 a9 : Option Value} {s0 : Int32} {lay : List mShp} {M : mMem} {P : mPost} : mG (d) 207 86 [a0, a1, a2, a3, a4, a5, a6, a7, a8, a9] [.int s0] lay M P = if s0 = 0 then mG d 207 98 [a0, a1, a2, a3, a4, a5, a6, a7, a8, a9] [] lay M P else mG d 207 89 [a0, a1, a2, a3, a4, a5, a6, a7, a8, a9] [] lay M P := e_if_eq rfl rfl
set_option maxRecDepth 20000 in
theorem g207_89 {d : Nat} {a1 a2 a3 a4 a5 a6 a7 a8 a9 : Option Value} {x : Nat} {lay : List mShp} {M : mMem} {P : mPost} (hx : ¬ x = 0) : mG (d) 207 89 [some (.ref x), a1, a2, a3, a4, a5, a6, a7, a8, a9] [] lay M P = mG d 207 90 [some (.ref x), a1, a2, a3, a4, a5, a6, a7, a8, a9] [.ref x] lay M P := e_aload_nP hx (i := 0) rfl rfl rfl
set_option maxRecDepth 20000 in
theorem g207_90 {d : Nat} {a0 a1 a2 a3 a4 a5 a6 a8 a9 : Option Value} {s0 : Nat} {x : Int32} {lay : List mShp} {M : mMem} {P : mPost} : mG (d) 207 90 [a0, a1, a2, a3, a4, a5, a6, some (.int x), a8, a9] [.ref s0] lay M P = mG d 207 92 [a0, a1, a2, a3, a4, a5, a6, some (.int x), a8, a9] [.int x, .ref s0] lay M P := e_iload (i := 7) rfl rfl
set_option maxRecDepth 20000 in
theorem g207_92 {d : Nat} {a0 a1 a2 a3 a4 a5 a6 a7 a8 a9 : Option Value} {s0 : Int32} {s1 : Nat} {lay : List mShp} {M : mMem} {P : mPost} (hs : mSh lay s1 = some (13, 44)) : mG (d + 1) 207 92 [a0, a1, a2, a3, a4, a5, a6, a7, a8, a9] [.int s0, .ref s1] lay M P = mF d 206 [.ref s1, .int s0] lay M (fun v lay1 M1 => mG (d + 1) 207 95 [a0, a1, a2, a3, a4, a5, a6, a7, a8, a9] (v.toList ++ []) lay1 M1 P) := e_virtP1 (j := 206) (c := 10) rfl rfl rfl rfl rfl rfl hs (Nat.le_of_ble_eq_true rfl)
set_option maxRecDepth 20000 in
theorem g207_95 {d : Nat} {a0 a1 a2 a3 a4 a5 a6 a7 a8 a9 : Option Value} {lay : List mShp} {M : mMem} {P : mPost} : mG (d) 207 95 [a0, a1, a2, a3, a4, a5, a6, a7, a8, a9] [] lay M P = mG d 207 123 [a0, a1, a2, a3, a4, a5, a6, a7, a8, a9] [] lay M P := e_goto rfl rfl
set_option maxRecDepth 20000 in
theorem g207_98 {d : Nat} {a0 a1 a2 a3 a4 a5 a6 a8 a9 : Option Value} {x : Int32} {lay : List mShp} {M : mMem} {P : mPost} : mG (d) 207 98 [a0, a1, a2, a3, a4, a5, a6, some (.int x), a8, a9] [] lay M P = mG d 207 100 [a0, a1, a2, a3, a4, a5, a6, some (.int x), a8, a9] [.int x] lay M P := e_iload (i := 7) rfl rfl
set_option maxRecDepth 20000 in
theorem g207_100 {d : Nat} {a0 a1 a2 a3 a4 a5 a6 a7 a8 a9 : Option Value} {s0 : Int32} {lay : List mShp} {M : mMem} {P : mPost} : mG (d) 207 100 [a0, a1, a2, a3, a4, a5, a6, a7, a8, a9] [.int s0] lay M P = if s0 < 0 then mG d 207 123 [a0, a1, a2, a3, a4, a5, a6, a7, a8, a9] [] lay M P else mG d 207 103 [a0, a1, a2, a3, a4, a5, a6, a7, a8, a9] [] lay M P := e_if_lt rfl rfl
set_option maxRecDepth 20000 in
theorem g207_103 {d : Nat} {a1 a2 a3 a4 a5 a6 a7 a8 a9 : Option Value} {x : Nat} {lay : List mShp} {M : mMem} {P : mPost} (hx : ¬ x = 0) : mG (d) 207 103 [some (.ref x), a1, a2, a3, a4, a5, a6, a7, a8, a9] [] lay M P = mG d 207 104 [some (.ref x), a1, a2, a3, a4, a5, a6, a7, a8, a9] [.ref x] lay M P := e_aload_nP hx (i := 0) rfl rfl rfl
set_option maxRecDepth 20000 in
theorem g207_104 {d : Nat} {a0 a1 a2 a3 a4 a5 a6 a8 a9 : Option Value} {s0 : Nat} {x : Int32} {lay : List mShp} {M : mMem} {P : mPost} : mG (d) 207 104 [a0, a1, a2, a3, a4, a5, a6, some (.int x), a8, a9] [.ref s0] lay M P = mG d 207 106 [a0, a1, a2, a3, a4, a5, a6, some (.int x), a8, a9] [.int x, .ref s0] lay M P := e_iload (i := 7) rfl rfl
set_option maxRecDepth 20000 in
theorem g207_106 {d : Nat} {a0 a1 a2 a3 a4 a5 a6 a7 a8 a9 : Option Value} {s0 : Int32} {s1 : Nat} {lay : List mShp} {M : mMem} {P : mPost} : mG (d) 207 106 [a0, a1, a2, a3, a4, a5, a6, a7, a8, a9] [.int s0, .ref s1] lay M P = mG d 207 107 [a0, a1, a2, a3, a4, a5, a6, a7, a8, a9] [.int (Int32.ofInt 3), .int s0, .ref s1] lay M P := e_iconst rfl
set_option maxRecDepth 20000 in
theorem g207_107 {d : Nat} {a0 a1 a2 a3 a4 a5 a6 a7 a8 a9 : Option Value} {s0 : Int32} {s1 : Int32} {s2 : Nat} {lay : List mShp} {M : mMem} {P : mPost} : mG (d) 207 107 [a0, a1, a2, a3, a4, a5, a6, a7, a8, a9] [.int s0, .int s1, .ref s2] lay M P = mG d 207 108 [a0, a1, a2, a3, a4, a5, a6, a7, a8, a9] [.int (Int32.ofInt 0), .int s0, .int s1, .ref s2] lay M P := e_iconst rfl
set_option maxRecDepth 20000 in
theorem g207_108 {d : Nat} {a1 a2 a3 a4 a5 a6 a7 a8 a9 : Option Value} {s0 : Int32} {s1 : Int32} {s2 : Int32} {s3 : Nat} {x : Nat} {lay : List mShp} {M : mMem} {P : mPost} (hx : ¬ x = 0) : mG (d) 207 108 [some (.ref x), a1, a2, a3, a4, a5, a6, a7, a8, a9] [.int s0, .int s1, .int s2, .ref s3] lay M P = mG d 207 109 [some (.ref x), a1, a2, a3, a4, a5, a6, a7, a8, a9] [.ref x, .int s0, .int s1, .int s2, .ref s3] lay M P := e_aload_nP hx (i := 0) rfl rfl rfl
set_option maxRecDepth 20000 in
theorem g207_109 {d : Nat} {a0 a1 a2 a3 a4 a5 a6 a8 a9 : Option Value} {s0 : Nat} {s1 : Int32} {s2 : Int32} {s3 : Int32} {s4 : Nat} {x : Int32} {lay : List mShp} {M : mMem} {P : mPost} : mG (d) 207 109 [a0, a1, a2, a3, a4, a5, a6, some (.int x), a8, a9] [.ref s0, .int s1, .int s2, .int s3, .ref s4] lay M P = mG d 207 111 [a0, a1, a2, a3, a4, a5, a6, some (.int x), a8, a9] [.int x, .ref s0, .int s1, .int s2, .int s3, .ref s4] lay M P := e_iload (i := 7) rfl rfl
set_option maxRecDepth 20000 in
theorem g207_111 {d : Nat} {a0 a1 a2 a3 a4 a5 a6 a7 a8 a9 : Option Value} {s0 : Int32} {s1 : Nat} {s2 : Int32} {s3 : Int32} {s4 : Int32} {s5 : Nat} {lay : List mShp} {M : mMem} {P : mPost} : mG (d) 207 111 [a0, a1, a2, a3, a4, a5, a6, a7, a8, a9] [.int s0, .ref s1, .int s2, .int s3, .int s4, .ref s5] lay M P = mG d 207 112 [a0, a1, a2, a3, a4, a5, a6, a7, a8, a9] [.int (Int32.ofInt 3), .int s0, .ref s1, .int s2, .int s3, .int s4, .ref s5] lay M P := e_iconst rfl
set_option maxRecDepth 20000 in
theorem g207_112 {d : Nat} {a0 a1 a2 a3 a4 a5 a6 a7 a8 a9 : Option Value} {s0 : Int32} {s1 : Int32} {s2 : Nat} {s3 : Int32} {s4 : Int32} {s5 : Int32} {s6 : Nat} {lay : List mShp} {M : mMem} {P : mPost} (hs : mSh lay s2 = some (13, 44)) : mG (d + 1) 207 112 [a0, a1, a2, a3, a4, a5, a6, a7, a8, a9] [.int s0, .int s1, .ref s2, .int s3, .int s4, .int s5, .ref s6] lay M P = mF d 152 [.ref s2, .int s1, .int s0] lay M (fun v lay1 M1 => mG (d + 1) 207 115 [a0, a1, a2, a3, a4, a5, a6, a7, a8, a9] (v.toList ++ [.int s3, .int s4, .int s5, .ref s6]) lay1 M1 P) := e_virtP2 (j := 152) (c := 10) rfl rfl rfl rfl rfl rfl hs (Nat.le_of_ble_eq_true rfl)
set_option maxRecDepth 20000 in
theorem g207_115 {d : Nat} {a0 a1 a2 a3 a4 a5 a6 a7 a8 a9 : Option Value} {s0 : Int32} {s1 : Int32} {s2 : Int32} {s3 : Int32} {s4 : Nat} {lay : List mShp} {M : mMem} {P : mPost} : mG (d) 207 115 [a0, a1, a2, a3, a4, a5, a6, a7, a8, a9] [.int s0, .int s1, .int s2, .int s3, .ref s4] lay M P = mG d 207 116 [a0, a1, a2, a3, a4, a5, a6, a7, a8, a9] [.int (Int32.ofInt 5), .int s0, .int s1, .int s2, .int s3, .ref s4] lay M P := e_iconst rfl
set_option maxRecDepth 20000 in
theorem g207_116 {d : Nat} {a0 a1 a2 a3 a4 a5 a6 a7 a8 a9 : Option Value} {s0 : Int32} {s1 : Int32} {s2 : Int32} {s3 : Int32} {s4 : Int32} {s5 : Nat} {lay : List mShp} {M : mMem} {P : mPost} : mG (d) 207 116 [a0, a1, a2, a3, a4, a5, a6, a7, a8, a9] [.int s0, .int s1, .int s2, .int s3, .int s4, .ref s5] lay M P = mG d 207 117 [a0, a1, a2, a3, a4, a5, a6, a7, a8, a9] [.int (s1 - s0), .int s2, .int s3, .int s4, .ref s5] lay M P := e_isub rfl
set_option maxRecDepth 20000 in
theorem g207_117 {d : Nat} {a0 a1 a2 a3 a4 a5 a6 a7 a8 a9 : Option Value} {s0 : Int32} {s1 : Int32} {s2 : Int32} {s3 : Int32} {s4 : Nat} {lay : List mShp} {M : mMem} {P : mPost} : mG (d) 207 117 [a0, a1, a2, a3, a4, a5, a6, a7, a8, a9] [.int s0, .int s1, .int s2, .int s3, .ref s4] lay M P = mG d 207 120 [a0, a1, a2, a3, a4, a5, a6, a7, a8, a9] [.int (if s1 < s0 then s0 else s1), .int s2, .int s3, .ref s4] lay M P := e_max rfl rfl (Nat.le_of_ble_eq_true rfl)
set_option maxRecDepth 20000 in
theorem g207_120 {d : Nat} {a0 a1 a2 a3 a4 a5 a6 a7 a8 a9 : Option Value} {s0 : Int32} {s1 : Int32} {s2 : Int32} {s3 : Nat} {lay : List mShp} {M : mMem} {P : mPost} (hs : mSh lay s3 = some (13, 44)) : mG (d + 1) 207 120 [a0, a1, a2, a3, a4, a5, a6, a7, a8, a9] [.int s0, .int s1, .int s2, .ref s3] lay M P = mF d 153 [.ref s3, .int s2, .int s1, .int s0] lay M (fun v lay1 M1 => mG (d + 1) 207 123 [a0, a1, a2, a3, a4, a5, a6, a7, a8, a9] (v.toList ++ []) lay1 M1 P) := e_virtP3 (j := 153) (c := 10) rfl rfl rfl rfl rfl rfl hs (Nat.le_of_ble_eq_true rfl)
set_option maxRecDepth 20000 in
theorem g207_123 {d : Nat} {a1 a2 a3 a4 a5 a6 a7 a8 a9 : Option Value} {x : Nat} {lay : List mShp} {M : mMem} {P : mPost} (hx : ¬ x = 0) : mG (d) 207 123 [some (.ref x), a1, a2, a3, a4, a5, a6, a7, a8, a9] [] lay M P = mG d 207 124 [some (.ref x), a1, a2, a3, a4, a5, a6, a7, a8, a9] [.ref x] lay M P := e_aload_nP hx (i := 0) rfl rfl rfl
set_option maxRecDepth 20000 in
theorem g207_124 {d : Nat} {a0 a2 a3 a4 a5 a6 a7 a8 a9 : Option Value} {s0 : Nat} {x : Int32} {lay : List mShp} {M : mMem} {P : mPost} : mG (d) 207 124 [a0, some (.int x), a2, a3, a4, a5, a6, a7, a8, a9] [.ref s0] lay M P = mG d 207 125 [a0, some (.int x), a2, a3, a4, a5, a6, a7, a8, a9] [.int x, .ref s0] lay M P := e_iload_n (i := 1) rfl rfl rfl
set_option maxRecDepth 20000 in
theorem g207_125 {d : Nat} {a0 a1 a2 a3 a4 a5 a6 a7 a8 a9 : Option Value} {s0 : Int32} {s1 : Nat} {lay : List mShp} {M : mMem} {P : mPost} : mG (d) 207 125 [a0, a1, a2, a3, a4, a5, a6, a7, a8, a9] [.int s0, .ref s1] lay M P = mG d 207 126 [a0, a1, a2, a3, a4, a5, a6, a7, a8, a9] [.int (Int32.ofInt 1), .int s0, .ref s1] lay M P := e_iconst rfl
set_option maxRecDepth 20000 in
theorem g207_126 {d : Nat} {a0 a1 a2 a3 a4 a5 a6 a7 a8 a9 : Option Value} {s0 : Int32} {s1 : Int32} {s2 : Nat} {lay : List mShp} {M : mMem} {P : mPost} : mG (d) 207 126 [a0, a1, a2, a3, a4, a5, a6, a7, a8, a9] [.int s0, .int s1, .ref s2] lay M P = mG d 207 127 [a0, a1, a2, a3, a4, a5, a6, a7, a8, a9] [.int (s1 + s0), .ref s2] lay M P := e_iadd rfl
set_option maxRecDepth 20000 in
theorem g207_127 {d : Nat} {a0 a1 a3 a4 a5 a6 a7 a8 a9 : Option Value} {s0 : Int32} {s1 : Nat} {x : Int32} {lay : List mShp} {M : mMem} {P : mPost} : mG (d) 207 127 [a0, a1, some (.int x), a3, a4, a5, a6, a7, a8, a9] [.int s0, .ref s1] lay M P = mG d 207 128 [a0, a1, some (.int x), a3, a4, a5, a6, a7, a8, a9] [.int x, .int s0, .ref s1] lay M P := e_iload_n (i := 2) rfl rfl rfl
set_option maxRecDepth 20000 in
theorem g207_128 {d : Nat} {a0 a1 a2 a4 a5 a6 a7 a8 a9 : Option Value} {s0 : Int32} {s1 : Int32} {s2 : Nat} {x : Int32} {lay : List mShp} {M : mMem} {P : mPost} : mG (d) 207 128 [a0, a1, a2, some (.int x), a4, a5, a6, a7, a8, a9] [.int s0, .int s1, .ref s2] lay M P = mG d 207 129 [a0, a1, a2, some (.int x), a4, a5, a6, a7, a8, a9] [.int x, .int s0, .int s1, .ref s2] lay M P := e_iload_n (i := 3) rfl rfl rfl
set_option maxRecDepth 20000 in
theorem g207_129 {d : Nat} {a0 a1 a2 a3 a4 a5 a6 a7 a8 a9 : Option Value} {s0 : Int32} {s1 : Int32} {s2 : Int32} {s3 : Nat} {lay : List mShp} {M : mMem} {P : mPost} (hs : mSh lay s3 = some (13, 44)) : mG (d + 1) 207 129 [a0, a1, a2, a3, a4, a5, a6, a7, a8, a9] [.int s0, .int s1, .int s2, .ref s3] lay M P = mF d 207 [.ref s3, .int s2, .int s1, .int s0] lay M (fun v lay1 M1 => mG (d + 1) 207 132 [a0, a1, a2, a3, a4, a5, a6, a7, a8, a9] (v.toList ++ []) lay1 M1 P) := e_virtP3 (j := 207) (c := 10) rfl rfl rfl rfl rfl rfl hs (Nat.le_of_ble_eq_true rfl)
set_option maxRecDepth 20000 in
theorem g207_132 {d : Nat} {a0 a1 a2 a3 a4 a5 a6 a7 a8 a9 : Option Value} {s0 : Int32} {lay : List mShp} {M : mMem} {P : mPost} (h0 : mNoL a7 = true) : mG (d) 207 132 [a0, a1, a2, a3, a4, a5, a6, a7, a8, a9] [.int s0] lay M P = mG d 207 134 [a0, a1, a2, a3, a4, a5, a6, a7, some (.int s0), a9] [] lay M P := e_istore (i := 8) rfl (by simp) (mS1_8 h0)
set_option maxRecDepth 20000 in
theorem g207_134 {d : Nat} {a0 a1 a2 a3 a5 a6 a7 a8 a9 : Option Value} {x : Int32} {lay : List mShp} {M : mMem} {P : mPost} : mG (d) 207 134 [a0, a1, a2, a3, some (.int x), a5, a6, a7, a8, a9] [] lay M P = mG d 207 136 [a0, a1, a2, a3, some (.int x), a5, a6, a7, a8, a9] [.int x] lay M P := e_iload (i := 4) rfl rfl
set_option maxRecDepth 20000 in
theorem g207_136 {d : Nat} {a0 a1 a2 a3 a4 a5 a6 a7 a8 a9 : Option Value} {s0 : Int32} {lay : List mShp} {M : mMem} {P : mPost} : mG (d) 207 136 [a0, a1, a2, a3, a4, a5, a6, a7, a8, a9] [.int s0] lay M P = if s0 = 0 then mG d 207 154 [a0, a1, a2, a3, a4, a5, a6, a7, a8, a9] [] lay M P else mG d 207 139 [a0, a1, a2, a3, a4, a5, a6, a7, a8, a9] [] lay M P := e_if_eq rfl rfl
set_option maxRecDepth 20000 in
theorem g207_139 {d : Nat} {a0 a1 a2 a3 a4 a5 a6 a7 a9 : Option Value} {x : Int32} {lay : List mShp} {M : mMem} {P : mPost} : mG (d) 207 139 [a0, a1, a2, a3, a4, a5, a6, a7, some (.int x), a9] [] lay M P = mG d 207 141 [a0, a1, a2, a3, a4, a5, a6, a7, some (.int x), a9] [.int x] lay M P := e_iload (i := 8) rfl rfl
set_option maxRecDepth 20000 in
theorem g207_141 {d : Nat} {a0 a1 a2 a3 a4 a6 a7 a8 a9 : Option Value} {s0 : Int32} {x : Int32} {lay : List mShp} {M : mMem} {P : mPost} : mG (d) 207 141 [a0, a1, a2, a3, a4, some (.int x), a6, a7, a8, a9] [.int s0] lay M P = mG d 207 143 [a0, a1, a2, a3, a4, some (.int x), a6, a7, a8, a9] [.int x, .int s0] lay M P := e_iload (i := 5) rfl rfl
set_option maxRecDepth 20000 in
theorem g207_143 {d : Nat} {a0 a1 a2 a3 a4 a5 a6 a7 a8 a9 : Option Value} {s0 : Int32} {s1 : Int32} {lay : List mShp} {M : mMem} {P : mPost} : mG (d) 207 143 [a0, a1, a2, a3, a4, a5, a6, a7, a8, a9] [.int s0, .int s1] lay M P = if s1 < s0 then mG d 207 146 [a0, a1, a2, a3, a4, a5, a6, a7, a8, a9] [] lay M P else mG d 207 150 [a0, a1, a2, a3, a4, a5, a6, a7, a8, a9] [] lay M P := e_icmp_ge rfl rfl
set_option maxRecDepth 20000 in
theorem g207_146 {d : Nat} {a0 a1 a2 a3 a4 a5 a6 a7 a8 a9 : Option Value} {lay : List mShp} {M : mMem} {P : mPost} : mG (d) 207 146 [a0, a1, a2, a3, a4, a5, a6, a7, a8, a9] [] lay M P = mG d 207 147 [a0, a1, a2, a3, a4, a5, a6, a7, a8, a9] [.int (Int32.ofInt 1)] lay M P := e_iconst rfl
set_option maxRecDepth 20000 in
theorem g207_147 {d : Nat} {a0 a1 a2 a3 a4 a5 a6 a7 a8 a9 : Option Value} {s0 : Int32} {lay : List mShp} {M : mMem} {P : mPost} : mG (d) 207 147 [a0, a1, a2, a3, a4, a5, a6, a7, a8, a9] [.int s0] lay M P = mG d 207 166 [a0, a1, a2, a3, a4, a5, a6, a7, a8, a9] [.int s0] lay M P := e_goto rfl rfl
set_option maxRecDepth 20000 in
theorem g207_150 {d : Nat} {a0 a1 a2 a3 a4 a5 a6 a7 a8 a9 : Option Value} {lay : List mShp} {M : mMem} {P : mPost} : mG (d) 207 150 [a0, a1, a2, a3, a4, a5, a6, a7, a8, a9] [] lay M P = mG d 207 151 [a0, a1, a2, a3, a4, a5, a6, a7, a8, a9] [.int (Int32.ofInt 0)] lay M P := e_iconst rfl
set_option maxRecDepth 20000 in
theorem g207_151 {d : Nat} {a0 a1 a2 a3 a4 a5 a6 a7 a8 a9 : Option Value} {s0 : Int32} {lay : List mShp} {M : mMem} {P : mPost} : mG (d) 207 151 [a0, a1, a2, a3, a4, a5, a6, a7, a8, a9] [.int s0] lay M P = mG d 207 166 [a0, a1, a2, a3, a4, a5, a6, a7, a8, a9] [.int s0] lay M P := e_goto rfl rfl
set_option maxRecDepth 20000 in
theorem g207_154 {d : Nat} {a0 a1 a2 a3 a4 a5 a6 a7 a9 : Option Value} {x : Int32} {lay : List mShp} {M : mMem} {P : mPost} : mG (d) 207 154 [a0, a1, a2, a3, a4, a5, a6, a7, some (.int x), a9] [] lay M P = mG d 207 156 [a0, a1, a2, a3, a4, a5, a6, a7, some (.int x), a9] [.int x] lay M P := e_iload (i := 8) rfl rfl
set_option maxRecDepth 20000 in
theorem g207_156 {d : Nat} {a0 a1 a2 a3 a4 a6 a7 a8 a9 : Option Value} {s0 : Int32} {x : Int32} {lay : List mShp} {M : mMem} {P : mPost} : mG (d) 207 156 [a0, a1, a2, a3, a4, some (.int x), a6, a7, a8, a9] [.int s0] lay M P = mG d 207 158 [a0, a1, a2, a3, a4, some (.int x), a6, a7, a8, a9] [.int x, .int s0] lay M P := e_iload (i := 5) rfl rfl
set_option maxRecDepth 20000 in
theorem g207_158 {d : Nat} {a0 a1 a2 a3 a4 a5 a6 a7 a8 a9 : Option Value} {s0 : Int32} {s1 : Int32} {lay : List mShp} {M : mMem} {P : mPost} : mG (d) 207 158 [a0, a1, a2, a3, a4, a5, a6, a7, a8, a9] [.int s0, .int s1] lay M P = if s0 < s1 then mG d 207 161 [a0, a1, a2, a3, a4, a5, a6, a7, a8, a9] [] lay M P else mG d 207 165 [a0, a1, a2, a3, a4, a5, a6, a7, a8, a9] [] lay M P := e_icmp_le rfl rfl
set_option maxRecDepth 20000 in
theorem g207_161 {d : Nat} {a0 a1 a2 a3 a4 a5 a6 a7 a8 a9 : Option Value} {lay : List mShp} {M : mMem} {P : mPost} : mG (d) 207 161 [a0, a1, a2, a3, a4, a5, a6, a7, a8, a9] [] lay M P = mG d 207 162 [a0, a1, a2, a3, a4, a5, a6, a7, a8, a9] [.int (Int32.ofInt 1)] lay M P := e_iconst rfl
set_option maxRecDepth 20000 in
theorem g207_162 {d : Nat} {a0 a1 a2 a3 a4 a5 a6 a7 a8 a9 : Option Value} {s0 : Int32} {lay : List mShp} {M : mMem} {P : mPost} : mG (d) 207 162 [a0, a1, a2, a3, a4, a5, a6, a7, a8, a9] [.int s0] lay M P = mG d 207 166 [a0, a1, a2, a3, a4, a5, a6, a7, a8, a9] [.int s0] lay M P := e_goto rfl rfl
set_option maxRecDepth 20000 in
theorem g207_165 {d : Nat} {a0 a1 a2 a3 a4 a5 a6 a7 a8 a9 : Option Value} {lay : List mShp} {M : mMem} {P : mPost} : mG (d) 207 165 [a0, a1, a2, a3, a4, a5, a6, a7, a8, a9] [] lay M P = mG d 207 166 [a0, a1, a2, a3, a4, a5, a6, a7, a8, a9] [.int (Int32.ofInt 0)] lay M P := e_iconst rfl
set_option maxRecDepth 20000 in
theorem g207_166 {d : Nat} {a0 a1 a2 a3 a4 a5 a6 a7 a8 a9 : Option Value} {s0 : Int32} {lay : List mShp} {M : mMem} {P : mPost} (h0 : mNoL a8 = true) : mG (d) 207 166 [a0, a1, a2, a3, a4, a5, a6, a7, a8, a9] [.int s0] lay M P = mG d 207 168 [a0, a1, a2, a3, a4, a5, a6, a7, a8, some (.int s0)] [] lay M P := e_istore (i := 9) rfl (by simp) (mS1_9 h0)
set_option maxRecDepth 20000 in
theorem g207_168 {d : Nat} {a0 a1 a2 a3 a4 a5 a6 a7 a8 : Option Value} {x : Int32} {lay : List mShp} {M : mMem} {P : mPost} : mG (d) 207 168 [a0, a1, a2, a3, a4, a5, a6, a7, a8, some (.int x)] [] lay M P = mG d 207 170 [a0, a1, a2, a3, a4, a5, a6, a7, a8, some (.int x)] [.int x] lay M P := e_iload (i := 9) rfl rfl
set_option maxRecDepth 20000 in
theorem g207_170 {d : Nat} {a0 a1 a2 a3 a4 a5 a6 a7 a8 a9 : Option Value} {s0 : Int32} {lay : List mShp} {M : mMem} {P : mPost} : mG (d) 207 170 [a0, a1, a2, a3, a4, a5, a6, a7, a8, a9] [.int s0] lay M P = if s0 = 0 then mG d 207 189 [a0, a1, a2, a3, a4, a5, a6, a7, a8, a9] [] lay M P else mG d 207 173 [a0, a1, a2, a3, a4, a5, a6, a7, a8, a9] [] lay M P := e_if_eq rfl rfl
set_option maxRecDepth 20000 in
theorem g207_173 {d : Nat} {a0 a1 a2 a3 a4 a5 a6 a8 a9 : Option Value} {x : Int32} {lay : List mShp} {M : mMem} {P : mPost} : mG (d) 207 173 [a0, a1, a2, a3, a4, a5, a6, some (.int x), a8, a9] [] lay M P = mG d 207 175 [a0, a1, a2, a3, a4, a5, a6, some (.int x), a8, a9] [.int x] lay M P := e_iload (i := 7) rfl rfl
set_option maxRecDepth 20000 in
theorem g207_175 {d : Nat} {a0 a1 a2 a3 a4 a5 a6 a7 a8 a9 : Option Value} {s0 : Int32} {lay : List mShp} {M : mMem} {P : mPost} : mG (d) 207 175 [a0, a1, a2, a3, a4, a5, a6, a7, a8, a9] [.int s0] lay M P = mG d 207 176 [a0, a1, a2, a3, a4, a5, a6, a7, a8, a9] [.int (Int32.ofInt (-1)), .int s0] lay M P := e_iconst rfl
set_option maxRecDepth 20000 in
theorem g207_176 {d : Nat} {a0 a1 a2 a3 a4 a5 a6 a7 a8 a9 : Option Value} {s0 : Int32} {s1 : Int32} {lay : List mShp} {M : mMem} {P : mPost} : mG (d) 207 176 [a0, a1, a2, a3, a4, a5, a6, a7, a8, a9] [.int s0, .int s1] lay M P = if s1 = s0 then mG d 207 179 [a0, a1, a2, a3, a4, a5, a6, a7, a8, a9] [] lay M P else mG d 207 184 [a0, a1, a2, a3, a4, a5, a6, a7, a8, a9] [] lay M P := e_icmp_ne rfl rfl
set_option maxRecDepth 20000 in
theorem g207_179 {d : Nat} {a0 a1 a2 a3 a4 a5 a6 a7 a8 a9 : Option Value} {lay : List mShp} {M : mMem} {P : mPost} : mG (d) 207 179 [a0, a1, a2, a3, a4, a5, a6, a7, a8, a9] [] lay M P = mG d 207 181 [a0, a1, a2, a3, a4, a5, a6, a7, a8, a9] [.int (Int32.ofInt 8)] lay M P := e_bipush rfl
set_option maxRecDepth 20000 in
theorem g207_181 {d : Nat} {a0 a1 a2 a3 a4 a5 a6 a7 a8 a9 : Option Value} {s0 : Int32} {lay : List mShp} {M : mMem} {P : mPost} : mG (d) 207 181 [a0, a1, a2, a3, a4, a5, a6, a7, a8, a9] [.int s0] lay M P = mG d 207 191 [a0, a1, a2, a3, a4, a5, a6, a7, a8, a9] [.int s0] lay M P := e_goto rfl rfl
set_option maxRecDepth 20000 in
theorem g207_184 {d : Nat} {a0 a1 a2 a3 a4 a5 a6 a8 a9 : Option Value} {x : Int32} {lay : List mShp} {M : mMem} {P : mPost} : mG (d) 207 184 [a0, a1, a2, a3, a4, a5, a6, some (.int x), a8, a9] [] lay M P = mG d 207 186 [a0, a1, a2, a3, a4, a5, a6, some (.int x), a8, a9] [.int x] lay M P := e_iload (i := 7) rfl rfl
set_option maxRecDepth 20000 in
theorem g207_186 {d : Nat} {a0 a1 a2 a3 a4 a5 a6 a7 a8 a9 : Option Value} {s0 : Int32} {lay : List mShp} {M : mMem} {P : mPost} : mG (d) 207 186 [a0, a1, a2, a3, a4, a5, a6, a7, a8, a9] [.int s0] lay M P = mG d 207 191 [a0, a1, a2, a3, a4, a5, a6, a7, a8, a9] [.int s0] lay M P := e_goto rfl rfl
set_option maxRecDepth 20000 in
theorem g207_189 {d : Nat} {a0 a1 a2 a3 a4 a5 a7 a8 a9 : Option Value} {x : Int32} {lay : List mShp} {M : mMem} {P : mPost} : mG (d) 207 189 [a0, a1, a2, a3, a4, a5, some (.int x), a7, a8, a9] [] lay M P = mG d 207 191 [a0, a1, a2, a3, a4, a5, some (.int x), a7, a8, a9] [.int x] lay M P := e_iload (i := 6) rfl rfl
set_option maxRecDepth 20000 in
theorem g207_191 {d : Nat} {a0 a1 a2 a3 a4 a5 a6 a7 a8 a9 : Option Value} {s0 : Int32} {lay : List mShp} {M : mMem} {P : mPost} (h0 : mNoL a5 = true) : mG (d) 207 191 [a0, a1, a2, a3, a4, a5, a6, a7, a8, a9] [.int s0] lay M P = mG d 207 193 [a0, a1, a2, a3, a4, a5, some (.int s0), a7, a8, a9] [] lay M P := e_istore (i := 6) rfl (by simp) (mS1_6 h0)
set_option maxRecDepth 20000 in
theorem g207_193 {d : Nat} {a0 a1 a2 a3 a4 a5 a6 a7 a8 : Option Value} {x : Int32} {lay : List mShp} {M : mMem} {P : mPost} : mG (d) 207 193 [a0, a1, a2, a3, a4, a5, a6, a7, a8, some (.int x)] [] lay M P = mG d 207 195 [a0, a1, a2, a3, a4, a5, a6, a7, a8, some (.int x)] [.int x] lay M P := e_iload (i := 9) rfl rfl
set_option maxRecDepth 20000 in
theorem g207_195 {d : Nat} {a0 a1 a2 a3 a4 a5 a6 a7 a8 a9 : Option Value} {s0 : Int32} {lay : List mShp} {M : mMem} {P : mPost} : mG (d) 207 195 [a0, a1, a2, a3, a4, a5, a6, a7, a8, a9] [.int s0] lay M P = if s0 = 0 then mG d 207 203 [a0, a1, a2, a3, a4, a5, a6, a7, a8, a9] [] lay M P else mG d 207 198 [a0, a1, a2, a3, a4, a5, a6, a7, a8, a9] [] lay M P := e_if_eq rfl rfl
set_option maxRecDepth 20000 in
theorem g207_198 {d : Nat} {a0 a1 a2 a3 a4 a5 a6 a7 a9 : Option Value} {x : Int32} {lay : List mShp} {M : mMem} {P : mPost} : mG (d) 207 198 [a0, a1, a2, a3, a4, a5, a6, a7, some (.int x), a9] [] lay M P = mG d 207 200 [a0, a1, a2, a3, a4, a5, a6, a7, some (.int x), a9] [.int x] lay M P := e_iload (i := 8) rfl rfl
set_option maxRecDepth 20000 in
theorem g207_200 {d : Nat} {a0 a1 a2 a3 a4 a5 a6 a7 a8 a9 : Option Value} {s0 : Int32} {lay : List mShp} {M : mMem} {P : mPost} : mG (d) 207 200 [a0, a1, a2, a3, a4, a5, a6, a7, a8, a9] [.int s0] lay M P = mG d 207 205 [a0, a1, a2, a3, a4, a5, a6, a7, a8, a9] [.int s0] lay M P := e_goto rfl rfl
set_option maxRecDepth 20000 in
theorem g207_203 {d : Nat} {a0 a1 a2 a3 a4 a6 a7 a8 a9 : Option Value} {x : Int32} {lay : List mShp} {M : mMem} {P : mPost} : mG (d) 207 203 [a0, a1, a2, a3, a4, some (.int x), a6, a7, a8, a9] [] lay M P = mG d 207 205 [a0, a1, a2, a3, a4, some (.int x), a6, a7, a8, a9] [.int x] lay M P := e_iload (i := 5) rfl rfl
set_option maxRecDepth 20000 in
theorem g207_205 {d : Nat} {a0 a1 a2 a3 a4 a5 a6 a7 a8 a9 : Option Value} {s0 : Int32} {lay : List mShp} {M : mMem} {P : mPost} (h0 : mNoL a4 = true) : mG (d) 207 205 [a0, a1, a2, a3, a4, a5, a6, a7, a8, a9] [.int s0] lay M P = mG d 207 207 [a0, a1, a2, a3, a4, some (.int s0), a6, a7, a8, a9] [] lay M P := e_istore (i := 5) rfl (by simp) (mS1_5 h0)
set_option maxRecDepth 20000 in
theorem g207_207 {d : Nat} {a1 a2 a3 a4 a5 a6 a7 a8 a9 : Option Value} {x : Nat} {lay : List mShp} {M : mMem} {P : mPost} (hx : ¬ x = 0) : mG (d) 207 207 [some (.ref x), a1, a2, a3, a4, a5, a6, a7, a8, a9] [] lay M P = mG d 207 208 [some (.ref x), a1, a2, a3, a4, a5, a6, a7, a8, a9] [.ref x] lay M P := e_aload_nP hx (i := 0) rfl rfl rfl
set_option maxRecDepth 20000 in
theorem g207_208 {d : Nat} {a0 a1 a2 a3 a4 a5 a6 a7 a8 a9 : Option Value} {s0 : Nat} {lay : List mShp} {M : mMem} {P : mPost} : mG (d) 207 208 [a0, a1, a2, a3, a4, a5, a6, a7, a8, a9] [.ref s0] lay M P = mG d 207 209 [a0, a1, a2, a3, a4, a5, a6, a7, a8, a9] [.int (Int32.ofInt 1), .ref s0] lay M P := e_iconst rfl
set_option maxRecDepth 20000 in
theorem g207_209 {d : Nat} {a0 a2 a3 a4 a5 a6 a7 a8 a9 : Option Value} {s0 : Int32} {s1 : Nat} {x : Int32} {lay : List mShp} {M : mMem} {P : mPost} : mG (d) 207 209 [a0, some (.int x), a2, a3, a4, a5, a6, a7, a8, a9] [.int s0, .ref s1] lay M P = mG d 207 210 [a0, some (.int x), a2, a3, a4, a5, a6, a7, a8, a9] [.int x, .int s0, .ref s1] lay M P := e_iload_n (i := 1) rfl rfl rfl
set_option maxRecDepth 20000 in
theorem g207_210 {d : Nat} {a0 a1 a2 a3 a4 a5 a6 a7 a8 a9 : Option Value} {s0 : Int32} {s1 : Int32} {s2 : Nat} {lay : List mShp} {M : mMem} {P : mPost} : mG (d) 207 210 [a0, a1, a2, a3, a4, a5, a6, a7, a8, a9] [.int s0, .int s1, .ref s2] lay M P = mG d 207 211 [a0, a1, a2, a3, a4, a5, a6, a7, a8, a9] [.int (s1 + s0), .ref s2] lay M P := e_iadd rfl
set_option maxRecDepth 20000 in
theorem g207_211 {d : Nat} {a0 a1 a2 a3 a4 a5 a6 a7 a8 a9 : Option Value} {s0 : Int32} {s1 : Nat} {lay : List mShp} {M : mMem} {P : mPost} (hs : mSh lay s1 = some (13, 44)) : mG (d + 1) 207 211 [a0, a1, a2, a3, a4, a5, a6, a7, a8, a9] [.int s0, .ref s1] lay M P = mF d 150 [.ref s1, .int s0] lay M (fun v lay1 M1 => mG (d + 1) 207 214 [a0, a1, a2, a3, a4, a5, a6, a7, a8, a9] (v.toList ++ []) lay1 M1 P) := e_virtP1 (j := 150) (c := 10) rfl rfl rfl rfl rfl rfl hs (Nat.le_of_ble_eq_true rfl)
set_option maxRecDepth 20000 in
theorem g207_214 {d : Nat} {a0 a1 a2 a3 a4 a5 a6 a8 a9 : Option Value} {x : Int32} {lay : List mShp} {M : mMem} {P : mPost} (h0 : mNoL a6 = true) : mG (d) 207 214 [a0, a1, a2, a3, a4, a5, a6, some (.int x), a8, a9] [] lay M P = mG d 207 217 [a0, a1, a2, a3, a4, a5, a6, some (.int (x + Int32.ofInt 1)), a8, a9] [] lay M P := e_iinc (n := 7) rfl rfl (mS1_7 h0)
set_option maxRecDepth 20000 in
theorem g207_217 {d : Nat} {a0 a1 a2 a3 a4 a5 a6 a7 a8 a9 : Option Value} {lay : List mShp} {M : mMem} {P : mPost} : mG (d) 207 217 [a0, a1, a2, a3, a4, a5, a6, a7, a8, a9] [] lay M P = mG d 207 70 [a0, a1, a2, a3, a4, a5, a6, a7, a8, a9] [] lay M P := e_goto rfl rfl
set_option maxRecDepth 20000 in
theorem g207_220 {d : Nat} {a1 a2 a3 a4 a5 a6 a7 a8 a9 : Option Value} {x : Nat} {lay : List mShp} {M : mMem} {P : mPost} (hx : ¬ x = 0) : mG (d) 207 220 [some (.ref x), a1, a2, a3, a4, a5, a6, a7, a8, a9] [] lay M P = mG d 207 221 [some (.ref x), a1, a2, a3, a4, a5, a6, a7, a8, a9] [.ref x] lay M P := e_aload_nP hx (i := 0) rfl rfl rfl
set_option maxRecDepth 20000 in
theorem g207_221 {d : Nat} {a0 a1 a2 a3 a4 a5 a7 a8 a9 : Option Value} {s0 : Nat} {x : Int32} {lay : List mShp} {M : mMem} {P : mPost} : mG (d) 207 221 [a0, a1, a2, a3, a4, a5, some (.int x), a7, a8, a9] [.ref s0] lay M P = mG d 207 223 [a0, a1, a2, a3, a4, a5, some (.int x), a7, a8, a9] [.int x, .ref s0] lay M P := e_iload (i := 6) rfl rfl
set_option maxRecDepth 20000 in
theorem g207_223 {d : Nat} {a0 a1 a2 a3 a4 a5 a6 a7 a8 a9 : Option Value} {s0 : Int32} {s1 : Nat} {lay : List mShp} {M : mMem} {P : mPost} (hs : mSh lay s1 = some (13, 44)) : mG (d) 207 223 [a0, a1, a2, a3, a4, a5, a6, a7, a8, a9] [.int s0, .ref s1] lay M P = mG d 207 226 [a0, a1, a2, a3, a4, a5, a6, a7, a8, a9] [] lay (mSetI M s1 32 s0) P := mG_of_and (mIsO_of hs (by decide)) (e_putI (ci := 10) (j := 32) rfl rfl (Or.inl rfl) rfl)
set_option maxRecDepth 20000 in
theorem g207_226 {d : Nat} {a0 a1 a2 a3 a4 a6 a7 a8 a9 : Option Value} {x : Int32} {lay : List mShp} {M : mMem} {P : mPost} : mG (d) 207 226 [a0, a1, a2, a3, a4, some (.int x), a6, a7, a8, a9] [] lay M P = mG d 207 228 [a0, a1, a2, a3, a4, some (.int x), a6, a7, a8, a9] [.int x] lay M P := e_iload (i := 5) rfl rfl
set_option maxRecDepth 20000 in
theorem g207_228 {d : Nat} {a0 a1 a2 a3 a4 a5 a6 a7 a8 a9 : Option Value} {s0 : Int32} {lay : List mShp} {M : mMem} {P : mPost} : mG (d) 207 228 [a0, a1, a2, a3, a4, a5, a6, a7, a8, a9] [.int s0] lay M P = P (some (.int s0)) lay M := e_ireturnI rfl rfl
-- 208 X10_byTurns
theorem g208_in {d : Nat} {x0 : Nat} {x1 : Int32} {x2 : Int32} {lay : List mShp} {M : mMem} {P : mPost} : mF d 208 [.ref x0, .int x1, .int x2] lay M P = mG d 208 0 [some (.ref x0), some (.int x1), some (.int x2), none] [] lay M P := mF_in rfl rfl
set_option maxRecDepth 20000 in
theorem g208_0 {d : Nat} {a0 a2 a3 : Option Value} {x : Int32} {lay : List mShp} {M : mMem} {P : mPost} : mG (d) 208 0 [a0, some (.int x), a2, a3] [] lay M P = mG d 208 1 [a0, some (.int x), a2, a3] [.int x] lay M P := e_iload_n (i := 1) rfl rfl rfl
set_option maxRecDepth 20000 in
theorem g208_1 {d : Nat} {a0 a1 a2 a3 : Option Value} {s0 : Int32} {lay : List mShp} {M : mMem} {P : mPost} : mG (d) 208 1 [a0, a1, a2, a3] [.int s0] lay M P = if s0 < 0 then mG d 208 38 [a0, a1, a2, a3] [] lay M P else mG d 208 4 [a0, a1, a2, a3] [] lay M P := e_if_lt rfl rfl
set_option maxRecDepth 20000 in
theorem g208_4 {d : Nat} {a0 a2 a3 : Option Value} {x : Int32} {lay : List mShp} {M : mMem} {P : mPost} : mG (d) 208 4 [a0, some (.int x), a2, a3] [] lay M P = mG d 208 5 [a0, some (.int x), a2, a3] [.int x] lay M P := e_iload_n (i := 1) rfl rfl rfl
set_option maxRecDepth 20000 in
theorem g208_5 {d : Nat} {a0 a1 a2 a3 : Option Value} {s0 : Int32} {lay : List mShp} {M : mMem} {P : mPost} : mG (d) 208 5 [a0, a1, a2, a3] [.int s0] lay M P = mG d 208 7 [a0, a1, a2, a3] [.int (Int32.ofInt 10), .int s0] lay M P := e_bipush rfl
set_option maxRecDepth 20000 in
theorem g208_7 {d : Nat} {a0 a1 a2 a3 : Option Value} {s0 : Int32} {s1 : Int32} {lay : List mShp} {M : mMem} {P : mPost} : mG (d) 208 7 [a0, a1, a2, a3] [.int s0, .int s1] lay M P = (s0 ≠ 0 ∧ mG d 208 8 [a0, a1, a2, a3] [.int (s1 / s0)] lay M P) := e_idiv rfl
set_option maxRecDepth 20000 in
theorem g208_8 {d : Nat} {a0 a1 a2 a3 : Option Value} {s0 : Int32} {lay : List mShp} {M : mMem} {P : mPost} : mG (d) 208 8 [a0, a1, a2, a3] [.int s0] lay M P = mG d 208 9 [a0, a1, a2, a3] [.int (Int32.ofInt 1), .int s0] lay M P := e_iconst rfl
set_option maxRecDepth 20000 in
theorem g208_9 {d : Nat} {a0 a1 a2 a3 : Option Value} {s0 : Int32} {s1 : Int32} {lay : List mShp} {M : mMem} {P : mPost} : mG (d) 208 9 [a0, a1, a2, a3] [.int s0, .int s1] lay M P = mG d 208 10 [a0, a1, a2, a3] [.int (Int32.ofInt 3), .int s0, .int s1] lay M P := e_iconst rfl
set_option maxRecDepth 20000 in
theorem g208_10 {d : Nat} {a0 a1 a2 a3 : Option Value} {s0 : Int32} {s1 : Int32} {s2 : Int32} {lay : List mShp} {M : mMem} {P : mPost} : mG (d + 1) 208 10 [a0, a1, a2, a3] [.int s0, .int s1, .int s2] lay M P = mF d 146 [.int s2, .int s1, .int s0] lay M (fun v lay1 M1 => mG (d + 1) 208 13 [a0, a1, a2, a3] (v.toList ++ []) lay1 M1 P) := e_static3 (j := 146) rfl rfl rfl rfl rfl (Nat.le_of_ble_eq_true rfl)
set_option maxRecDepth 20000 in
theorem g208_13 {d : Nat} {a0 a1 a2 a3 : Option Value} {s0 : Int32} {lay : List mShp} {M : mMem} {P : mPost} : mG (d) 208 13 [a0, a1, a2, a3] [.int s0] lay M P = if s0 = 0 then mG d 208 38 [a0, a1, a2, a3] [] lay M P else mG d 208 16 [a0, a1, a2, a3] [] lay M P := e_if_eq rfl rfl
set_option maxRecDepth 20000 in
theorem g208_16 {d : Nat} {a0 a2 a3 : Option Value} {x : Int32} {lay : List mShp} {M : mMem} {P : mPost} : mG (d) 208 16 [a0, some (.int x), a2, a3] [] lay M P = mG d 208 17 [a0, some (.int x), a2, a3] [.int x] lay M P := e_iload_n (i := 1) rfl rfl rfl
set_option maxRecDepth 20000 in
theorem g208_17 {d : Nat} {a0 a1 a2 a3 : Option Value} {s0 : Int32} {lay : List mShp} {M : mMem} {P : mPost} : mG (d) 208 17 [a0, a1, a2, a3] [.int s0] lay M P = mG d 208 19 [a0, a1, a2, a3] [.int (Int32.ofInt 10), .int s0] lay M P := e_bipush rfl
set_option maxRecDepth 20000 in
theorem g208_19 {d : Nat} {a0 a1 a2 a3 : Option Value} {s0 : Int32} {s1 : Int32} {lay : List mShp} {M : mMem} {P : mPost} : mG (d) 208 19 [a0, a1, a2, a3] [.int s0, .int s1] lay M P = (s0 ≠ 0 ∧ mG d 208 20 [a0, a1, a2, a3] [.int (s1 - s1 / s0 * s0)] lay M P) := e_irem rfl
set_option maxRecDepth 20000 in
theorem g208_20 {d : Nat} {a0 a1 a2 a3 : Option Value} {s0 : Int32} {lay : List mShp} {M : mMem} {P : mPost} : mG (d) 208 20 [a0, a1, a2, a3] [.int s0] lay M P = mG d 208 21 [a0, a1, a2, a3] [.int (Int32.ofInt 0), .int s0] lay M P := e_iconst rfl
set_option maxRecDepth 20000 in
theorem g208_21 {d : Nat} {a0 a1 a2 a3 : Option Value} {s0 : Int32} {s1 : Int32} {lay : List mShp} {M : mMem} {P : mPost} : mG (d) 208 21 [a0, a1, a2, a3] [.int s0, .int s1] lay M P = mG d 208 23 [a0, a1, a2, a3] [.int (Int32.ofInt 6), .int s0, .int s1] lay M P := e_bipush rfl
set_option maxRecDepth 20000 in
theorem g208_23 {d : Nat} {a0 a1 a2 a3 : Option Value} {s0 : Int32} {s1 : Int32} {s2 : Int32} {lay : List mShp} {M : mMem} {P : mPost} : mG (d + 1) 208 23 [a0, a1, a2, a3] [.int s0, .int s1, .int s2] lay M P = mF d 146 [.int s2, .int s1, .int s0] lay M (fun v lay1 M1 => mG (d + 1) 208 26 [a0, a1, a2, a3] (v.toList ++ []) lay1 M1 P) := e_static3 (j := 146) rfl rfl rfl rfl rfl (Nat.le_of_ble_eq_true rfl)
set_option maxRecDepth 20000 in
theorem g208_26 {d : Nat} {a0 a1 a2 a3 : Option Value} {s0 : Int32} {lay : List mShp} {M : mMem} {P : mPost} : mG (d) 208 26 [a0, a1, a2, a3] [.int s0] lay M P = if s0 = 0 then mG d 208 38 [a0, a1, a2, a3] [] lay M P else mG d 208 29 [a0, a1, a2, a3] [] lay M P := e_if_eq rfl rfl
set_option maxRecDepth 20000 in
theorem g208_29 {d : Nat} {a0 a1 a3 : Option Value} {x : Int32} {lay : List mShp} {M : mMem} {P : mPost} : mG (d) 208 29 [a0, a1, some (.int x), a3] [] lay M P = mG d 208 30 [a0, a1, some (.int x), a3] [.int x] lay M P := e_iload_n (i := 2) rfl rfl rfl
set_option maxRecDepth 20000 in
theorem g208_30 {d : Nat} {a0 a1 a2 a3 : Option Value} {s0 : Int32} {lay : List mShp} {M : mMem} {P : mPost} : mG (d) 208 30 [a0, a1, a2, a3] [.int s0] lay M P = mG d 208 31 [a0, a1, a2, a3] [.int (Int32.ofInt 0), .int s0] lay M P := e_iconst rfl
set_option maxRecDepth 20000 in
theorem g208_31 {d : Nat} {a0 a1 a2 a3 : Option Value} {s0 : Int32} {s1 : Int32} {lay : List mShp} {M : mMem} {P : mPost} : mG (d) 208 31 [a0, a1, a2, a3] [.int s0, .int s1] lay M P = mG d 208 32 [a0, a1, a2, a3] [.int (Int32.ofInt 1), .int s0, .int s1] lay M P := e_iconst rfl
set_option maxRecDepth 20000 in
theorem g208_32 {d : Nat} {a0 a1 a2 a3 : Option Value} {s0 : Int32} {s1 : Int32} {s2 : Int32} {lay : List mShp} {M : mMem} {P : mPost} : mG (d + 1) 208 32 [a0, a1, a2, a3] [.int s0, .int s1, .int s2] lay M P = mF d 146 [.int s2, .int s1, .int s0] lay M (fun v lay1 M1 => mG (d + 1) 208 35 [a0, a1, a2, a3] (v.toList ++ []) lay1 M1 P) := e_static3 (j := 146) rfl rfl rfl rfl rfl (Nat.le_of_ble_eq_true rfl)
set_option maxRecDepth 20000 in
theorem g208_35 {d : Nat} {a0 a1 a2 a3 : Option Value} {s0 : Int32} {lay : List mShp} {M : mMem} {P : mPost} : mG (d) 208 35 [a0, a1, a2, a3] [.int s0] lay M P = if s0 = 0 then mG d 208 38 [a0, a1, a2, a3] [] lay M P else mG d 208 40 [a0, a1, a2, a3] [] lay M P := e_if_ne rfl rfl
set_option maxRecDepth 20000 in
theorem g208_38 {d : Nat} {a0 a1 a2 a3 : Option Value} {lay : List mShp} {M : mMem} {P : mPost} : mG (d) 208 38 [a0, a1, a2, a3] [] lay M P = mG d 208 39 [a0, a1, a2, a3] [.int (Int32.ofInt (-1))] lay M P := e_iconst rfl
set_option maxRecDepth 20000 in
theorem g208_39 {d : Nat} {a0 a1 a2 a3 : Option Value} {s0 : Int32} {lay : List mShp} {M : mMem} {P : mPost} : mG (d) 208 39 [a0, a1, a2, a3] [.int s0] lay M P = P (some (.int s0)) lay M := e_ireturnI rfl rfl
set_option maxRecDepth 20000 in
theorem g208_40 {d : Nat} {a1 a2 a3 : Option Value} {x : Nat} {lay : List mShp} {M : mMem} {P : mPost} (hx : ¬ x = 0) : mG (d) 208 40 [some (.ref x), a1, a2, a3] [] lay M P = mG d 208 41 [some (.ref x), a1, a2, a3] [.ref x] lay M P := e_aload_nP hx (i := 0) rfl rfl rfl
set_option maxRecDepth 20000 in
theorem g208_41 {d : Nat} {a0 a1 a2 a3 : Option Value} {s0 : Nat} {lay : List mShp} {M : mMem} {P : mPost} : mG (d) 208 41 [a0, a1, a2, a3] [.ref s0] lay M P = mG d 208 42 [a0, a1, a2, a3] [.int (Int32.ofInt 0), .ref s0] lay M P := e_iconst rfl
set_option maxRecDepth 20000 in
theorem g208_42 {d : Nat} {a0 a2 a3 : Option Value} {s0 : Int32} {s1 : Nat} {x : Int32} {lay : List mShp} {M : mMem} {P : mPost} : mG (d) 208 42 [a0, some (.int x), a2, a3] [.int s0, .ref s1] lay M P = mG d 208 43 [a0, some (.int x), a2, a3] [.int x, .int s0, .ref s1] lay M P := e_iload_n (i := 1) rfl rfl rfl
set_option maxRecDepth 20000 in
theorem g208_43 {d : Nat} {a0 a1 a2 a3 : Option Value} {s0 : Int32} {s1 : Int32} {s2 : Nat} {lay : List mShp} {M : mMem} {P : mPost} : mG (d) 208 43 [a0, a1, a2, a3] [.int s0, .int s1, .ref s2] lay M P = mG d 208 45 [a0, a1, a2, a3] [.int (Int32.ofInt 10), .int s0, .int s1, .ref s2] lay M P := e_bipush rfl
set_option maxRecDepth 20000 in
theorem g208_45 {d : Nat} {a0 a1 a2 a3 : Option Value} {s0 : Int32} {s1 : Int32} {s2 : Int32} {s3 : Nat} {lay : List mShp} {M : mMem} {P : mPost} : mG (d) 208 45 [a0, a1, a2, a3] [.int s0, .int s1, .int s2, .ref s3] lay M P = (s0 ≠ 0 ∧ mG d 208 46 [a0, a1, a2, a3] [.int (s1 / s0), .int s2, .ref s3] lay M P) := e_idiv rfl
set_option maxRecDepth 20000 in
theorem g208_46 {d : Nat} {a0 a2 a3 : Option Value} {s0 : Int32} {s1 : Int32} {s2 : Nat} {x : Int32} {lay : List mShp} {M : mMem} {P : mPost} : mG (d) 208 46 [a0, some (.int x), a2, a3] [.int s0, .int s1, .ref s2] lay M P = mG d 208 47 [a0, some (.int x), a2, a3] [.int x, .int s0, .int s1, .ref s2] lay M P := e_iload_n (i := 1) rfl rfl rfl
set_option maxRecDepth 20000 in
theorem g208_47 {d : Nat} {a0 a1 a2 a3 : Option Value} {s0 : Int32} {s1 : Int32} {s2 : Int32} {s3 : Nat} {lay : List mShp} {M : mMem} {P : mPost} : mG (d) 208 47 [a0, a1, a2, a3] [.int s0, .int s1, .int s2, .ref s3] lay M P = mG d 208 49 [a0, a1, a2, a3] [.int (Int32.ofInt 10), .int s0, .int s1, .int s2, .ref s3] lay M P := e_bipush rfl
set_option maxRecDepth 20000 in
theorem g208_49 {d : Nat} {a0 a1 a2 a3 : Option Value} {s0 : Int32} {s1 : Int32} {s2 : Int32} {s3 : Int32} {s4 : Nat} {lay : List mShp} {M : mMem} {P : mPost} : mG (d) 208 49 [a0, a1, a2, a3] [.int s0, .int s1, .int s2, .int s3, .ref s4] lay M P = (s0 ≠ 0 ∧ mG d 208 50 [a0, a1, a2, a3] [.int (s1 - s1 / s0 * s0), .int s2, .int s3, .ref s4] lay M P) := e_irem rfl
set_option maxRecDepth 20000 in
theorem g208_50 {d : Nat} {a0 a1 a2 a3 : Option Value} {s0 : Int32} {s1 : Int32} {s2 : Int32} {s3 : Nat} {lay : List mShp} {M : mMem} {P : mPost} (hs : mSh lay s3 = some (13, 44)) : mG (d + 1) 208 50 [a0, a1, a2, a3] [.int s0, .int s1, .int s2, .ref s3] lay M P = mF d 207 [.ref s3, .int s2, .int s1, .int s0] lay M (fun v lay1 M1 => mG (d + 1) 208 53 [a0, a1, a2, a3] (v.toList ++ []) lay1 M1 P) := e_virtP3 (j := 207) (c := 10) rfl rfl rfl rfl rfl rfl hs (Nat.le_of_ble_eq_true rfl)
set_option maxRecDepth 20000 in
theorem g208_53 {d : Nat} {a0 a1 a2 a3 : Option Value} {s0 : Int32} {lay : List mShp} {M : mMem} {P : mPost} (h0 : mNoL a2 = true) : mG (d) 208 53 [a0, a1, a2, a3] [.int s0] lay M P = mG d 208 54 [a0, a1, a2, some (.int s0)] [] lay M P := e_istore_n (i := 3) rfl rfl (by simp) (mS1_3 h0)
set_option maxRecDepth 20000 in
theorem g208_54 {d : Nat} {a0 a1 a3 : Option Value} {x : Int32} {lay : List mShp} {M : mMem} {P : mPost} : mG (d) 208 54 [a0, a1, some (.int x), a3] [] lay M P = mG d 208 55 [a0, a1, some (.int x), a3] [.int x] lay M P := e_iload_n (i := 2) rfl rfl rfl
set_option maxRecDepth 20000 in
theorem g208_55 {d : Nat} {a0 a1 a2 a3 : Option Value} {s0 : Int32} {lay : List mShp} {M : mMem} {P : mPost} : mG (d) 208 55 [a0, a1, a2, a3] [.int s0] lay M P = if s0 = 0 then mG d 208 58 [a0, a1, a2, a3] [] lay M P else mG d 208 62 [a0, a1, a2, a3] [] lay M P := e_if_ne rfl rfl
set_option maxRecDepth 20000 in
theorem g208_58 {d : Nat} {a0 a1 a2 : Option Value} {x : Int32} {lay : List mShp} {M : mMem} {P : mPost} : mG (d) 208 58 [a0, a1, a2, some (.int x)] [] lay M P = mG d 208 59 [a0, a1, a2, some (.int x)] [.int x] lay M P := e_iload_n (i := 3) rfl rfl rfl
set_option maxRecDepth 20000 in
theorem g208_59 {d : Nat} {a0 a1 a2 a3 : Option Value} {s0 : Int32} {lay : List mShp} {M : mMem} {P : mPost} : mG (d) 208 59 [a0, a1, a2, a3] [.int s0] lay M P = mG d 208 66 [a0, a1, a2, a3] [.int s0] lay M P := e_goto rfl rfl
set_option maxRecDepth 20000 in
theorem g208_62 {d : Nat} {a1 a2 a3 : Option Value} {x : Nat} {lay : List mShp} {M : mMem} {P : mPost} (hx : ¬ x = 0) : mG (d) 208 62 [some (.ref x), a1, a2, a3] [] lay M P = mG d 208 63 [some (.ref x), a1, a2, a3] [.ref x] lay M P := e_aload_nP hx (i := 0) rfl rfl rfl
set_option maxRecDepth 20000 in
theorem g208_63 {d : Nat} {a0 a1 a2 a3 : Option Value} {s0 : Nat} {lay : List mShp} {M : mMem} {P : mPost} (hs : mSh lay s0 = some (13, 44)) : mG (d) 208 63 [a0, a1, a2, a3] [.ref s0] lay M P = mG d 208 66 [a0, a1, a2, a3] [.int (M.1 s0 32)] lay M P := mG_of_and (mIsO_of hs (by decide)) (e_getI (ci := 10) (j := 32) rfl rfl rfl)
set_option maxRecDepth 20000 in
theorem g208_66 {d : Nat} {a0 a1 a2 a3 : Option Value} {s0 : Int32} {lay : List mShp} {M : mMem} {P : mPost} : mG (d) 208 66 [a0, a1, a2, a3] [.int s0] lay M P = P (some (.int s0)) lay M := e_ireturnI rfl rfl
-- 209 X10_drawn
theorem g209_in {d : Nat} {x0 : Nat} {x1 : Int32} {x2 : Int32} {x3 : Int32} {lay : List mShp} {M : mMem} {P : mPost} : mF d 209 [.ref x0, .int x1, .int x2, .int x3] lay M P = mG d 209 0 [some (.ref x0), some (.int x1), some (.int x2), some (.int x3), none, none, none, none, none] [] lay M P := mF_in rfl rfl
set_option maxRecDepth 20000 in
theorem g209_0 {d : Nat} {a0 a1 a3 a4 a5 a6 a7 a8 : Option Value} {x : Int32} {lay : List mShp} {M : mMem} {P : mPost} : mG (d) 209 0 [a0, a1, some (.int x), a3, a4, a5, a6, a7, a8] [] lay M P = mG d 209 1 [a0, a1, some (.int x), a3, a4, a5, a6, a7, a8] [.int x] lay M P := e_iload_n (i := 2) rfl rfl rfl
set_option maxRecDepth 20000 in
theorem g209_1 {d : Nat} {a0 a1 a2 a3 a4 a5 a6 a7 a8 : Option Value} {s0 : Int32} {lay : List mShp} {M : mMem} {P : mPost} : mG (d) 209 1 [a0, a1, a2, a3, a4, a5, a6, a7, a8] [.int s0] lay M P = if s0 < 0 then mG d 209 44 [a0, a1, a2, a3, a4, a5, a6, a7, a8] [] lay M P else mG d 209 4 [a0, a1, a2, a3, a4, a5, a6, a7, a8] [] lay M P := e_if_lt rfl rfl
set_option maxRecDepth 20000 in
theorem g209_4 {d : Nat} {a0 a1 a3 a4 a5 a6 a7 a8 : Option Value} {x : Int32} {lay : List mShp} {M : mMem} {P : mPost} : mG (d) 209 4 [a0, a1, some (.int x), a3, a4, a5, a6, a7, a8] [] lay M P = mG d 209 5 [a0, a1, some (.int x), a3, a4, a5, a6, a7, a8] [.int x] lay M P := e_iload_n (i := 2) rfl rfl rfl
set_option maxRecDepth 20000 in
theorem g209_5 {d : Nat} {a0 a1 a2 a3 a4 a5 a6 a7 a8 : Option Value} {s0 : Int32} {lay : List mShp} {M : mMem} {P : mPost} : mG (d) 209 5 [a0, a1, a2, a3, a4, a5, a6, a7, a8] [.int s0] lay M P = mG d 209 7 [a0, a1, a2, a3, a4, a5, a6, a7, a8] [.int (Int32.ofInt 100), .int s0] lay M P := e_bipush rfl
set_option maxRecDepth 20000 in
theorem g209_7 {d : Nat} {a0 a1 a2 a3 a4 a5 a6 a7 a8 : Option Value} {s0 : Int32} {s1 : Int32} {lay : List mShp} {M : mMem} {P : mPost} : mG (d) 209 7 [a0, a1, a2, a3, a4, a5, a6, a7, a8] [.int s0, .int s1] lay M P = (s0 ≠ 0 ∧ mG d 209 8 [a0, a1, a2, a3, a4, a5, a6, a7, a8] [.int (s1 / s0)] lay M P) := e_idiv rfl
set_option maxRecDepth 20000 in
theorem g209_8 {d : Nat} {a0 a1 a2 a3 a4 a5 a6 a7 a8 : Option Value} {s0 : Int32} {lay : List mShp} {M : mMem} {P : mPost} : mG (d) 209 8 [a0, a1, a2, a3, a4, a5, a6, a7, a8] [.int s0] lay M P = mG d 209 9 [a0, a1, a2, a3, a4, a5, a6, a7, a8] [.int (Int32.ofInt 1), .int s0] lay M P := e_iconst rfl
set_option maxRecDepth 20000 in
theorem g209_9 {d : Nat} {a0 a1 a2 a3 a4 a5 a6 a7 a8 : Option Value} {s0 : Int32} {s1 : Int32} {lay : List mShp} {M : mMem} {P : mPost} : mG (d) 209 9 [a0, a1, a2, a3, a4, a5, a6, a7, a8] [.int s0, .int s1] lay M P = mG d 209 11 [a0, a1, a2, a3, a4, a5, a6, a7, a8] [.int (Int32.ofInt 30), .int s0, .int s1] lay M P := e_bipush rfl
set_option maxRecDepth 20000 in
theorem g209_11 {d : Nat} {a0 a1 a2 a3 a4 a5 a6 a7 a8 : Option Value} {s0 : Int32} {s1 : Int32} {s2 : Int32} {lay : List mShp} {M : mMem} {P : mPost} : mG (d + 1) 209 11 [a0, a1, a2, a3, a4, a5, a6, a7, a8] [.int s0, .int s1, .int s2] lay M P = mF d 146 [.int s2, .int s1, .int s0] lay M (fun v lay1 M1 => mG (d + 1) 209 14 [a0, a1, a2, a3, a4, a5, a6, a7, a8] (v.toList ++ []) lay1 M1 P) := e_static3 (j := 146) rfl rfl rfl rfl rfl (Nat.le_of_ble_eq_true rfl)
set_option maxRecDepth 20000 in
theorem g209_14 {d : Nat} {a0 a1 a2 a3 a4 a5 a6 a7 a8 : Option Value} {s0 : Int32} {lay : List mShp} {M : mMem} {P : mPost} : mG (d) 209 14 [a0, a1, a2, a3, a4, a5, a6, a7, a8] [.int s0] lay M P = if s0 = 0 then mG d 209 44 [a0, a1, a2, a3, a4, a5, a6, a7, a8] [] lay M P else mG d 209 17 [a0, a1, a2, a3, a4, a5, a6, a7, a8] [] lay M P := e_if_eq rfl rfl
set_option maxRecDepth 20000 in
theorem g209_17 {d : Nat} {a0 a1 a3 a4 a5 a6 a7 a8 : Option Value} {x : Int32} {lay : List mShp} {M : mMem} {P : mPost} : mG (d) 209 17 [a0, a1, some (.int x), a3, a4, a5, a6, a7, a8] [] lay M P = mG d 209 18 [a0, a1, some (.int x), a3, a4, a5, a6, a7, a8] [.int x] lay M P := e_iload_n (i := 2) rfl rfl rfl
set_option maxRecDepth 20000 in
theorem g209_18 {d : Nat} {a0 a1 a2 a3 a4 a5 a6 a7 a8 : Option Value} {s0 : Int32} {lay : List mShp} {M : mMem} {P : mPost} : mG (d) 209 18 [a0, a1, a2, a3, a4, a5, a6, a7, a8] [.int s0] lay M P = mG d 209 20 [a0, a1, a2, a3, a4, a5, a6, a7, a8] [.int (Int32.ofInt 100), .int s0] lay M P := e_bipush rfl
set_option maxRecDepth 20000 in
theorem g209_20 {d : Nat} {a0 a1 a2 a3 a4 a5 a6 a7 a8 : Option Value} {s0 : Int32} {s1 : Int32} {lay : List mShp} {M : mMem} {P : mPost} : mG (d) 209 20 [a0, a1, a2, a3, a4, a5, a6, a7, a8] [.int s0, .int s1] lay M P = (s0 ≠ 0 ∧ mG d 209 21 [a0, a1, a2, a3, a4, a5, a6, a7, a8] [.int (s1 - s1 / s0 * s0)] lay M P) := e_irem rfl
set_option maxRecDepth 20000 in
theorem g209_21 {d : Nat} {a0 a1 a2 a3 a4 a5 a6 a7 a8 : Option Value} {s0 : Int32} {lay : List mShp} {M : mMem} {P : mPost} : mG (d) 209 21 [a0, a1, a2, a3, a4, a5, a6, a7, a8] [.int s0] lay M P = mG d 209 22 [a0, a1, a2, a3, a4, a5, a6, a7, a8] [.int (Int32.ofInt 1), .int s0] lay M P := e_iconst rfl
set_option maxRecDepth 20000 in
theorem g209_22 {d : Nat} {a0 a1 a2 a3 a4 a5 a6 a7 a8 : Option Value} {s0 : Int32} {s1 : Int32} {lay : List mShp} {M : mMem} {P : mPost} : mG (d) 209 22 [a0, a1, a2, a3, a4, a5, a6, a7, a8] [.int s0, .int s1] lay M P = mG d 209 24 [a0, a1, a2, a3, a4, a5, a6, a7, a8] [.int (Int32.ofInt 40), .int s0, .int s1] lay M P := e_bipush rfl
set_option maxRecDepth 20000 in
theorem g209_24 {d : Nat} {a0 a1 a2 a3 a4 a5 a6 a7 a8 : Option Value} {s0 : Int32} {s1 : Int32} {s2 : Int32} {lay : List mShp} {M : mMem} {P : mPost} : mG (d + 1) 209 24 [a0, a1, a2, a3, a4, a5, a6, a7, a8] [.int s0, .int s1, .int s2] lay M P = mF d 146 [.int s2, .int s1, .int s0] lay M (fun v lay1 M1 => mG (d + 1) 209 27 [a0, a1, a2, a3, a4, a5, a6, a7, a8] (v.toList ++ []) lay1 M1 P) := e_static3 (j := 146) rfl rfl rfl rfl rfl (Nat.le_of_ble_eq_true rfl)
set_option maxRecDepth 20000 in
theorem g209_27 {d : Nat} {a0 a1 a2 a3 a4 a5 a6 a7 a8 : Option Value} {s0 : Int32} {lay : List mShp} {M : mMem} {P : mPost} : mG (d) 209 27 [a0, a1, a2, a3, a4, a5, a6, a7, a8] [.int s0] lay M P = if s0 = 0 then mG d 209 44 [a0, a1, a2, a3, a4, a5, a6, a7, a8] [] lay M P else mG d 209 30 [a0, a1, a2, a3, a4, a5, a6, a7, a8] [] lay M P := e_if_eq rfl rfl
set_option maxRecDepth 20000 in
theorem g209_30 {d : Nat} {a0 a1 a2 a4 a5 a6 a7 a8 : Option Value} {x : Int32} {lay : List mShp} {M : mMem} {P : mPost} : mG (d) 209 30 [a0, a1, a2, some (.int x), a4, a5, a6, a7, a8] [] lay M P = mG d 209 31 [a0, a1, a2, some (.int x), a4, a5, a6, a7, a8] [.int x] lay M P := e_iload_n (i := 3) rfl rfl rfl
set_option maxRecDepth 20000 in
theorem g209_31 {d : Nat} {a0 a1 a2 a3 a4 a5 a6 a7 a8 : Option Value} {s0 : Int32} {lay : List mShp} {M : mMem} {P : mPost} : mG (d) 209 31 [a0, a1, a2, a3, a4, a5, a6, a7, a8] [.int s0] lay M P = mG d 209 32 [a0, a1, a2, a3, a4, a5, a6, a7, a8] [.int (Int32.ofInt (-1)), .int s0] lay M P := e_iconst rfl
set_option maxRecDepth 20000 in
theorem g209_32 {d : Nat} {a1 a2 a3 a4 a5 a6 a7 a8 : Option Value} {s0 : Int32} {s1 : Int32} {x : Nat} {lay : List mShp} {M : mMem} {P : mPost} (hx : ¬ x = 0) : mG (d) 209 32 [some (.ref x), a1, a2, a3, a4, a5, a6, a7, a8] [.int s0, .int s1] lay M P = mG d 209 33 [some (.ref x), a1, a2, a3, a4, a5, a6, a7, a8] [.ref x, .int s0, .int s1] lay M P := e_aload_nP hx (i := 0) rfl rfl rfl
set_option maxRecDepth 20000 in
theorem g209_33 {d : Nat} {a0 a1 a2 a3 a4 a5 a6 a7 a8 : Option Value} {s0 : Nat} {s1 : Int32} {s2 : Int32} {lay : List mShp} {M : mMem} {P : mPost} (hs : mSh lay s0 = some (13, 44)) : mG (d) 209 33 [a0, a1, a2, a3, a4, a5, a6, a7, a8] [.ref s0, .int s1, .int s2] lay M P = mG d 209 36 [a0, a1, a2, a3, a4, a5, a6, a7, a8] [.int (M.1 s0 2), .int s1, .int s2] lay M P := mG_of_and (mIsO_of hs (by decide)) (e_getI (ci := 10) (j := 2) rfl rfl rfl)
set_option maxRecDepth 20000 in
theorem g209_36 {d : Nat} {a0 a1 a2 a3 a4 a5 a6 a7 a8 : Option Value} {s0 : Int32} {s1 : Int32} {s2 : Int32} {lay : List mShp} {M : mMem} {P : mPost} : mG (d) 209 36 [a0, a1, a2, a3, a4, a5, a6, a7, a8] [.int s0, .int s1, .int s2] lay M P = mG d 209 37 [a0, a1, a2, a3, a4, a5, a6, a7, a8] [.int (Int32.ofInt 1), .int s0, .int s1, .int s2] lay M P := e_iconst rfl
set_option maxRecDepth 20000 in
theorem g209_37 {d : Nat} {a0 a1 a2 a3 a4 a5 a6 a7 a8 : Option Value} {s0 : Int32} {s1 : Int32} {s2 : Int32} {s3 : Int32} {lay : List mShp} {M : mMem} {P : mPost} : mG (d) 209 37 [a0, a1, a2, a3, a4, a5, a6, a7, a8] [.int s0, .int s1, .int s2, .int s3] lay M P = mG d 209 38 [a0, a1, a2, a3, a4, a5, a6, a7, a8] [.int (s1 - s0), .int s2, .int s3] lay M P := e_isub rfl
set_option maxRecDepth 20000 in
theorem g209_38 {d : Nat} {a0 a1 a2 a3 a4 a5 a6 a7 a8 : Option Value} {s0 : Int32} {s1 : Int32} {s2 : Int32} {lay : List mShp} {M : mMem} {P : mPost} : mG (d + 1) 209 38 [a0, a1, a2, a3, a4, a5, a6, a7, a8] [.int s0, .int s1, .int s2] lay M P = mF d 146 [.int s2, .int s1, .int s0] lay M (fun v lay1 M1 => mG (d + 1) 209 41 [a0, a1, a2, a3, a4, a5, a6, a7, a8] (v.toList ++ []) lay1 M1 P) := e_static3 (j := 146) rfl rfl rfl rfl rfl (Nat.le_of_ble_eq_true rfl)
set_option maxRecDepth 20000 in
theorem g209_41 {d : Nat} {a0 a1 a2 a3 a4 a5 a6 a7 a8 : Option Value} {s0 : Int32} {lay : List mShp} {M : mMem} {P : mPost} : mG (d) 209 41 [a0, a1, a2, a3, a4, a5, a6, a7, a8] [.int s0] lay M P = if s0 = 0 then mG d 209 44 [a0, a1, a2, a3, a4, a5, a6, a7, a8] [] lay M P else mG d 209 46 [a0, a1, a2, a3, a4, a5, a6, a7, a8] [] lay M P := e_if_ne rfl rfl
set_option maxRecDepth 20000 in
theorem g209_44 {d : Nat} {a0 a1 a2 a3 a4 a5 a6 a7 a8 : Option Value} {lay : List mShp} {M : mMem} {P : mPost} : mG (d) 209 44 [a0, a1, a2, a3, a4, a5, a6, a7, a8] [] lay M P = mG d 209 45 [a0, a1, a2, a3, a4, a5, a6, a7, a8] [.int (Int32.ofInt (-1))] lay M P := e_iconst rfl
set_option maxRecDepth 20000 in
theorem g209_45 {d : Nat} {a0 a1 a2 a3 a4 a5 a6 a7 a8 : Option Value} {s0 : Int32} {lay : List mShp} {M : mMem} {P : mPost} : mG (d) 209 45 [a0, a1, a2, a3, a4, a5, a6, a7, a8] [.int s0] lay M P = P (some (.int s0)) lay M := e_ireturnI rfl rfl
set_option maxRecDepth 20000 in
theorem g209_46 {d : Nat} {a0 a2 a3 a4 a5 a6 a7 a8 : Option Value} {x : Int32} {lay : List mShp} {M : mMem} {P : mPost} : mG (d) 209 46 [a0, some (.int x), a2, a3, a4, a5, a6, a7, a8] [] lay M P = mG d 209 47 [a0, some (.int x), a2, a3, a4, a5, a6, a7, a8] [.int x] lay M P := e_iload_n (i := 1) rfl rfl rfl
set_option maxRecDepth 20000 in
theorem g209_47 {d : Nat} {a0 a1 a2 a3 a4 a5 a6 a7 a8 : Option Value} {s0 : Int32} {lay : List mShp} {M : mMem} {P : mPost} (h0 : mNoL a3 = true) : mG (d) 209 47 [a0, a1, a2, a3, a4, a5, a6, a7, a8] [.int s0] lay M P = mG d 209 49 [a0, a1, a2, a3, some (.int s0), a5, a6, a7, a8] [] lay M P := e_istore (i := 4) rfl (by simp) (mS1_4 h0)
set_option maxRecDepth 20000 in
theorem g209_49 {d : Nat} {a0 a1 a2 a3 a4 a5 a6 a7 a8 : Option Value} {lay : List mShp} {M : mMem} {P : mPost} : mG (d) 209 49 [a0, a1, a2, a3, a4, a5, a6, a7, a8] [] lay M P = mG d 209 50 [a0, a1, a2, a3, a4, a5, a6, a7, a8] [.int (Int32.ofInt 0)] lay M P := e_iconst rfl
set_option maxRecDepth 20000 in
theorem g209_50 {d : Nat} {a0 a1 a2 a3 a4 a5 a6 a7 a8 : Option Value} {s0 : Int32} {lay : List mShp} {M : mMem} {P : mPost} (h0 : mNoL a4 = true) : mG (d) 209 50 [a0, a1, a2, a3, a4, a5, a6, a7, a8] [.int s0] lay M P = mG d 209 52 [a0, a1, a2, a3, a4, some (.int s0), a6, a7, a8] [] lay M P := e_istore (i := 5) rfl (by simp) (mS1_5 h0)
set_option maxRecDepth 20000 in
theorem g209_52 {d : Nat} {a0 a1 a2 a3 a4 a5 a6 a7 a8 : Option Value} {lay : List mShp} {M : mMem} {P : mPost} : mG (d) 209 52 [a0, a1, a2, a3, a4, a5, a6, a7, a8] [] lay M P = mG d 209 53 [a0, a1, a2, a3, a4, a5, a6, a7, a8] [.int (Int32.ofInt 0)] lay M P := e_iconst rfl
set_option maxRecDepth 20000 in
theorem g209_53 {d : Nat} {a0 a1 a2 a3 a4 a5 a6 a7 a8 : Option Value} {s0 : Int32} {lay : List mShp} {M : mMem} {P : mPost} (h0 : mNoL a5 = true) : mG (d) 209 53 [a0, a1, a2, a3, a4, a5, a6, a7, a8] [.int s0] lay M P = mG d 209 55 [a0, a1, a2, a3, a4, a5, some (.int s0), a7, a8] [] lay M P := e_istore (i := 6) rfl (by simp) (mS1_6 h0)
set_option maxRecDepth 20000 in
theorem g209_55 {d : Nat} {a0 a1 a2 a3 a4 a5 a7 a8 : Option Value} {x : Int32} {lay : List mShp} {M : mMem} {P : mPost} : mG (d) 209 55 [a0, a1, a2, a3, a4, a5, some (.int x), a7, a8] [] lay M P = mG d 209 57 [a0, a1, a2, a3, a4, a5, some (.int x), a7, a8] [.int x] lay M P := e_iload (i := 6) rfl rfl
set_option maxRecDepth 20000 in
theorem g209_57 {d : Nat} {a0 a1 a3 a4 a5 a6 a7 a8 : Option Value} {s0 : Int32} {x : Int32} {lay : List mShp} {M : mMem} {P : mPost} : mG (d) 209 57 [a0, a1, some (.int x), a3, a4, a5, a6, a7, a8] [.int s0] lay M P = mG d 209 58 [a0, a1, some (.int x), a3, a4, a5, a6, a7, a8] [.int x, .int s0] lay M P := e_iload_n (i := 2) rfl rfl rfl
set_option maxRecDepth 20000 in
theorem g209_58 {d : Nat} {a0 a1 a2 a3 a4 a5 a6 a7 a8 : Option Value} {s0 : Int32} {s1 : Int32} {lay : List mShp} {M : mMem} {P : mPost} : mG (d) 209 58 [a0, a1, a2, a3, a4, a5, a6, a7, a8] [.int s0, .int s1] lay M P = mG d 209 60 [a0, a1, a2, a3, a4, a5, a6, a7, a8] [.int (Int32.ofInt 100), .int s0, .int s1] lay M P := e_bipush rfl
set_option maxRecDepth 20000 in
theorem g209_60 {d : Nat} {a0 a1 a2 a3 a4 a5 a6 a7 a8 : Option Value} {s0 : Int32} {s1 : Int32} {s2 : Int32} {lay : List mShp} {M : mMem} {P : mPost} : mG (d) 209 60 [a0, a1, a2, a3, a4, a5, a6, a7, a8] [.int s0, .int s1, .int s2] lay M P = (s0 ≠ 0 ∧ mG d 209 61 [a0, a1, a2, a3, a4, a5, a6, a7, a8] [.int (s1 / s0), .int s2] lay M P) := e_idiv rfl
set_option maxRecDepth 20000 in
theorem g209_61 {d : Nat} {a0 a1 a2 a3 a4 a5 a6 a7 a8 : Option Value} {s0 : Int32} {s1 : Int32} {lay : List mShp} {M : mMem} {P : mPost} : mG (d) 209 61 [a0, a1, a2, a3, a4, a5, a6, a7, a8] [.int s0, .int s1] lay M P = if s1 < s0 then mG d 209 64 [a0, a1, a2, a3, a4, a5, a6, a7, a8] [] lay M P else mG d 209 186 [a0, a1, a2, a3, a4, a5, a6, a7, a8] [] lay M P := e_icmp_ge rfl rfl
set_option maxRecDepth 20000 in
theorem g209_64 {d : Nat} {a1 a2 a3 a4 a5 a6 a7 a8 : Option Value} {x : Nat} {lay : List mShp} {M : mMem} {P : mPost} (hx : ¬ x = 0) : mG (d) 209 64 [some (.ref x), a1, a2, a3, a4, a5, a6, a7, a8] [] lay M P = mG d 209 65 [some (.ref x), a1, a2, a3, a4, a5, a6, a7, a8] [.ref x] lay M P := e_aload_nP hx (i := 0) rfl rfl rfl
set_option maxRecDepth 20000 in
theorem g209_65 {d : Nat} {a0 a1 a2 a3 a4 a5 a6 a7 a8 : Option Value} {s0 : Nat} {lay : List mShp} {M : mMem} {P : mPost} : mG (d) 209 65 [a0, a1, a2, a3, a4, a5, a6, a7, a8] [.ref s0] lay M P = mG d 209 66 [a0, a1, a2, a3, a4, a5, a6, a7, a8] [.int (Int32.ofInt 0), .ref s0] lay M P := e_iconst rfl
set_option maxRecDepth 20000 in
theorem g209_66 {d : Nat} {a0 a1 a2 a3 a4 a5 a6 a7 a8 : Option Value} {s0 : Int32} {s1 : Nat} {lay : List mShp} {M : mMem} {P : mPost} (hs : mSh lay s1 = some (13, 44)) : mG (d + 1) 209 66 [a0, a1, a2, a3, a4, a5, a6, a7, a8] [.int s0, .ref s1] lay M P = mF d 149 [.ref s1, .int s0] lay M (fun v lay1 M1 => mG (d + 1) 209 69 [a0, a1, a2, a3, a4, a5, a6, a7, a8] (v.toList ++ []) lay1 M1 P) := e_virtP1 (j := 149) (c := 10) rfl rfl rfl rfl rfl rfl hs (Nat.le_of_ble_eq_true rfl)
set_option maxRecDepth 20000 in
theorem g209_69 {d : Nat} {a0 a1 a2 a3 a4 a5 a6 a7 a8 : Option Value} {lay : List mShp} {M : mMem} {P : mPost} : mG (d) 209 69 [a0, a1, a2, a3, a4, a5, a6, a7, a8] [] lay M P = mG d 209 70 [a0, a1, a2, a3, a4, a5, a6, a7, a8] [.int (Int32.ofInt 0)] lay M P := e_iconst rfl
set_option maxRecDepth 20000 in
theorem g209_70 {d : Nat} {a0 a1 a2 a3 a4 a5 a6 a7 a8 : Option Value} {s0 : Int32} {lay : List mShp} {M : mMem} {P : mPost} (h0 : mNoL a6 = true) : mG (d) 209 70 [a0, a1, a2, a3, a4, a5, a6, a7, a8] [.int s0] lay M P = mG d 209 72 [a0, a1, a2, a3, a4, a5, a6, some (.int s0), a8] [] lay M P := e_istore (i := 7) rfl (by simp) (mS1_7 h0)
set_option maxRecDepth 20000 in
theorem g209_72 {d : Nat} {a0 a1 a2 a3 a4 a5 a6 a8 : Option Value} {x : Int32} {lay : List mShp} {M : mMem} {P : mPost} : mG (d) 209 72 [a0, a1, a2, a3, a4, a5, a6, some (.int x), a8] [] lay M P = mG d 209 74 [a0, a1, a2, a3, a4, a5, a6, some (.int x), a8] [.int x] lay M P := e_iload (i := 7) rfl rfl
set_option maxRecDepth 20000 in
theorem g209_74 {d : Nat} {a0 a1 a3 a4 a5 a6 a7 a8 : Option Value} {s0 : Int32} {x : Int32} {lay : List mShp} {M : mMem} {P : mPost} : mG (d) 209 74 [a0, a1, some (.int x), a3, a4, a5, a6, a7, a8] [.int s0] lay M P = mG d 209 75 [a0, a1, some (.int x), a3, a4, a5, a6, a7, a8] [.int x, .int s0] lay M P := e_iload_n (i := 2) rfl rfl rfl
set_option maxRecDepth 20000 in
theorem g209_75 {d : Nat} {a0 a1 a2 a3 a4 a5 a6 a7 a8 : Option Value} {s0 : Int32} {s1 : Int32} {lay : List mShp} {M : mMem} {P : mPost} : mG (d) 209 75 [a0, a1, a2, a3, a4, a5, a6, a7, a8] [.int s0, .int s1] lay M P = mG d 209 77 [a0, a1, a2, a3, a4, a5, a6, a7, a8] [.int (Int32.ofInt 100), .int s0, .int s1] lay M P := e_bipush rfl
set_option maxRecDepth 20000 in
theorem g209_77 {d : Nat} {a0 a1 a2 a3 a4 a5 a6 a7 a8 : Option Value} {s0 : Int32} {s1 : Int32} {s2 : Int32} {lay : List mShp} {M : mMem} {P : mPost} : mG (d) 209 77 [a0, a1, a2, a3, a4, a5, a6, a7, a8] [.int s0, .int s1, .int s2] lay M P = (s0 ≠ 0 ∧ mG d 209 78 [a0, a1, a2, a3, a4, a5, a6, a7, a8] [.int (s1 - s1 / s0 * s0), .int s2] lay M P) := e_irem rfl
set_option maxRecDepth 20000 in
theorem g209_78 {d : Nat} {a0 a1 a2 a3 a4 a5 a6 a7 a8 : Option Value} {s0 : Int32} {s1 : Int32} {lay : List mShp} {M : mMem} {P : mPost} : mG (d) 209 78 [a0, a1, a2, a3, a4, a5, a6, a7, a8] [.int s0, .int s1] lay M P = if s1 < s0 then mG d 209 81 [a0, a1, a2, a3, a4, a5, a6, a7, a8] [] lay M P else mG d 209 149 [a0, a1, a2, a3, a4, a5, a6, a7, a8] [] lay M P := e_icmp_ge rfl rfl
set_option maxRecDepth 20000 in
theorem g209_81 {d : Nat} {a1 a2 a3 a4 a5 a6 a7 a8 : Option Value} {x : Nat} {lay : List mShp} {M : mMem} {P : mPost} (hx : ¬ x = 0) : mG (d) 209 81 [some (.ref x), a1, a2, a3, a4, a5, a6, a7, a8] [] lay M P = mG d 209 82 [some (.ref x), a1, a2, a3, a4, a5, a6, a7, a8] [.ref x] lay M P := e_aload_nP hx (i := 0) rfl rfl rfl
set_option maxRecDepth 20000 in
theorem g209_82 {d : Nat} {a0 a1 a2 a3 a4 a5 a6 a7 a8 : Option Value} {s0 : Nat} {lay : List mShp} {M : mMem} {P : mPost} (hs : mSh lay s0 = some (13, 44)) : mG (d) 209 82 [a0, a1, a2, a3, a4, a5, a6, a7, a8] [.ref s0] lay M P = mG d 209 85 [a0, a1, a2, a3, a4, a5, a6, a7, a8] [.int (M.1 s0 2)] lay M P := mG_of_and (mIsO_of hs (by decide)) (e_getI (ci := 10) (j := 2) rfl rfl rfl)
set_option maxRecDepth 20000 in
theorem g209_85 {d : Nat} {a0 a1 a2 a3 a4 a5 a6 a7 a8 : Option Value} {s0 : Int32} {lay : List mShp} {M : mMem} {P : mPost} : mG (d) 209 85 [a0, a1, a2, a3, a4, a5, a6, a7, a8] [.int s0] lay M P = if 0 < s0 then mG d 209 88 [a0, a1, a2, a3, a4, a5, a6, a7, a8] [] lay M P else mG d 209 149 [a0, a1, a2, a3, a4, a5, a6, a7, a8] [] lay M P := e_if_le rfl rfl
set_option maxRecDepth 20000 in
theorem g209_88 {d : Nat} {a0 a1 a2 a3 a5 a6 a7 a8 : Option Value} {x : Int32} {lay : List mShp} {M : mMem} {P : mPost} : mG (d) 209 88 [a0, a1, a2, a3, some (.int x), a5, a6, a7, a8] [] lay M P = mG d 209 90 [a0, a1, a2, a3, some (.int x), a5, a6, a7, a8] [.int x] lay M P := e_iload (i := 4) rfl rfl
set_option maxRecDepth 20000 in
theorem g209_90 {d : Nat} {a0 a1 a2 a3 a4 a5 a6 a7 a8 : Option Value} {s0 : Int32} {lay : List mShp} {M : mMem} {P : mPost} : mG (d) 209 90 [a0, a1, a2, a3, a4, a5, a6, a7, a8] [.int s0] lay M P = mG d 209 93 [a0, a1, a2, a3, a4, a5, a6, a7, a8] [.int (Int32.ofInt 1103515245), .int s0] lay M P := e_ldc_w rfl rfl
set_option maxRecDepth 20000 in
theorem g209_93 {d : Nat} {a0 a1 a2 a3 a4 a5 a6 a7 a8 : Option Value} {s0 : Int32} {s1 : Int32} {lay : List mShp} {M : mMem} {P : mPost} : mG (d) 209 93 [a0, a1, a2, a3, a4, a5, a6, a7, a8] [.int s0, .int s1] lay M P = mG d 209 94 [a0, a1, a2, a3, a4, a5, a6, a7, a8] [.int (s1 * s0)] lay M P := e_imul rfl
set_option maxRecDepth 20000 in
theorem g209_94 {d : Nat} {a0 a1 a2 a3 a4 a5 a6 a7 a8 : Option Value} {s0 : Int32} {lay : List mShp} {M : mMem} {P : mPost} : mG (d) 209 94 [a0, a1, a2, a3, a4, a5, a6, a7, a8] [.int s0] lay M P = mG d 209 97 [a0, a1, a2, a3, a4, a5, a6, a7, a8] [.int (Int32.ofInt 12345), .int s0] lay M P := e_sipush rfl
set_option maxRecDepth 20000 in
theorem g209_97 {d : Nat} {a0 a1 a2 a3 a4 a5 a6 a7 a8 : Option Value} {s0 : Int32} {s1 : Int32} {lay : List mShp} {M : mMem} {P : mPost} : mG (d) 209 97 [a0, a1, a2, a3, a4, a5, a6, a7, a8] [.int s0, .int s1] lay M P = mG d 209 98 [a0, a1, a2, a3, a4, a5, a6, a7, a8] [.int (s1 + s0)] lay M P := e_iadd rfl
set_option maxRecDepth 20000 in
theorem g209_98 {d : Nat} {a0 a1 a2 a3 a4 a5 a6 a7 a8 : Option Value} {s0 : Int32} {lay : List mShp} {M : mMem} {P : mPost} (h0 : mNoL a3 = true) : mG (d) 209 98 [a0, a1, a2, a3, a4, a5, a6, a7, a8] [.int s0] lay M P = mG d 209 100 [a0, a1, a2, a3, some (.int s0), a5, a6, a7, a8] [] lay M P := e_istore (i := 4) rfl (by simp) (mS1_4 h0)
set_option maxRecDepth 20000 in
theorem g209_100 {d : Nat} {a0 a1 a2 a3 a5 a6 a7 a8 : Option Value} {x : Int32} {lay : List mShp} {M : mMem} {P : mPost} : mG (d) 209 100 [a0, a1, a2, a3, some (.int x), a5, a6, a7, a8] [] lay M P = mG d 209 102 [a0, a1, a2, a3, some (.int x), a5, a6, a7, a8] [.int x] lay M P := e_iload (i := 4) rfl rfl
set_option maxRecDepth 20000 in
theorem g209_102 {d : Nat} {a0 a1 a2 a3 a4 a5 a6 a7 a8 : Option Value} {s0 : Int32} {lay : List mShp} {M : mMem} {P : mPost} : mG (d) 209 102 [a0, a1, a2, a3, a4, a5, a6, a7, a8] [.int s0] lay M P = mG d 209 104 [a0, a1, a2, a3, a4, a5, a6, a7, a8] [.int (Int32.ofInt 8), .int s0] lay M P := e_bipush rfl
set_option maxRecDepth 20000 in
theorem g209_104 {d : Nat} {a0 a1 a2 a3 a4 a5 a6 a7 a8 : Option Value} {s0 : Int32} {s1 : Int32} {lay : List mShp} {M : mMem} {P : mPost} : mG (d) 209 104 [a0, a1, a2, a3, a4, a5, a6, a7, a8] [.int s0, .int s1] lay M P = mG d 209 105 [a0, a1, a2, a3, a4, a5, a6, a7, a8] [.int ((s1.toUInt32 >>> (s0.toUInt32 &&& Int32.toUInt32 31)).toInt32)] lay M P := e_iushr rfl
set_option maxRecDepth 20000 in
theorem g209_105 {d : Nat} {a1 a2 a3 a4 a5 a6 a7 a8 : Option Value} {s0 : Int32} {x : Nat} {lay : List mShp} {M : mMem} {P : mPost} (hx : ¬ x = 0) : mG (d) 209 105 [some (.ref x), a1, a2, a3, a4, a5, a6, a7, a8] [.int s0] lay M P = mG d 209 106 [some (.ref x), a1, a2, a3, a4, a5, a6, a7, a8] [.ref x, .int s0] lay M P := e_aload_nP hx (i := 0) rfl rfl rfl
set_option maxRecDepth 20000 in
theorem g209_106 {d : Nat} {a0 a1 a2 a3 a4 a5 a6 a7 a8 : Option Value} {s0 : Nat} {s1 : Int32} {lay : List mShp} {M : mMem} {P : mPost} (hs : mSh lay s0 = some (13, 44)) : mG (d) 209 106 [a0, a1, a2, a3, a4, a5, a6, a7, a8] [.ref s0, .int s1] lay M P = mG d 209 109 [a0, a1, a2, a3, a4, a5, a6, a7, a8] [.int (M.1 s0 2), .int s1] lay M P := mG_of_and (mIsO_of hs (by decide)) (e_getI (ci := 10) (j := 2) rfl rfl rfl)
set_option maxRecDepth 20000 in
theorem g209_109 {d : Nat} {a0 a1 a2 a3 a4 a5 a6 a7 a8 : Option Value} {s0 : Int32} {s1 : Int32} {lay : List mShp} {M : mMem} {P : mPost} : mG (d) 209 109 [a0, a1, a2, a3, a4, a5, a6, a7, a8] [.int s0, .int s1] lay M P = (s0 ≠ 0 ∧ mG d 209 110 [a0, a1, a2, a3, a4, a5, a6, a7, a8] [.int (s1 - s1 / s0 * s0)] lay M P) := e_irem rfl
set_option maxRecDepth 20000 in
theorem g209_110 {d : Nat} {a0 a1 a2 a3 a4 a5 a6 a7 a8 : Option Value} {s0 : Int32} {lay : List mShp} {M : mMem} {P : mPost} (h0 : mNoL a7 = true) : mG (d) 209 110 [a0, a1, a2, a3, a4, a5, a6, a7, a8] [.int s0] lay M P = mG d 209 112 [a0, a1, a2, a3, a4, a5, a6, a7, some (.int s0)] [] lay M P := e_istore (i := 8) rfl (by simp) (mS1_8 h0)
set_option maxRecDepth 20000 in
theorem g209_112 {d : Nat} {a1 a2 a3 a4 a5 a6 a7 a8 : Option Value} {x : Nat} {lay : List mShp} {M : mMem} {P : mPost} (hx : ¬ x = 0) : mG (d) 209 112 [some (.ref x), a1, a2, a3, a4, a5, a6, a7, a8] [] lay M P = mG d 209 113 [some (.ref x), a1, a2, a3, a4, a5, a6, a7, a8] [.ref x] lay M P := e_aload_nP hx (i := 0) rfl rfl rfl
set_option maxRecDepth 20000 in
theorem g209_113 {d : Nat} {a0 a1 a2 a3 a4 a5 a6 a7 : Option Value} {s0 : Nat} {x : Int32} {lay : List mShp} {M : mMem} {P : mPost} : mG (d) 209 113 [a0, a1, a2, a3, a4, a5, a6, a7, some (.int x)] [.ref s0] lay M P = mG d 209 115 [a0, a1, a2, a3, a4, a5, a6, a7, some (.int x)] [.int x, .ref s0] lay M P := e_iload (i := 8) rfl rfl
set_option maxRecDepth 20000 in
theorem g209_115 {d : Nat} {a0 a1 a2 a3 a4 a5 a6 a7 a8 : Option Value} {s0 : Int32} {s1 : Nat} {lay : List mShp} {M : mMem} {P : mPost} : mG (d) 209 115 [a0, a1, a2, a3, a4, a5, a6, a7, a8] [.int s0, .ref s1] lay M P = mG d 209 116 [a0, a1, a2, a3, a4, a5, a6, a7, a8] [.int (Int32.ofInt 3), .int s0, .ref s1] lay M P := e_iconst rfl
set_option maxRecDepth 20000 in
theorem g209_116 {d : Nat} {a0 a1 a2 a3 a4 a5 a6 a7 a8 : Option Value} {s0 : Int32} {s1 : Int32} {s2 : Nat} {lay : List mShp} {M : mMem} {P : mPost} : mG (d) 209 116 [a0, a1, a2, a3, a4, a5, a6, a7, a8] [.int s0, .int s1, .ref s2] lay M P = mG d 209 117 [a0, a1, a2, a3, a4, a5, a6, a7, a8] [.int (Int32.ofInt 0), .int s0, .int s1, .ref s2] lay M P := e_iconst rfl
set_option maxRecDepth 20000 in
theorem g209_117 {d : Nat} {a1 a2 a3 a4 a5 a6 a7 a8 : Option Value} {s0 : Int32} {s1 : Int32} {s2 : Int32} {s3 : Nat} {x : Nat} {lay : List mShp} {M : mMem} {P : mPost} (hx : ¬ x = 0) : mG (d) 209 117 [some (.ref x), a1, a2, a3, a4, a5, a6, a7, a8] [.int s0, .int s1, .int s2, .ref s3] lay M P = mG d 209 118 [some (.ref x), a1, a2, a3, a4, a5, a6, a7, a8] [.ref x, .int s0, .int s1, .int s2, .ref s3] lay M P := e_aload_nP hx (i := 0) rfl rfl rfl
set_option maxRecDepth 20000 in
theorem g209_118 {d : Nat} {a0 a1 a2 a3 a4 a5 a6 a7 : Option Value} {s0 : Nat} {s1 : Int32} {s2 : Int32} {s3 : Int32} {s4 : Nat} {x : Int32} {lay : List mShp} {M : mMem} {P : mPost} : mG (d) 209 118 [a0, a1, a2, a3, a4, a5, a6, a7, some (.int x)] [.ref s0, .int s1, .int s2, .int s3, .ref s4] lay M P = mG d 209 120 [a0, a1, a2, a3, a4, a5, a6, a7, some (.int x)] [.int x, .ref s0, .int s1, .int s2, .int s3, .ref s4] lay M P := e_iload (i := 8) rfl rfl
set_option maxRecDepth 20000 in
theorem g209_120 {d : Nat} {a0 a1 a2 a3 a4 a5 a6 a7 a8 : Option Value} {s0 : Int32} {s1 : Nat} {s2 : Int32} {s3 : Int32} {s4 : Int32} {s5 : Nat} {lay : List mShp} {M : mMem} {P : mPost} : mG (d) 209 120 [a0, a1, a2, a3, a4, a5, a6, a7, a8] [.int s0, .ref s1, .int s2, .int s3, .int s4, .ref s5] lay M P = mG d 209 121 [a0, a1, a2, a3, a4, a5, a6, a7, a8] [.int (Int32.ofInt 3), .int s0, .ref s1, .int s2, .int s3, .int s4, .ref s5] lay M P := e_iconst rfl
set_option maxRecDepth 20000 in
theorem g209_121 {d : Nat} {a0 a1 a2 a3 a4 a5 a6 a7 a8 : Option Value} {s0 : Int32} {s1 : Int32} {s2 : Nat} {s3 : Int32} {s4 : Int32} {s5 : Int32} {s6 : Nat} {lay : List mShp} {M : mMem} {P : mPost} (hs : mSh lay s2 = some (13, 44)) : mG (d + 1) 209 121 [a0, a1, a2, a3, a4, a5, a6, a7, a8] [.int s0, .int s1, .ref s2, .int s3, .int s4, .int s5, .ref s6] lay M P = mF d 152 [.ref s2, .int s1, .int s0] lay M (fun v lay1 M1 => mG (d + 1) 209 124 [a0, a1, a2, a3, a4, a5, a6, a7, a8] (v.toList ++ [.int s3, .int s4, .int s5, .ref s6]) lay1 M1 P) := e_virtP2 (j := 152) (c := 10) rfl rfl rfl rfl rfl rfl hs (Nat.le_of_ble_eq_true rfl)
set_option maxRecDepth 20000 in
theorem g209_124 {d : Nat} {a0 a1 a2 a3 a5 a6 a7 a8 : Option Value} {s0 : Int32} {s1 : Int32} {s2 : Int32} {s3 : Int32} {s4 : Nat} {x : Int32} {lay : List mShp} {M : mMem} {P : mPost} : mG (d) 209 124 [a0, a1, a2, a3, some (.int x), a5, a6, a7, a8] [.int s0, .int s1, .int s2, .int s3, .ref s4] lay M P = mG d 209 126 [a0, a1, a2, a3, some (.int x), a5, a6, a7, a8] [.int x, .int s0, .int s1, .int s2, .int s3, .ref s4] lay M P := e_iload (i := 4) rfl rfl
set_option maxRecDepth 20000 in
theorem g209_126 {d : Nat} {a0 a1 a2 a3 a4 a5 a6 a7 a8 : Option Value} {s0 : Int32} {s1 : Int32} {s2 : Int32} {s3 : Int32} {s4 : Int32} {s5 : Nat} {lay : List mShp} {M : mMem} {P : mPost} : mG (d) 209 126 [a0, a1, a2, a3, a4, a5, a6, a7, a8] [.int s0, .int s1, .int s2, .int s3, .int s4, .ref s5] lay M P = mG d 209 128 [a0, a1, a2, a3, a4, a5, a6, a7, a8] [.int (Int32.ofInt 16), .int s0, .int s1, .int s2, .int s3, .int s4, .ref s5] lay M P := e_bipush rfl
set_option maxRecDepth 20000 in
theorem g209_128 {d : Nat} {a0 a1 a2 a3 a4 a5 a6 a7 a8 : Option Value} {s0 : Int32} {s1 : Int32} {s2 : Int32} {s3 : Int32} {s4 : Int32} {s5 : Int32} {s6 : Nat} {lay : List mShp} {M : mMem} {P : mPost} : mG (d) 209 128 [a0, a1, a2, a3, a4, a5, a6, a7, a8] [.int s0, .int s1, .int s2, .int s3, .int s4, .int s5, .ref s6] lay M P = mG d 209 129 [a0, a1, a2, a3, a4, a5, a6, a7, a8] [.int ((s1.toUInt32 >>> (s0.toUInt32 &&& Int32.toUInt32 31)).toInt32), .int s2, .int s3, .int s4, .int s5, .ref s6] lay M P := e_iushr rfl
set_option maxRecDepth 20000 in
theorem g209_129 {d : Nat} {a0 a1 a2 a3 a4 a5 a6 a7 a8 : Option Value} {s0 : Int32} {s1 : Int32} {s2 : Int32} {s3 : Int32} {s4 : Int32} {s5 : Nat} {lay : List mShp} {M : mMem} {P : mPost} : mG (d) 209 129 [a0, a1, a2, a3, a4, a5, a6, a7, a8] [.int s0, .int s1, .int s2, .int s3, .int s4, .ref s5] lay M P = mG d 209 131 [a0, a1, a2, a3, a4, a5, a6, a7, a8] [.int (Int32.ofInt 10), .int s0, .int s1, .int s2, .int s3, .int s4, .ref s5] lay M P := e_bipush rfl
set_option maxRecDepth 20000 in
theorem g209_131 {d : Nat} {a0 a1 a2 a3 a4 a5 a6 a7 a8 : Option Value} {s0 : Int32} {s1 : Int32} {s2 : Int32} {s3 : Int32} {s4 : Int32} {s5 : Int32} {s6 : Nat} {lay : List mShp} {M : mMem} {P : mPost} : mG (d) 209 131 [a0, a1, a2, a3, a4, a5, a6, a7, a8] [.int s0, .int s1, .int s2, .int s3, .int s4, .int s5, .ref s6] lay M P = (s0 ≠ 0 ∧ mG d 209 132 [a0, a1, a2, a3, a4, a5, a6, a7, a8] [.int (s1 - s1 / s0 * s0), .int s2, .int s3, .int s4, .int s5, .ref s6] lay M P) := e_irem rfl
set_option maxRecDepth 20000 in
theorem g209_132 {d : Nat} {a0 a1 a2 a3 a4 a5 a6 a7 a8 : Option Value} {s0 : Int32} {s1 : Int32} {s2 : Int32} {s3 : Int32} {s4 : Int32} {s5 : Nat} {lay : List mShp} {M : mMem} {P : mPost} : mG (d) 209 132 [a0, a1, a2, a3, a4, a5, a6, a7, a8] [.int s0, .int s1, .int s2, .int s3, .int s4, .ref s5] lay M P = mG d 209 133 [a0, a1, a2, a3, a4, a5, a6, a7, a8] [.int (s1 - s0), .int s2, .int s3, .int s4, .ref s5] lay M P := e_isub rfl
set_option maxRecDepth 20000 in
theorem g209_133 {d : Nat} {a0 a1 a2 a3 a4 a5 a6 a7 a8 : Option Value} {s0 : Int32} {s1 : Int32} {s2 : Int32} {s3 : Int32} {s4 : Nat} {lay : List mShp} {M : mMem} {P : mPost} : mG (d) 209 133 [a0, a1, a2, a3, a4, a5, a6, a7, a8] [.int s0, .int s1, .int s2, .int s3, .ref s4] lay M P = mG d 209 136 [a0, a1, a2, a3, a4, a5, a6, a7, a8] [.int (if s1 < s0 then s0 else s1), .int s2, .int s3, .ref s4] lay M P := e_max rfl rfl (Nat.le_of_ble_eq_true rfl)
set_option maxRecDepth 20000 in
theorem g209_136 {d : Nat} {a0 a1 a2 a3 a4 a5 a6 a7 a8 : Option Value} {s0 : Int32} {s1 : Int32} {s2 : Int32} {s3 : Nat} {lay : List mShp} {M : mMem} {P : mPost} (hs : mSh lay s3 = some (13, 44)) : mG (d + 1) 209 136 [a0, a1, a2, a3, a4, a5, a6, a7, a8] [.int s0, .int s1, .int s2, .ref s3] lay M P = mF d 153 [.ref s3, .int s2, .int s1, .int s0] lay M (fun v lay1 M1 => mG (d + 1) 209 139 [a0, a1, a2, a3, a4, a5, a6, a7, a8] (v.toList ++ []) lay1 M1 P) := e_virtP3 (j := 153) (c := 10) rfl rfl rfl rfl rfl rfl hs (Nat.le_of_ble_eq_true rfl)
set_option maxRecDepth 20000 in
theorem g209_139 {d : Nat} {a1 a2 a3 a4 a5 a6 a7 a8 : Option Value} {x : Nat} {lay : List mShp} {M : mMem} {P : mPost} (hx : ¬ x = 0) : mG (d) 209 139 [some (.ref x), a1, a2, a3, a4, a5, a6, a7, a8] [] lay M P = mG d 209 140 [some (.ref x), a1, a2, a3, a4, a5, a6, a7, a8] [.ref x] lay M P := e_aload_nP hx (i := 0) rfl rfl rfl
set_option maxRecDepth 20000 in
theorem g209_140 {d : Nat} {a0 a1 a2 a3 a4 a5 a6 a7 a8 : Option Value} {s0 : Nat} {lay : List mShp} {M : mMem} {P : mPost} (hs : mSh lay s0 = some (13, 44)) : mG (d + 1) 209 140 [a0, a1, a2, a3, a4, a5, a6, a7, a8] [.ref s0] lay M P = mF d 179 [.ref s0] lay M (fun v lay1 M1 => mG (d + 1) 209 143 [a0, a1, a2, a3, a4, a5, a6, a7, a8] (v.toList ++ []) lay1 M1 P) := e_virtP0 (j := 179) (c := 10) rfl rfl rfl rfl rfl rfl hs (Nat.le_of_ble_eq_true rfl)
set_option maxRecDepth 20000 in
theorem g209_143 {d : Nat} {a0 a1 a2 a3 a4 a5 a6 a8 : Option Value} {x : Int32} {lay : List mShp} {M : mMem} {P : mPost} (h0 : mNoL a6 = true) : mG (d) 209 143 [a0, a1, a2, a3, a4, a5, a6, some (.int x), a8] [] lay M P = mG d 209 146 [a0, a1, a2, a3, a4, a5, a6, some (.int (x + Int32.ofInt 1)), a8] [] lay M P := e_iinc (n := 7) rfl rfl (mS1_7 h0)
set_option maxRecDepth 20000 in
theorem g209_146 {d : Nat} {a0 a1 a2 a3 a4 a5 a6 a7 a8 : Option Value} {lay : List mShp} {M : mMem} {P : mPost} : mG (d) 209 146 [a0, a1, a2, a3, a4, a5, a6, a7, a8] [] lay M P = mG d 209 72 [a0, a1, a2, a3, a4, a5, a6, a7, a8] [] lay M P := e_goto rfl rfl
set_option maxRecDepth 20000 in
theorem g209_149 {d : Nat} {a0 a1 a2 a3 a4 a6 a7 a8 : Option Value} {x : Int32} {lay : List mShp} {M : mMem} {P : mPost} : mG (d) 209 149 [a0, a1, a2, a3, a4, some (.int x), a6, a7, a8] [] lay M P = mG d 209 151 [a0, a1, a2, a3, a4, some (.int x), a6, a7, a8] [.int x] lay M P := e_iload (i := 5) rfl rfl
set_option maxRecDepth 20000 in
theorem g209_151 {d : Nat} {a0 a1 a2 a4 a5 a6 a7 a8 : Option Value} {s0 : Int32} {x : Int32} {lay : List mShp} {M : mMem} {P : mPost} : mG (d) 209 151 [a0, a1, a2, some (.int x), a4, a5, a6, a7, a8] [.int s0] lay M P = mG d 209 152 [a0, a1, a2, some (.int x), a4, a5, a6, a7, a8] [.int x, .int s0] lay M P := e_iload_n (i := 3) rfl rfl rfl
set_option maxRecDepth 20000 in
theorem g209_152 {d : Nat} {a0 a1 a2 a3 a4 a5 a6 a7 a8 : Option Value} {s0 : Int32} {s1 : Int32} {lay : List mShp} {M : mMem} {P : mPost} : mG (d) 209 152 [a0, a1, a2, a3, a4, a5, a6, a7, a8] [.int s0, .int s1] lay M P = mG d 209 153 [a0, a1, a2, a3, a4, a5, a6, a7, a8] [.int (Int32.ofInt (-1)), .int s0, .int s1] lay M P := e_iconst rfl
set_option maxRecDepth 20000 in
theorem g209_153 {d : Nat} {a0 a1 a2 a3 a4 a5 a6 a7 a8 : Option Value} {s0 : Int32} {s1 : Int32} {s2 : Int32} {lay : List mShp} {M : mMem} {P : mPost} : mG (d) 209 153 [a0, a1, a2, a3, a4, a5, a6, a7, a8] [.int s0, .int s1, .int s2] lay M P = if s1 = s0 then mG d 209 156 [a0, a1, a2, a3, a4, a5, a6, a7, a8] [.int s2] lay M P else mG d 209 166 [a0, a1, a2, a3, a4, a5, a6, a7, a8] [.int s2] lay M P := e_icmp_ne rfl rfl
set_option maxRecDepth 20000 in
theorem g209_156 {d : Nat} {a1 a2 a3 a4 a5 a6 a7 a8 : Option Value} {s0 : Int32} {x : Nat} {lay : List mShp} {M : mMem} {P : mPost} (hx : ¬ x = 0) : mG (d) 209 156 [some (.ref x), a1, a2, a3, a4, a5, a6, a7, a8] [.int s0] lay M P = mG d 209 157 [some (.ref x), a1, a2, a3, a4, a5, a6, a7, a8] [.ref x, .int s0] lay M P := e_aload_nP hx (i := 0) rfl rfl rfl
set_option maxRecDepth 20000 in
theorem g209_157 {d : Nat} {a0 a1 a2 a3 a4 a5 a6 a7 a8 : Option Value} {s0 : Nat} {s1 : Int32} {lay : List mShp} {M : mMem} {P : mPost} (hs : mSh lay s0 = some (13, 44)) : mG (d + 1) 209 157 [a0, a1, a2, a3, a4, a5, a6, a7, a8] [.ref s0, .int s1] lay M P = mF d 181 [.ref s0] lay M (fun v lay1 M1 => mG (d + 1) 209 160 [a0, a1, a2, a3, a4, a5, a6, a7, a8] (v.toList ++ [.int s1]) lay1 M1 P) := e_virtP0 (j := 181) (c := 10) rfl rfl rfl rfl rfl rfl hs (Nat.le_of_ble_eq_true rfl)
set_option maxRecDepth 20000 in
theorem g209_160 {d : Nat} {a0 a1 a2 a3 a4 a5 a6 a7 a8 : Option Value} {s0 : Int32} {s1 : Int32} {lay : List mShp} {M : mMem} {P : mPost} : mG (d + 1) 209 160 [a0, a1, a2, a3, a4, a5, a6, a7, a8] [.int s0, .int s1] lay M P = mF d 230 [.int s0] lay M (fun v lay1 M1 => mG (d + 1) 209 163 [a0, a1, a2, a3, a4, a5, a6, a7, a8] (v.toList ++ [.int s1]) lay1 M1 P) := e_static1 (j := 230) rfl rfl rfl rfl rfl (Nat.le_of_ble_eq_true rfl)
set_option maxRecDepth 20000 in
theorem g209_163 {d : Nat} {a0 a1 a2 a3 a4 a5 a6 a7 a8 : Option Value} {s0 : Int32} {s1 : Int32} {lay : List mShp} {M : mMem} {P : mPost} : mG (d) 209 163 [a0, a1, a2, a3, a4, a5, a6, a7, a8] [.int s0, .int s1] lay M P = mG d 209 172 [a0, a1, a2, a3, a4, a5, a6, a7, a8] [.int s0, .int s1] lay M P := e_goto rfl rfl
set_option maxRecDepth 20000 in
theorem g209_166 {d : Nat} {a1 a2 a3 a4 a5 a6 a7 a8 : Option Value} {s0 : Int32} {x : Nat} {lay : List mShp} {M : mMem} {P : mPost} (hx : ¬ x = 0) : mG (d) 209 166 [some (.ref x), a1, a2, a3, a4, a5, a6, a7, a8] [.int s0] lay M P = mG d 209 167 [some (.ref x), a1, a2, a3, a4, a5, a6, a7, a8] [.ref x, .int s0] lay M P := e_aload_nP hx (i := 0) rfl rfl rfl
set_option maxRecDepth 20000 in
theorem g209_167 {d : Nat} {a0 a1 a2 a4 a5 a6 a7 a8 : Option Value} {s0 : Nat} {s1 : Int32} {x : Int32} {lay : List mShp} {M : mMem} {P : mPost} : mG (d) 209 167 [a0, a1, a2, some (.int x), a4, a5, a6, a7, a8] [.ref s0, .int s1] lay M P = mG d 209 168 [a0, a1, a2, some (.int x), a4, a5, a6, a7, a8] [.int x, .ref s0, .int s1] lay M P := e_iload_n (i := 3) rfl rfl rfl
set_option maxRecDepth 20000 in
theorem g209_168 {d : Nat} {a0 a1 a2 a3 a4 a5 a6 a7 a8 : Option Value} {s0 : Int32} {s1 : Nat} {s2 : Int32} {lay : List mShp} {M : mMem} {P : mPost} : mG (d) 209 168 [a0, a1, a2, a3, a4, a5, a6, a7, a8] [.int s0, .ref s1, .int s2] lay M P = mG d 209 169 [a0, a1, a2, a3, a4, a5, a6, a7, a8] [.int (Int32.ofInt 3), .int s0, .ref s1, .int s2] lay M P := e_iconst rfl
set_option maxRecDepth 20000 in
theorem g209_169 {d : Nat} {a0 a1 a2 a3 a4 a5 a6 a7 a8 : Option Value} {s0 : Int32} {s1 : Int32} {s2 : Nat} {s3 : Int32} {lay : List mShp} {M : mMem} {P : mPost} (hs : mSh lay s2 = some (13, 44)) : mG (d + 1) 209 169 [a0, a1, a2, a3, a4, a5, a6, a7, a8] [.int s0, .int s1, .ref s2, .int s3] lay M P = mF d 152 [.ref s2, .int s1, .int s0] lay M (fun v lay1 M1 => mG (d + 1) 209 172 [a0, a1, a2, a3, a4, a5, a6, a7, a8] (v.toList ++ [.int s3]) lay1 M1 P) := e_virtP2 (j := 152) (c := 10) rfl rfl rfl rfl rfl rfl hs (Nat.le_of_ble_eq_true rfl)
set_option maxRecDepth 20000 in
theorem g209_172 {d : Nat} {a0 a1 a2 a3 a4 a5 a6 a7 a8 : Option Value} {s0 : Int32} {s1 : Int32} {lay : List mShp} {M : mMem} {P : mPost} : mG (d) 209 172 [a0, a1, a2, a3, a4, a5, a6, a7, a8] [.int s0, .int s1] lay M P = mG d 209 173 [a0, a1, a2, a3, a4, a5, a6, a7, a8] [.int (s1 + s0)] lay M P := e_iadd rfl
set_option maxRecDepth 20000 in
theorem g209_173 {d : Nat} {a0 a1 a2 a3 a4 a5 a6 a7 a8 : Option Value} {s0 : Int32} {lay : List mShp} {M : mMem} {P : mPost} (h0 : mNoL a4 = true) : mG (d) 209 173 [a0, a1, a2, a3, a4, a5, a6, a7, a8] [.int s0] lay M P = mG d 209 175 [a0, a1, a2, a3, a4, some (.int s0), a6, a7, a8] [] lay M P := e_istore (i := 5) rfl (by simp) (mS1_5 h0)
set_option maxRecDepth 20000 in
theorem g209_175 {d : Nat} {a1 a2 a3 a4 a5 a6 a7 a8 : Option Value} {x : Nat} {lay : List mShp} {M : mMem} {P : mPost} (hx : ¬ x = 0) : mG (d) 209 175 [some (.ref x), a1, a2, a3, a4, a5, a6, a7, a8] [] lay M P = mG d 209 176 [some (.ref x), a1, a2, a3, a4, a5, a6, a7, a8] [.ref x] lay M P := e_aload_nP hx (i := 0) rfl rfl rfl
set_option maxRecDepth 20000 in
theorem g209_176 {d : Nat} {a0 a1 a2 a3 a4 a5 a6 a7 a8 : Option Value} {s0 : Nat} {lay : List mShp} {M : mMem} {P : mPost} : mG (d) 209 176 [a0, a1, a2, a3, a4, a5, a6, a7, a8] [.ref s0] lay M P = mG d 209 177 [a0, a1, a2, a3, a4, a5, a6, a7, a8] [.int (Int32.ofInt 0), .ref s0] lay M P := e_iconst rfl
set_option maxRecDepth 20000 in
theorem g209_177 {d : Nat} {a0 a1 a2 a3 a4 a5 a6 a7 a8 : Option Value} {s0 : Int32} {s1 : Nat} {lay : List mShp} {M : mMem} {P : mPost} (hs : mSh lay s1 = some (13, 44)) : mG (d + 1) 209 177 [a0, a1, a2, a3, a4, a5, a6, a7, a8] [.int s0, .ref s1] lay M P = mF d 150 [.ref s1, .int s0] lay M (fun v lay1 M1 => mG (d + 1) 209 180 [a0, a1, a2, a3, a4, a5, a6, a7, a8] (v.toList ++ []) lay1 M1 P) := e_virtP1 (j := 150) (c := 10) rfl rfl rfl rfl rfl rfl hs (Nat.le_of_ble_eq_true rfl)
set_option maxRecDepth 20000 in
theorem g209_180 {d : Nat} {a0 a1 a2 a3 a4 a5 a7 a8 : Option Value} {x : Int32} {lay : List mShp} {M : mMem} {P : mPost} (h0 : mNoL a5 = true) : mG (d) 209 180 [a0, a1, a2, a3, a4, a5, some (.int x), a7, a8] [] lay M P = mG d 209 183 [a0, a1, a2, a3, a4, a5, some (.int (x + Int32.ofInt 1)), a7, a8] [] lay M P := e_iinc (n := 6) rfl rfl (mS1_6 h0)
set_option maxRecDepth 20000 in
theorem g209_183 {d : Nat} {a0 a1 a2 a3 a4 a5 a6 a7 a8 : Option Value} {lay : List mShp} {M : mMem} {P : mPost} : mG (d) 209 183 [a0, a1, a2, a3, a4, a5, a6, a7, a8] [] lay M P = mG d 209 55 [a0, a1, a2, a3, a4, a5, a6, a7, a8] [] lay M P := e_goto rfl rfl
set_option maxRecDepth 20000 in
theorem g209_186 {d : Nat} {a0 a1 a2 a3 a4 a6 a7 a8 : Option Value} {x : Int32} {lay : List mShp} {M : mMem} {P : mPost} : mG (d) 209 186 [a0, a1, a2, a3, a4, some (.int x), a6, a7, a8] [] lay M P = mG d 209 188 [a0, a1, a2, a3, a4, some (.int x), a6, a7, a8] [.int x] lay M P := e_iload (i := 5) rfl rfl
set_option maxRecDepth 20000 in
theorem g209_188 {d : Nat} {a0 a1 a2 a3 a4 a5 a6 a7 a8 : Option Value} {s0 : Int32} {lay : List mShp} {M : mMem} {P : mPost} : mG (d) 209 188 [a0, a1, a2, a3, a4, a5, a6, a7, a8] [.int s0] lay M P = P (some (.int s0)) lay M := e_ireturnI rfl rfl
-- 210 X10_day
theorem g210_in {d : Nat} {x0 : Nat} {lay : List mShp} {M : mMem} {P : mPost} : mF d 210 [.ref x0] lay M P = mG d 210 0 [some (.ref x0), none] [] lay M P := mF_in rfl rfl
set_option maxRecDepth 20000 in
theorem g210_0 {d : Nat} {a1 : Option Value} {x : Nat} {lay : List mShp} {M : mMem} {P : mPost} (hx : ¬ x = 0) : mG (d) 210 0 [some (.ref x), a1] [] lay M P = mG d 210 1 [some (.ref x), a1] [.ref x] lay M P := e_aload_nP hx (i := 0) rfl rfl rfl
set_option maxRecDepth 20000 in
theorem g210_1 {d : Nat} {a0 a1 : Option Value} {s0 : Nat} {lay : List mShp} {M : mMem} {P : mPost} (hs : mSh lay s0 = some (13, 44)) : mG (d + 1) 210 1 [a0, a1] [.ref s0] lay M P = mF d 181 [.ref s0] lay M (fun v lay1 M1 => mG (d + 1) 210 4 [a0, a1] (v.toList ++ []) lay1 M1 P) := e_virtP0 (j := 181) (c := 10) rfl rfl rfl rfl rfl rfl hs (Nat.le_of_ble_eq_true rfl)
set_option maxRecDepth 20000 in
theorem g210_4 {d : Nat} {a0 a1 : Option Value} {s0 : Int32} {lay : List mShp} {M : mMem} {P : mPost} (h0 : mNoL a0 = true) : mG (d) 210 4 [a0, a1] [.int s0] lay M P = mG d 210 5 [a0, some (.int s0)] [] lay M P := e_istore_n (i := 1) rfl rfl (by simp) (mS1_1 h0)
set_option maxRecDepth 20000 in
theorem g210_5 {d : Nat} {a1 : Option Value} {x : Nat} {lay : List mShp} {M : mMem} {P : mPost} (hx : ¬ x = 0) : mG (d) 210 5 [some (.ref x), a1] [] lay M P = mG d 210 6 [some (.ref x), a1] [.ref x] lay M P := e_aload_nP hx (i := 0) rfl rfl rfl
set_option maxRecDepth 20000 in
theorem g210_6 {d : Nat} {a0 a1 : Option Value} {s0 : Nat} {lay : List mShp} {M : mMem} {P : mPost} (hs : mSh lay s0 = some (13, 44)) : mG (d + 1) 210 6 [a0, a1] [.ref s0] lay M P = mF d 179 [.ref s0] lay M (fun v lay1 M1 => mG (d + 1) 210 9 [a0, a1] (v.toList ++ []) lay1 M1 P) := e_virtP0 (j := 179) (c := 10) rfl rfl rfl rfl rfl rfl hs (Nat.le_of_ble_eq_true rfl)
set_option maxRecDepth 20000 in
theorem g210_9 {d : Nat} {a1 : Option Value} {x : Nat} {lay : List mShp} {M : mMem} {P : mPost} (hx : ¬ x = 0) : mG (d) 210 9 [some (.ref x), a1] [] lay M P = mG d 210 10 [some (.ref x), a1] [.ref x] lay M P := e_aload_nP hx (i := 0) rfl rfl rfl
set_option maxRecDepth 20000 in
theorem g210_10 {d : Nat} {a0 a1 : Option Value} {s0 : Nat} {lay : List mShp} {M : mMem} {P : mPost} (hs : mSh lay s0 = some (13, 44)) : mG (d) 210 10 [a0, a1] [.ref s0] lay M P = mG d 210 13 [a0, a1] [.ref (M.2.2 s0 33)] lay M P := mG_of_and (mIsO_of hs (by decide)) (e_getA (ci := 10) (j := 33) rfl rfl rfl)
set_option maxRecDepth 20000 in
theorem g210_13 {d : Nat} {a0 a1 : Option Value} {s0 : Nat} {lay : List mShp} {M : mMem} {P : mPost} : mG (d) 210 13 [a0, a1] [.ref s0] lay M P = mG d 210 14 [a0, a1] [.int (Int32.ofInt 0), .ref s0] lay M P := e_iconst rfl
set_option maxRecDepth 20000 in
theorem g210_14 {d : Nat} {a0 a1 : Option Value} {s0 : Int32} {s1 : Nat} {lay : List mShp} {M : mMem} {P : mPost} : mG (d) 210 14 [a0, a1] [.int s0, .ref s1] lay M P = mG d 210 15 [a0, a1] [.int s0, .ref s1, .int s0, .ref s1] lay M P := e_dup2 rfl
set_option maxRecDepth 20000 in
theorem g210_15 {d : Nat} {a0 a1 : Option Value} {s0 : Int32} {s1 : Nat} {s2 : Int32} {s3 : Nat} {lay : List mShp} {M : mMem} {P : mPost} (hs : mSh lay s1 = some (0, 5)) : mG (d) 210 15 [a0, a1] [.int s0, .ref s1, .int s2, .ref s3] lay M P = (mIdx s0 5 = true ∧ mG d 210 16 [a0, a1] [.int (M.1 s1 s0.toNatClampNeg), .int s2, .ref s3] lay M P) := e_iaload rfl hs
set_option maxRecDepth 20000 in
theorem g210_16 {d : Nat} {a0 a1 : Option Value} {s0 : Int32} {s1 : Int32} {s2 : Nat} {lay : List mShp} {M : mMem} {P : mPost} : mG (d) 210 16 [a0, a1] [.int s0, .int s1, .ref s2] lay M P = mG d 210 17 [a0, a1] [.int (Int32.ofInt 1), .int s0, .int s1, .ref s2] lay M P := e_iconst rfl
set_option maxRecDepth 20000 in
theorem g210_17 {d : Nat} {a0 a1 : Option Value} {s0 : Int32} {s1 : Int32} {s2 : Int32} {s3 : Nat} {lay : List mShp} {M : mMem} {P : mPost} : mG (d) 210 17 [a0, a1] [.int s0, .int s1, .int s2, .ref s3] lay M P = mG d 210 18 [a0, a1] [.int (s1 + s0), .int s2, .ref s3] lay M P := e_iadd rfl
set_option maxRecDepth 20000 in
theorem g210_18 {d : Nat} {a0 a1 : Option Value} {s0 : Int32} {s1 : Int32} {s2 : Nat} {lay : List mShp} {M : mMem} {P : mPost} (hs : mSh lay s2 = some (0, 5)) : mG (d) 210 18 [a0, a1] [.int s0, .int s1, .ref s2] lay M P = (mIdx s1 5 = true ∧ mG d 210 19 [a0, a1] [] lay (mSetI M s2 s1.toNatClampNeg s0) P) := e_iastore rfl hs
set_option maxRecDepth 20000 in
theorem g210_19 {d : Nat} {a1 : Option Value} {x : Nat} {lay : List mShp} {M : mMem} {P : mPost} (hx : ¬ x = 0) : mG (d) 210 19 [some (.ref x), a1] [] lay M P = mG d 210 20 [some (.ref x), a1] [.ref x] lay M P := e_aload_nP hx (i := 0) rfl rfl rfl
set_option maxRecDepth 20000 in
theorem g210_20 {d : Nat} {a0 a1 : Option Value} {s0 : Nat} {lay : List mShp} {M : mMem} {P : mPost} (hs : mSh lay s0 = some (13, 44)) : mG (d) 210 20 [a0, a1] [.ref s0] lay M P = mG d 210 23 [a0, a1] [.ref (M.2.2 s0 33)] lay M P := mG_of_and (mIsO_of hs (by decide)) (e_getA (ci := 10) (j := 33) rfl rfl rfl)
set_option maxRecDepth 20000 in
theorem g210_23 {d : Nat} {a0 a1 : Option Value} {s0 : Nat} {lay : List mShp} {M : mMem} {P : mPost} : mG (d) 210 23 [a0, a1] [.ref s0] lay M P = mG d 210 24 [a0, a1] [.int (Int32.ofInt 1), .ref s0] lay M P := e_iconst rfl
set_option maxRecDepth 20000 in
theorem g210_24 {d : Nat} {a0 a1 : Option Value} {s0 : Int32} {s1 : Nat} {lay : List mShp} {M : mMem} {P : mPost} : mG (d) 210 24 [a0, a1] [.int s0, .ref s1] lay M P = mG d 210 25 [a0, a1] [.int s0, .ref s1, .int s0, .ref s1] lay M P := e_dup2 rfl
set_option maxRecDepth 20000 in
theorem g210_25 {d : Nat} {a0 a1 : Option Value} {s0 : Int32} {s1 : Nat} {s2 : Int32} {s3 : Nat} {lay : List mShp} {M : mMem} {P : mPost} (hs : mSh lay s1 = some (0, 5)) : mG (d) 210 25 [a0, a1] [.int s0, .ref s1, .int s2, .ref s3] lay M P = (mIdx s0 5 = true ∧ mG d 210 26 [a0, a1] [.int (M.1 s1 s0.toNatClampNeg), .int s2, .ref s3] lay M P) := e_iaload rfl hs
set_option maxRecDepth 20000 in
theorem g210_26 {d : Nat} {a1 : Option Value} {s0 : Int32} {s1 : Int32} {s2 : Nat} {x : Nat} {lay : List mShp} {M : mMem} {P : mPost} (hx : ¬ x = 0) : mG (d) 210 26 [some (.ref x), a1] [.int s0, .int s1, .ref s2] lay M P = mG d 210 27 [some (.ref x), a1] [.ref x, .int s0, .int s1, .ref s2] lay M P := e_aload_nP hx (i := 0) rfl rfl rfl
set_option maxRecDepth 20000 in
theorem g210_27 {d : Nat} {a0 a1 : Option Value} {s0 : Nat} {s1 : Int32} {s2 : Int32} {s3 : Nat} {lay : List mShp} {M : mMem} {P : mPost} (hs : mSh lay s0 = some (13, 44)) : mG (d) 210 27 [a0, a1] [.ref s0, .int s1, .int s2, .ref s3] lay M P = mG d 210 30 [a0, a1] [.int (M.1 s0 22), .int s1, .int s2, .ref s3] lay M P := mG_of_and (mIsO_of hs (by decide)) (e_getI (ci := 10) (j := 22) rfl rfl rfl)
set_option maxRecDepth 20000 in
theorem g210_30 {d : Nat} {a0 a1 : Option Value} {s0 : Int32} {s1 : Int32} {s2 : Int32} {s3 : Nat} {lay : List mShp} {M : mMem} {P : mPost} : mG (d) 210 30 [a0, a1] [.int s0, .int s1, .int s2, .ref s3] lay M P = mG d 210 31 [a0, a1] [.int (s1 + s0), .int s2, .ref s3] lay M P := e_iadd rfl
set_option maxRecDepth 20000 in
theorem g210_31 {d : Nat} {a0 a1 : Option Value} {s0 : Int32} {s1 : Int32} {s2 : Nat} {lay : List mShp} {M : mMem} {P : mPost} (hs : mSh lay s2 = some (0, 5)) : mG (d) 210 31 [a0, a1] [.int s0, .int s1, .ref s2] lay M P = (mIdx s1 5 = true ∧ mG d 210 32 [a0, a1] [] lay (mSetI M s2 s1.toNatClampNeg s0) P) := e_iastore rfl hs
set_option maxRecDepth 20000 in
theorem g210_32 {d : Nat} {a1 : Option Value} {x : Nat} {lay : List mShp} {M : mMem} {P : mPost} (hx : ¬ x = 0) : mG (d) 210 32 [some (.ref x), a1] [] lay M P = mG d 210 33 [some (.ref x), a1] [.ref x] lay M P := e_aload_nP hx (i := 0) rfl rfl rfl
set_option maxRecDepth 20000 in
theorem g210_33 {d : Nat} {a0 a1 : Option Value} {s0 : Nat} {lay : List mShp} {M : mMem} {P : mPost} (hs : mSh lay s0 = some (13, 44)) : mG (d) 210 33 [a0, a1] [.ref s0] lay M P = mG d 210 36 [a0, a1] [.ref (M.2.2 s0 33)] lay M P := mG_of_and (mIsO_of hs (by decide)) (e_getA (ci := 10) (j := 33) rfl rfl rfl)
set_option maxRecDepth 20000 in
theorem g210_36 {d : Nat} {a0 a1 : Option Value} {s0 : Nat} {lay : List mShp} {M : mMem} {P : mPost} : mG (d) 210 36 [a0, a1] [.ref s0] lay M P = mG d 210 37 [a0, a1] [.int (Int32.ofInt 4), .ref s0] lay M P := e_iconst rfl
set_option maxRecDepth 20000 in
theorem g210_37 {d : Nat} {a0 a1 : Option Value} {s0 : Int32} {s1 : Nat} {lay : List mShp} {M : mMem} {P : mPost} : mG (d) 210 37 [a0, a1] [.int s0, .ref s1] lay M P = mG d 210 38 [a0, a1] [.int s0, .ref s1, .int s0, .ref s1] lay M P := e_dup2 rfl
set_option maxRecDepth 20000 in
theorem g210_38 {d : Nat} {a0 a1 : Option Value} {s0 : Int32} {s1 : Nat} {s2 : Int32} {s3 : Nat} {lay : List mShp} {M : mMem} {P : mPost} (hs : mSh lay s1 = some (0, 5)) : mG (d) 210 38 [a0, a1] [.int s0, .ref s1, .int s2, .ref s3] lay M P = (mIdx s0 5 = true ∧ mG d 210 39 [a0, a1] [.int (M.1 s1 s0.toNatClampNeg), .int s2, .ref s3] lay M P) := e_iaload rfl hs
set_option maxRecDepth 20000 in
theorem g210_39 {d : Nat} {a1 : Option Value} {s0 : Int32} {s1 : Int32} {s2 : Nat} {x : Nat} {lay : List mShp} {M : mMem} {P : mPost} (hx : ¬ x = 0) : mG (d) 210 39 [some (.ref x), a1] [.int s0, .int s1, .ref s2] lay M P = mG d 210 40 [some (.ref x), a1] [.ref x, .int s0, .int s1, .ref s2] lay M P := e_aload_nP hx (i := 0) rfl rfl rfl
set_option maxRecDepth 20000 in
theorem g210_40 {d : Nat} {a0 a1 : Option Value} {s0 : Nat} {s1 : Int32} {s2 : Int32} {s3 : Nat} {lay : List mShp} {M : mMem} {P : mPost} (hs : mSh lay s0 = some (13, 44)) : mG (d + 1) 210 40 [a0, a1] [.ref s0, .int s1, .int s2, .ref s3] lay M P = mF d 181 [.ref s0] lay M (fun v lay1 M1 => mG (d + 1) 210 43 [a0, a1] (v.toList ++ [.int s1, .int s2, .ref s3]) lay1 M1 P) := e_virtP0 (j := 181) (c := 10) rfl rfl rfl rfl rfl rfl hs (Nat.le_of_ble_eq_true rfl)
set_option maxRecDepth 20000 in
theorem g210_43 {d : Nat} {a0 : Option Value} {s0 : Int32} {s1 : Int32} {s2 : Int32} {s3 : Nat} {x : Int32} {lay : List mShp} {M : mMem} {P : mPost} : mG (d) 210 43 [a0, some (.int x)] [.int s0, .int s1, .int s2, .ref s3] lay M P = mG d 210 44 [a0, some (.int x)] [.int x, .int s0, .int s1, .int s2, .ref s3] lay M P := e_iload_n (i := 1) rfl rfl rfl
set_option maxRecDepth 20000 in
theorem g210_44 {d : Nat} {a0 a1 : Option Value} {s0 : Int32} {s1 : Int32} {s2 : Int32} {s3 : Int32} {s4 : Nat} {lay : List mShp} {M : mMem} {P : mPost} : mG (d) 210 44 [a0, a1] [.int s0, .int s1, .int s2, .int s3, .ref s4] lay M P = mG d 210 45 [a0, a1] [.int (Int32.ofInt (-1)), .int s0, .int s1, .int s2, .int s3, .ref s4] lay M P := e_iconst rfl
set_option maxRecDepth 20000 in
theorem g210_45 {d : Nat} {a0 a1 : Option Value} {s0 : Int32} {s1 : Int32} {s2 : Int32} {s3 : Int32} {s4 : Int32} {s5 : Nat} {lay : List mShp} {M : mMem} {P : mPost} : mG (d) 210 45 [a0, a1] [.int s0, .int s1, .int s2, .int s3, .int s4, .ref s5] lay M P = mG d 210 46 [a0, a1] [.int (s1 ^^^ s0), .int s2, .int s3, .int s4, .ref s5] lay M P := e_ixor rfl
set_option maxRecDepth 20000 in
theorem g210_46 {d : Nat} {a0 a1 : Option Value} {s0 : Int32} {s1 : Int32} {s2 : Int32} {s3 : Int32} {s4 : Nat} {lay : List mShp} {M : mMem} {P : mPost} : mG (d) 210 46 [a0, a1] [.int s0, .int s1, .int s2, .int s3, .ref s4] lay M P = mG d 210 47 [a0, a1] [.int (s1 &&& s0), .int s2, .int s3, .ref s4] lay M P := e_iand rfl
set_option maxRecDepth 20000 in
theorem g210_47 {d : Nat} {a0 a1 : Option Value} {s0 : Int32} {s1 : Int32} {s2 : Int32} {s3 : Nat} {lay : List mShp} {M : mMem} {P : mPost} : mG (d + 1) 210 47 [a0, a1] [.int s0, .int s1, .int s2, .ref s3] lay M P = mF d 230 [.int s0] lay M (fun v lay1 M1 => mG (d + 1) 210 50 [a0, a1] (v.toList ++ [.int s1, .int s2, .ref s3]) lay1 M1 P) := e_static1 (j := 230) rfl rfl rfl rfl rfl (Nat.le_of_ble_eq_true rfl)
set_option maxRecDepth 20000 in
theorem g210_50 {d : Nat} {a0 a1 : Option Value} {s0 : Int32} {s1 : Int32} {s2 : Int32} {s3 : Nat} {lay : List mShp} {M : mMem} {P : mPost} : mG (d) 210 50 [a0, a1] [.int s0, .int s1, .int s2, .ref s3] lay M P = mG d 210 51 [a0, a1] [.int (s1 + s0), .int s2, .ref s3] lay M P := e_iadd rfl
set_option maxRecDepth 20000 in
theorem g210_51 {d : Nat} {a0 a1 : Option Value} {s0 : Int32} {s1 : Int32} {s2 : Nat} {lay : List mShp} {M : mMem} {P : mPost} (hs : mSh lay s2 = some (0, 5)) : mG (d) 210 51 [a0, a1] [.int s0, .int s1, .ref s2] lay M P = (mIdx s1 5 = true ∧ mG d 210 52 [a0, a1] [] lay (mSetI M s2 s1.toNatClampNeg s0) P) := e_iastore rfl hs
set_option maxRecDepth 20000 in
theorem g210_52 {d : Nat} {a1 : Option Value} {x : Nat} {lay : List mShp} {M : mMem} {P : mPost} (hx : ¬ x = 0) : mG (d) 210 52 [some (.ref x), a1] [] lay M P = mG d 210 53 [some (.ref x), a1] [.ref x] lay M P := e_aload_nP hx (i := 0) rfl rfl rfl
set_option maxRecDepth 20000 in
theorem g210_53 {d : Nat} {a0 a1 : Option Value} {s0 : Nat} {lay : List mShp} {M : mMem} {P : mPost} (hs : mSh lay s0 = some (13, 44)) : mG (d + 1) 210 53 [a0, a1] [.ref s0] lay M P = mF d 181 [.ref s0] lay M (fun v lay1 M1 => mG (d + 1) 210 56 [a0, a1] (v.toList ++ []) lay1 M1 P) := e_virtP0 (j := 181) (c := 10) rfl rfl rfl rfl rfl rfl hs (Nat.le_of_ble_eq_true rfl)
set_option maxRecDepth 20000 in
theorem g210_56 {d : Nat} {a0 a1 : Option Value} {s0 : Int32} {lay : List mShp} {M : mMem} {P : mPost} : mG (d + 1) 210 56 [a0, a1] [.int s0] lay M P = mF d 230 [.int s0] lay M (fun v lay1 M1 => mG (d + 1) 210 59 [a0, a1] (v.toList ++ []) lay1 M1 P) := e_static1 (j := 230) rfl rfl rfl rfl rfl (Nat.le_of_ble_eq_true rfl)
set_option maxRecDepth 20000 in
theorem g210_59 {d : Nat} {a0 a1 : Option Value} {s0 : Int32} {lay : List mShp} {M : mMem} {P : mPost} : mG (d) 210 59 [a0, a1] [.int s0] lay M P = P (some (.int s0)) lay M := e_ireturnI rfl rfl
-- 211 X10_cares
theorem g211_in {d : Nat} {x0 : Nat} {x1 : Int32} {x2 : Int32} {lay : List mShp} {M : mMem} {P : mPost} : mF d 211 [.ref x0, .int x1, .int x2] lay M P = mG d 211 0 [some (.ref x0), some (.int x1), some (.int x2), none] [] lay M P := mF_in rfl rfl
set_option maxRecDepth 20000 in
theorem g211_0 {d : Nat} {a1 a2 a3 : Option Value} {x : Nat} {lay : List mShp} {M : mMem} {P : mPost} (hx : ¬ x = 0) : mG (d) 211 0 [some (.ref x), a1, a2, a3] [] lay M P = mG d 211 1 [some (.ref x), a1, a2, a3] [.ref x] lay M P := e_aload_nP hx (i := 0) rfl rfl rfl
set_option maxRecDepth 20000 in
theorem g211_1 {d : Nat} {a0 a2 a3 : Option Value} {s0 : Nat} {x : Int32} {lay : List mShp} {M : mMem} {P : mPost} : mG (d) 211 1 [a0, some (.int x), a2, a3] [.ref s0] lay M P = mG d 211 2 [a0, some (.int x), a2, a3] [.int x, .ref s0] lay M P := e_iload_n (i := 1) rfl rfl rfl
set_option maxRecDepth 20000 in
theorem g211_2 {d : Nat} {a0 a1 a2 a3 : Option Value} {s0 : Int32} {s1 : Nat} {lay : List mShp} {M : mMem} {P : mPost} (hs : mSh lay s1 = some (13, 44)) : mG (d + 1) 211 2 [a0, a1, a2, a3] [.int s0, .ref s1] lay M P = mF d 151 [.ref s1, .int s0] lay M (fun v lay1 M1 => mG (d + 1) 211 5 [a0, a1, a2, a3] (v.toList ++ []) lay1 M1 P) := e_virtP1 (j := 151) (c := 10) rfl rfl rfl rfl rfl rfl hs (Nat.le_of_ble_eq_true rfl)
set_option maxRecDepth 20000 in
theorem g211_5 {d : Nat} {a0 a1 a2 a3 : Option Value} {s0 : Int32} {lay : List mShp} {M : mMem} {P : mPost} : mG (d) 211 5 [a0, a1, a2, a3] [.int s0] lay M P = if s0 = 0 then mG d 211 27 [a0, a1, a2, a3] [] lay M P else mG d 211 8 [a0, a1, a2, a3] [] lay M P := e_if_eq rfl rfl
set_option maxRecDepth 20000 in
theorem g211_8 {d : Nat} {a0 a1 a3 : Option Value} {x : Int32} {lay : List mShp} {M : mMem} {P : mPost} : mG (d) 211 8 [a0, a1, some (.int x), a3] [] lay M P = mG d 211 9 [a0, a1, some (.int x), a3] [.int x] lay M P := e_iload_n (i := 2) rfl rfl rfl
set_option maxRecDepth 20000 in
theorem g211_9 {d : Nat} {a0 a1 a2 a3 : Option Value} {s0 : Int32} {lay : List mShp} {M : mMem} {P : mPost} : mG (d) 211 9 [a0, a1, a2, a3] [.int s0] lay M P = mG d 211 10 [a0, a1, a2, a3] [.int (Int32.ofInt (-1)), .int s0] lay M P := e_iconst rfl
set_option maxRecDepth 20000 in
theorem g211_10 {d : Nat} {a1 a2 a3 : Option Value} {s0 : Int32} {s1 : Int32} {x : Nat} {lay : List mShp} {M : mMem} {P : mPost} (hx : ¬ x = 0) : mG (d) 211 10 [some (.ref x), a1, a2, a3] [.int s0, .int s1] lay M P = mG d 211 11 [some (.ref x), a1, a2, a3] [.ref x, .int s0, .int s1] lay M P := e_aload_nP hx (i := 0) rfl rfl rfl
set_option maxRecDepth 20000 in
theorem g211_11 {d : Nat} {a0 a1 a2 a3 : Option Value} {s0 : Nat} {s1 : Int32} {s2 : Int32} {lay : List mShp} {M : mMem} {P : mPost} (hs : mSh lay s0 = some (13, 44)) : mG (d) 211 11 [a0, a1, a2, a3] [.ref s0, .int s1, .int s2] lay M P = mG d 211 14 [a0, a1, a2, a3] [.int (M.1 s0 2), .int s1, .int s2] lay M P := mG_of_and (mIsO_of hs (by decide)) (e_getI (ci := 10) (j := 2) rfl rfl rfl)
set_option maxRecDepth 20000 in
theorem g211_14 {d : Nat} {a0 a1 a2 a3 : Option Value} {s0 : Int32} {s1 : Int32} {s2 : Int32} {lay : List mShp} {M : mMem} {P : mPost} : mG (d) 211 14 [a0, a1, a2, a3] [.int s0, .int s1, .int s2] lay M P = mG d 211 15 [a0, a1, a2, a3] [.int (Int32.ofInt 1), .int s0, .int s1, .int s2] lay M P := e_iconst rfl
set_option maxRecDepth 20000 in
theorem g211_15 {d : Nat} {a0 a1 a2 a3 : Option Value} {s0 : Int32} {s1 : Int32} {s2 : Int32} {s3 : Int32} {lay : List mShp} {M : mMem} {P : mPost} : mG (d) 211 15 [a0, a1, a2, a3] [.int s0, .int s1, .int s2, .int s3] lay M P = mG d 211 16 [a0, a1, a2, a3] [.int (s1 - s0), .int s2, .int s3] lay M P := e_isub rfl
set_option maxRecDepth 20000 in
theorem g211_16 {d : Nat} {a0 a1 a2 a3 : Option Value} {s0 : Int32} {s1 : Int32} {s2 : Int32} {lay : List mShp} {M : mMem} {P : mPost} : mG (d + 1) 211 16 [a0, a1, a2, a3] [.int s0, .int s1, .int s2] lay M P = mF d 146 [.int s2, .int s1, .int s0] lay M (fun v lay1 M1 => mG (d + 1) 211 19 [a0, a1, a2, a3] (v.toList ++ []) lay1 M1 P) := e_static3 (j := 146) rfl rfl rfl rfl rfl (Nat.le_of_ble_eq_true rfl)
set_option maxRecDepth 20000 in
theorem g211_19 {d : Nat} {a0 a1 a2 a3 : Option Value} {s0 : Int32} {lay : List mShp} {M : mMem} {P : mPost} : mG (d) 211 19 [a0, a1, a2, a3] [.int s0] lay M P = if s0 = 0 then mG d 211 27 [a0, a1, a2, a3] [] lay M P else mG d 211 22 [a0, a1, a2, a3] [] lay M P := e_if_eq rfl rfl
set_option maxRecDepth 20000 in
theorem g211_22 {d : Nat} {a0 a1 a3 : Option Value} {x : Int32} {lay : List mShp} {M : mMem} {P : mPost} : mG (d) 211 22 [a0, a1, some (.int x), a3] [] lay M P = mG d 211 23 [a0, a1, some (.int x), a3] [.int x] lay M P := e_iload_n (i := 2) rfl rfl rfl
set_option maxRecDepth 20000 in
theorem g211_23 {d : Nat} {a0 a2 a3 : Option Value} {s0 : Int32} {x : Int32} {lay : List mShp} {M : mMem} {P : mPost} : mG (d) 211 23 [a0, some (.int x), a2, a3] [.int s0] lay M P = mG d 211 24 [a0, some (.int x), a2, a3] [.int x, .int s0] lay M P := e_iload_n (i := 1) rfl rfl rfl
set_option maxRecDepth 20000 in
theorem g211_24 {d : Nat} {a0 a1 a2 a3 : Option Value} {s0 : Int32} {s1 : Int32} {lay : List mShp} {M : mMem} {P : mPost} : mG (d) 211 24 [a0, a1, a2, a3] [.int s0, .int s1] lay M P = if s1 = s0 then mG d 211 27 [a0, a1, a2, a3] [] lay M P else mG d 211 30 [a0, a1, a2, a3] [] lay M P := e_icmp_ne rfl rfl
set_option maxRecDepth 20000 in
theorem g211_27 {d : Nat} {a0 a1 a2 a3 : Option Value} {lay : List mShp} {M : mMem} {P : mPost} : mG (d) 211 27 [a0, a1, a2, a3] [] lay M P = mG d 211 29 [a0, a1, a2, a3] [.int (Int32.ofInt (-2000000000))] lay M P := e_ldc rfl rfl
set_option maxRecDepth 20000 in
theorem g211_29 {d : Nat} {a0 a1 a2 a3 : Option Value} {s0 : Int32} {lay : List mShp} {M : mMem} {P : mPost} : mG (d) 211 29 [a0, a1, a2, a3] [.int s0] lay M P = P (some (.int s0)) lay M := e_ireturnI rfl rfl
set_option maxRecDepth 20000 in
theorem g211_30 {d : Nat} {a1 a2 a3 : Option Value} {x : Nat} {lay : List mShp} {M : mMem} {P : mPost} (hx : ¬ x = 0) : mG (d) 211 30 [some (.ref x), a1, a2, a3] [] lay M P = mG d 211 31 [some (.ref x), a1, a2, a3] [.ref x] lay M P := e_aload_nP hx (i := 0) rfl rfl rfl
set_option maxRecDepth 20000 in
theorem g211_31 {d : Nat} {a0 a2 a3 : Option Value} {s0 : Nat} {x : Int32} {lay : List mShp} {M : mMem} {P : mPost} : mG (d) 211 31 [a0, some (.int x), a2, a3] [.ref s0] lay M P = mG d 211 32 [a0, some (.int x), a2, a3] [.int x, .ref s0] lay M P := e_iload_n (i := 1) rfl rfl rfl
set_option maxRecDepth 20000 in
theorem g211_32 {d : Nat} {a0 a1 a2 a3 : Option Value} {s0 : Int32} {s1 : Nat} {lay : List mShp} {M : mMem} {P : mPost} : mG (d) 211 32 [a0, a1, a2, a3] [.int s0, .ref s1] lay M P = mG d 211 33 [a0, a1, a2, a3] [.int (Int32.ofInt 4), .int s0, .ref s1] lay M P := e_iconst rfl
set_option maxRecDepth 20000 in
theorem g211_33 {d : Nat} {a0 a1 a2 a3 : Option Value} {s0 : Int32} {s1 : Int32} {s2 : Nat} {lay : List mShp} {M : mMem} {P : mPost} (hs : mSh lay s2 = some (13, 44)) : mG (d + 1) 211 33 [a0, a1, a2, a3] [.int s0, .int s1, .ref s2] lay M P = mF d 152 [.ref s2, .int s1, .int s0] lay M (fun v lay1 M1 => mG (d + 1) 211 36 [a0, a1, a2, a3] (v.toList ++ []) lay1 M1 P) := e_virtP2 (j := 152) (c := 10) rfl rfl rfl rfl rfl rfl hs (Nat.le_of_ble_eq_true rfl)
set_option maxRecDepth 20000 in
theorem g211_36 {d : Nat} {a0 a1 a2 a3 : Option Value} {s0 : Int32} {lay : List mShp} {M : mMem} {P : mPost} (h0 : mNoL a2 = true) : mG (d) 211 36 [a0, a1, a2, a3] [.int s0] lay M P = mG d 211 37 [a0, a1, a2, some (.int s0)] [] lay M P := e_istore_n (i := 3) rfl rfl (by simp) (mS1_3 h0)
set_option maxRecDepth 20000 in
theorem g211_37 {d : Nat} {a1 a2 a3 : Option Value} {x : Nat} {lay : List mShp} {M : mMem} {P : mPost} (hx : ¬ x = 0) : mG (d) 211 37 [some (.ref x), a1, a2, a3] [] lay M P = mG d 211 38 [some (.ref x), a1, a2, a3] [.ref x] lay M P := e_aload_nP hx (i := 0) rfl rfl rfl
set_option maxRecDepth 20000 in
theorem g211_38 {d : Nat} {a0 a2 a3 : Option Value} {s0 : Nat} {x : Int32} {lay : List mShp} {M : mMem} {P : mPost} : mG (d) 211 38 [a0, some (.int x), a2, a3] [.ref s0] lay M P = mG d 211 39 [a0, some (.int x), a2, a3] [.int x, .ref s0] lay M P := e_iload_n (i := 1) rfl rfl rfl
set_option maxRecDepth 20000 in
theorem g211_39 {d : Nat} {a0 a1 a2 a3 : Option Value} {s0 : Int32} {s1 : Nat} {lay : List mShp} {M : mMem} {P : mPost} : mG (d) 211 39 [a0, a1, a2, a3] [.int s0, .ref s1] lay M P = mG d 211 40 [a0, a1, a2, a3] [.int (Int32.ofInt 4), .int s0, .ref s1] lay M P := e_iconst rfl
set_option maxRecDepth 20000 in
theorem g211_40 {d : Nat} {a0 a1 a3 : Option Value} {s0 : Int32} {s1 : Int32} {s2 : Nat} {x : Int32} {lay : List mShp} {M : mMem} {P : mPost} : mG (d) 211 40 [a0, a1, some (.int x), a3] [.int s0, .int s1, .ref s2] lay M P = mG d 211 41 [a0, a1, some (.int x), a3] [.int x, .int s0, .int s1, .ref s2] lay M P := e_iload_n (i := 2) rfl rfl rfl
set_option maxRecDepth 20000 in
theorem g211_41 {d : Nat} {a0 a1 a2 a3 : Option Value} {s0 : Int32} {s1 : Int32} {s2 : Int32} {s3 : Nat} {lay : List mShp} {M : mMem} {P : mPost} (hs : mSh lay s3 = some (13, 44)) : mG (d + 1) 211 41 [a0, a1, a2, a3] [.int s0, .int s1, .int s2, .ref s3] lay M P = mF d 153 [.ref s3, .int s2, .int s1, .int s0] lay M (fun v lay1 M1 => mG (d + 1) 211 44 [a0, a1, a2, a3] (v.toList ++ []) lay1 M1 P) := e_virtP3 (j := 153) (c := 10) rfl rfl rfl rfl rfl rfl hs (Nat.le_of_ble_eq_true rfl)
set_option maxRecDepth 20000 in
theorem g211_44 {d : Nat} {a1 a2 a3 : Option Value} {x : Nat} {lay : List mShp} {M : mMem} {P : mPost} (hx : ¬ x = 0) : mG (d) 211 44 [some (.ref x), a1, a2, a3] [] lay M P = mG d 211 45 [some (.ref x), a1, a2, a3] [.ref x] lay M P := e_aload_nP hx (i := 0) rfl rfl rfl
set_option maxRecDepth 20000 in
theorem g211_45 {d : Nat} {a0 a1 a2 a3 : Option Value} {s0 : Nat} {lay : List mShp} {M : mMem} {P : mPost} (hs : mSh lay s0 = some (13, 44)) : mG (d) 211 45 [a0, a1, a2, a3] [.ref s0] lay M P = mG d 211 48 [a0, a1, a2, a3] [.ref (M.2.2 s0 33)] lay M P := mG_of_and (mIsO_of hs (by decide)) (e_getA (ci := 10) (j := 33) rfl rfl rfl)
set_option maxRecDepth 20000 in
theorem g211_48 {d : Nat} {a0 a1 a2 a3 : Option Value} {s0 : Nat} {lay : List mShp} {M : mMem} {P : mPost} : mG (d) 211 48 [a0, a1, a2, a3] [.ref s0] lay M P = mG d 211 49 [a0, a1, a2, a3] [.int (Int32.ofInt 2), .ref s0] lay M P := e_iconst rfl
set_option maxRecDepth 20000 in
theorem g211_49 {d : Nat} {a0 a1 a2 a3 : Option Value} {s0 : Int32} {s1 : Nat} {lay : List mShp} {M : mMem} {P : mPost} : mG (d) 211 49 [a0, a1, a2, a3] [.int s0, .ref s1] lay M P = mG d 211 50 [a0, a1, a2, a3] [.int s0, .ref s1, .int s0, .ref s1] lay M P := e_dup2 rfl
set_option maxRecDepth 20000 in
theorem g211_50 {d : Nat} {a0 a1 a2 a3 : Option Value} {s0 : Int32} {s1 : Nat} {s2 : Int32} {s3 : Nat} {lay : List mShp} {M : mMem} {P : mPost} (hs : mSh lay s1 = some (0, 5)) : mG (d) 211 50 [a0, a1, a2, a3] [.int s0, .ref s1, .int s2, .ref s3] lay M P = (mIdx s0 5 = true ∧ mG d 211 51 [a0, a1, a2, a3] [.int (M.1 s1 s0.toNatClampNeg), .int s2, .ref s3] lay M P) := e_iaload rfl hs
set_option maxRecDepth 20000 in
theorem g211_51 {d : Nat} {a0 a1 a2 a3 : Option Value} {s0 : Int32} {s1 : Int32} {s2 : Nat} {lay : List mShp} {M : mMem} {P : mPost} : mG (d) 211 51 [a0, a1, a2, a3] [.int s0, .int s1, .ref s2] lay M P = mG d 211 52 [a0, a1, a2, a3] [.int (Int32.ofInt 1), .int s0, .int s1, .ref s2] lay M P := e_iconst rfl
set_option maxRecDepth 20000 in
theorem g211_52 {d : Nat} {a0 a1 a2 a3 : Option Value} {s0 : Int32} {s1 : Int32} {s2 : Int32} {s3 : Nat} {lay : List mShp} {M : mMem} {P : mPost} : mG (d) 211 52 [a0, a1, a2, a3] [.int s0, .int s1, .int s2, .ref s3] lay M P = mG d 211 53 [a0, a1, a2, a3] [.int (s1 + s0), .int s2, .ref s3] lay M P := e_iadd rfl
set_option maxRecDepth 20000 in
theorem g211_53 {d : Nat} {a0 a1 a2 a3 : Option Value} {s0 : Int32} {s1 : Int32} {s2 : Nat} {lay : List mShp} {M : mMem} {P : mPost} (hs : mSh lay s2 = some (0, 5)) : mG (d) 211 53 [a0, a1, a2, a3] [.int s0, .int s1, .ref s2] lay M P = (mIdx s1 5 = true ∧ mG d 211 54 [a0, a1, a2, a3] [] lay (mSetI M s2 s1.toNatClampNeg s0) P) := e_iastore rfl hs
set_option maxRecDepth 20000 in
theorem g211_54 {d : Nat} {a0 a1 a2 : Option Value} {x : Int32} {lay : List mShp} {M : mMem} {P : mPost} : mG (d) 211 54 [a0, a1, a2, some (.int x)] [] lay M P = mG d 211 55 [a0, a1, a2, some (.int x)] [.int x] lay M P := e_iload_n (i := 3) rfl rfl rfl
set_option maxRecDepth 20000 in
theorem g211_55 {d : Nat} {a0 a1 a2 a3 : Option Value} {s0 : Int32} {lay : List mShp} {M : mMem} {P : mPost} : mG (d) 211 55 [a0, a1, a2, a3] [.int s0] lay M P = P (some (.int s0)) lay M := e_ireturnI rfl rfl
-- 212 X10_gives_
theorem g212_in {d : Nat} {x0 : Nat} {x1 : Int32} {x2 : Int32} {x3 : Int32} {lay : List mShp} {M : mMem} {P : mPost} : mF d 212 [.ref x0, .int x1, .int x2, .int x3] lay M P = mG d 212 0 [some (.ref x0), some (.int x1), some (.int x2), some (.int x3)] [] lay M P := mF_in rfl rfl
set_option maxRecDepth 20000 in
theorem g212_0 {d : Nat} {a1 a2 a3 : Option Value} {x : Nat} {lay : List mShp} {M : mMem} {P : mPost} (hx : ¬ x = 0) : mG (d) 212 0 [some (.ref x), a1, a2, a3] [] lay M P = mG d 212 1 [some (.ref x), a1, a2, a3] [.ref x] lay M P := e_aload_nP hx (i := 0) rfl rfl rfl
set_option maxRecDepth 20000 in
theorem g212_1 {d : Nat} {a0 a2 a3 : Option Value} {s0 : Nat} {x : Int32} {lay : List mShp} {M : mMem} {P : mPost} : mG (d) 212 1 [a0, some (.int x), a2, a3] [.ref s0] lay M P = mG d 212 2 [a0, some (.int x), a2, a3] [.int x, .ref s0] lay M P := e_iload_n (i := 1) rfl rfl rfl
set_option maxRecDepth 20000 in
theorem g212_2 {d : Nat} {a0 a1 a2 a3 : Option Value} {s0 : Int32} {s1 : Nat} {lay : List mShp} {M : mMem} {P : mPost} (hs : mSh lay s1 = some (13, 44)) : mG (d + 1) 212 2 [a0, a1, a2, a3] [.int s0, .ref s1] lay M P = mF d 151 [.ref s1, .int s0] lay M (fun v lay1 M1 => mG (d + 1) 212 5 [a0, a1, a2, a3] (v.toList ++ []) lay1 M1 P) := e_virtP1 (j := 151) (c := 10) rfl rfl rfl rfl rfl rfl hs (Nat.le_of_ble_eq_true rfl)
set_option maxRecDepth 20000 in
theorem g212_5 {d : Nat} {a0 a1 a2 a3 : Option Value} {s0 : Int32} {lay : List mShp} {M : mMem} {P : mPost} : mG (d) 212 5 [a0, a1, a2, a3] [.int s0] lay M P = if s0 = 0 then mG d 212 31 [a0, a1, a2, a3] [] lay M P else mG d 212 8 [a0, a1, a2, a3] [] lay M P := e_if_eq rfl rfl
set_option maxRecDepth 20000 in
theorem g212_8 {d : Nat} {a1 a2 a3 : Option Value} {x : Nat} {lay : List mShp} {M : mMem} {P : mPost} (hx : ¬ x = 0) : mG (d) 212 8 [some (.ref x), a1, a2, a3] [] lay M P = mG d 212 9 [some (.ref x), a1, a2, a3] [.ref x] lay M P := e_aload_nP hx (i := 0) rfl rfl rfl
set_option maxRecDepth 20000 in
theorem g212_9 {d : Nat} {a0 a1 a3 : Option Value} {s0 : Nat} {x : Int32} {lay : List mShp} {M : mMem} {P : mPost} : mG (d) 212 9 [a0, a1, some (.int x), a3] [.ref s0] lay M P = mG d 212 10 [a0, a1, some (.int x), a3] [.int x, .ref s0] lay M P := e_iload_n (i := 2) rfl rfl rfl
set_option maxRecDepth 20000 in
theorem g212_10 {d : Nat} {a0 a1 a2 a3 : Option Value} {s0 : Int32} {s1 : Nat} {lay : List mShp} {M : mMem} {P : mPost} (hs : mSh lay s1 = some (13, 44)) : mG (d + 1) 212 10 [a0, a1, a2, a3] [.int s0, .ref s1] lay M P = mF d 151 [.ref s1, .int s0] lay M (fun v lay1 M1 => mG (d + 1) 212 13 [a0, a1, a2, a3] (v.toList ++ []) lay1 M1 P) := e_virtP1 (j := 151) (c := 10) rfl rfl rfl rfl rfl rfl hs (Nat.le_of_ble_eq_true rfl)
set_option maxRecDepth 20000 in
theorem g212_13 {d : Nat} {a0 a1 a2 a3 : Option Value} {s0 : Int32} {lay : List mShp} {M : mMem} {P : mPost} : mG (d) 212 13 [a0, a1, a2, a3] [.int s0] lay M P = if s0 = 0 then mG d 212 31 [a0, a1, a2, a3] [] lay M P else mG d 212 16 [a0, a1, a2, a3] [] lay M P := e_if_eq rfl rfl
set_option maxRecDepth 20000 in
theorem g212_16 {d : Nat} {a0 a2 a3 : Option Value} {x : Int32} {lay : List mShp} {M : mMem} {P : mPost} : mG (d) 212 16 [a0, some (.int x), a2, a3] [] lay M P = mG d 212 17 [a0, some (.int x), a2, a3] [.int x] lay M P := e_iload_n (i := 1) rfl rfl rfl
set_option maxRecDepth 20000 in
theorem g212_17 {d : Nat} {a0 a1 a3 : Option Value} {s0 : Int32} {x : Int32} {lay : List mShp} {M : mMem} {P : mPost} : mG (d) 212 17 [a0, a1, some (.int x), a3] [.int s0] lay M P = mG d 212 18 [a0, a1, some (.int x), a3] [.int x, .int s0] lay M P := e_iload_n (i := 2) rfl rfl rfl
set_option maxRecDepth 20000 in
theorem g212_18 {d : Nat} {a0 a1 a2 a3 : Option Value} {s0 : Int32} {s1 : Int32} {lay : List mShp} {M : mMem} {P : mPost} : mG (d) 212 18 [a0, a1, a2, a3] [.int s0, .int s1] lay M P = if s1 = s0 then mG d 212 31 [a0, a1, a2, a3] [] lay M P else mG d 212 21 [a0, a1, a2, a3] [] lay M P := e_icmp_eq rfl rfl
set_option maxRecDepth 20000 in
theorem g212_21 {d : Nat} {a0 a1 a2 : Option Value} {x : Int32} {lay : List mShp} {M : mMem} {P : mPost} : mG (d) 212 21 [a0, a1, a2, some (.int x)] [] lay M P = mG d 212 22 [a0, a1, a2, some (.int x)] [.int x] lay M P := e_iload_n (i := 3) rfl rfl rfl
set_option maxRecDepth 20000 in
theorem g212_22 {d : Nat} {a0 a1 a2 a3 : Option Value} {s0 : Int32} {lay : List mShp} {M : mMem} {P : mPost} : mG (d) 212 22 [a0, a1, a2, a3] [.int s0] lay M P = mG d 212 23 [a0, a1, a2, a3] [.int (Int32.ofInt 1), .int s0] lay M P := e_iconst rfl
set_option maxRecDepth 20000 in
theorem g212_23 {d : Nat} {a0 a1 a2 a3 : Option Value} {s0 : Int32} {s1 : Int32} {lay : List mShp} {M : mMem} {P : mPost} : mG (d) 212 23 [a0, a1, a2, a3] [.int s0, .int s1] lay M P = mG d 212 25 [a0, a1, a2, a3] [.int (Int32.ofInt 99), .int s0, .int s1] lay M P := e_bipush rfl
set_option maxRecDepth 20000 in
theorem g212_25 {d : Nat} {a0 a1 a2 a3 : Option Value} {s0 : Int32} {s1 : Int32} {s2 : Int32} {lay : List mShp} {M : mMem} {P : mPost} : mG (d + 1) 212 25 [a0, a1, a2, a3] [.int s0, .int s1, .int s2] lay M P = mF d 146 [.int s2, .int s1, .int s0] lay M (fun v lay1 M1 => mG (d + 1) 212 28 [a0, a1, a2, a3] (v.toList ++ []) lay1 M1 P) := e_static3 (j := 146) rfl rfl rfl rfl rfl (Nat.le_of_ble_eq_true rfl)
set_option maxRecDepth 20000 in
theorem g212_28 {d : Nat} {a0 a1 a2 a3 : Option Value} {s0 : Int32} {lay : List mShp} {M : mMem} {P : mPost} : mG (d) 212 28 [a0, a1, a2, a3] [.int s0] lay M P = if s0 = 0 then mG d 212 31 [a0, a1, a2, a3] [] lay M P else mG d 212 33 [a0, a1, a2, a3] [] lay M P := e_if_ne rfl rfl
set_option maxRecDepth 20000 in
theorem g212_31 {d : Nat} {a0 a1 a2 a3 : Option Value} {lay : List mShp} {M : mMem} {P : mPost} : mG (d) 212 31 [a0, a1, a2, a3] [] lay M P = mG d 212 32 [a0, a1, a2, a3] [.int (Int32.ofInt (-1))] lay M P := e_iconst rfl
set_option maxRecDepth 20000 in
theorem g212_32 {d : Nat} {a0 a1 a2 a3 : Option Value} {s0 : Int32} {lay : List mShp} {M : mMem} {P : mPost} : mG (d) 212 32 [a0, a1, a2, a3] [.int s0] lay M P = P (some (.int s0)) lay M := e_ireturnI rfl rfl
set_option maxRecDepth 20000 in
theorem g212_33 {d : Nat} {a1 a2 a3 : Option Value} {x : Nat} {lay : List mShp} {M : mMem} {P : mPost} (hx : ¬ x = 0) : mG (d) 212 33 [some (.ref x), a1, a2, a3] [] lay M P = mG d 212 34 [some (.ref x), a1, a2, a3] [.ref x] lay M P := e_aload_nP hx (i := 0) rfl rfl rfl
set_option maxRecDepth 20000 in
theorem g212_34 {d : Nat} {a0 a2 a3 : Option Value} {s0 : Nat} {x : Int32} {lay : List mShp} {M : mMem} {P : mPost} : mG (d) 212 34 [a0, some (.int x), a2, a3] [.ref s0] lay M P = mG d 212 35 [a0, some (.int x), a2, a3] [.int x, .ref s0] lay M P := e_iload_n (i := 1) rfl rfl rfl
set_option maxRecDepth 20000 in
theorem g212_35 {d : Nat} {a0 a1 a2 a3 : Option Value} {s0 : Int32} {s1 : Nat} {lay : List mShp} {M : mMem} {P : mPost} : mG (d) 212 35 [a0, a1, a2, a3] [.int s0, .ref s1] lay M P = mG d 212 36 [a0, a1, a2, a3] [.int (Int32.ofInt 3), .int s0, .ref s1] lay M P := e_iconst rfl
set_option maxRecDepth 20000 in
theorem g212_36 {d : Nat} {a0 a1 a2 a3 : Option Value} {s0 : Int32} {s1 : Int32} {s2 : Nat} {lay : List mShp} {M : mMem} {P : mPost} (hs : mSh lay s2 = some (13, 44)) : mG (d + 1) 212 36 [a0, a1, a2, a3] [.int s0, .int s1, .ref s2] lay M P = mF d 152 [.ref s2, .int s1, .int s0] lay M (fun v lay1 M1 => mG (d + 1) 212 39 [a0, a1, a2, a3] (v.toList ++ []) lay1 M1 P) := e_virtP2 (j := 152) (c := 10) rfl rfl rfl rfl rfl rfl hs (Nat.le_of_ble_eq_true rfl)
set_option maxRecDepth 20000 in
theorem g212_39 {d : Nat} {a0 a1 a2 : Option Value} {s0 : Int32} {x : Int32} {lay : List mShp} {M : mMem} {P : mPost} : mG (d) 212 39 [a0, a1, a2, some (.int x)] [.int s0] lay M P = mG d 212 40 [a0, a1, a2, some (.int x)] [.int x, .int s0] lay M P := e_iload_n (i := 3) rfl rfl rfl
set_option maxRecDepth 20000 in
theorem g212_40 {d : Nat} {a0 a1 a2 a3 : Option Value} {s0 : Int32} {s1 : Int32} {lay : List mShp} {M : mMem} {P : mPost} : mG (d) 212 40 [a0, a1, a2, a3] [.int s0, .int s1] lay M P = if s1 < s0 then mG d 212 43 [a0, a1, a2, a3] [] lay M P else mG d 212 46 [a0, a1, a2, a3] [] lay M P := e_icmp_ge rfl rfl
set_option maxRecDepth 20000 in
theorem g212_43 {d : Nat} {a0 a1 a2 a3 : Option Value} {lay : List mShp} {M : mMem} {P : mPost} : mG (d) 212 43 [a0, a1, a2, a3] [] lay M P = mG d 212 45 [a0, a1, a2, a3] [.int (Int32.ofInt (-5))] lay M P := e_bipush rfl
set_option maxRecDepth 20000 in
theorem g212_45 {d : Nat} {a0 a1 a2 a3 : Option Value} {s0 : Int32} {lay : List mShp} {M : mMem} {P : mPost} : mG (d) 212 45 [a0, a1, a2, a3] [.int s0] lay M P = P (some (.int s0)) lay M := e_ireturnI rfl rfl
set_option maxRecDepth 20000 in
theorem g212_46 {d : Nat} {a1 a2 a3 : Option Value} {x : Nat} {lay : List mShp} {M : mMem} {P : mPost} (hx : ¬ x = 0) : mG (d) 212 46 [some (.ref x), a1, a2, a3] [] lay M P = mG d 212 47 [some (.ref x), a1, a2, a3] [.ref x] lay M P := e_aload_nP hx (i := 0) rfl rfl rfl
set_option maxRecDepth 20000 in
theorem g212_47 {d : Nat} {a0 a2 a3 : Option Value} {s0 : Nat} {x : Int32} {lay : List mShp} {M : mMem} {P : mPost} : mG (d) 212 47 [a0, some (.int x), a2, a3] [.ref s0] lay M P = mG d 212 48 [a0, some (.int x), a2, a3] [.int x, .ref s0] lay M P := e_iload_n (i := 1) rfl rfl rfl
set_option maxRecDepth 20000 in
theorem g212_48 {d : Nat} {a0 a1 a2 a3 : Option Value} {s0 : Int32} {s1 : Nat} {lay : List mShp} {M : mMem} {P : mPost} : mG (d) 212 48 [a0, a1, a2, a3] [.int s0, .ref s1] lay M P = mG d 212 49 [a0, a1, a2, a3] [.int (Int32.ofInt 3), .int s0, .ref s1] lay M P := e_iconst rfl
set_option maxRecDepth 20000 in
theorem g212_49 {d : Nat} {a1 a2 a3 : Option Value} {s0 : Int32} {s1 : Int32} {s2 : Nat} {x : Nat} {lay : List mShp} {M : mMem} {P : mPost} (hx : ¬ x = 0) : mG (d) 212 49 [some (.ref x), a1, a2, a3] [.int s0, .int s1, .ref s2] lay M P = mG d 212 50 [some (.ref x), a1, a2, a3] [.ref x, .int s0, .int s1, .ref s2] lay M P := e_aload_nP hx (i := 0) rfl rfl rfl
set_option maxRecDepth 20000 in
theorem g212_50 {d : Nat} {a0 a2 a3 : Option Value} {s0 : Nat} {s1 : Int32} {s2 : Int32} {s3 : Nat} {x : Int32} {lay : List mShp} {M : mMem} {P : mPost} : mG (d) 212 50 [a0, some (.int x), a2, a3] [.ref s0, .int s1, .int s2, .ref s3] lay M P = mG d 212 51 [a0, some (.int x), a2, a3] [.int x, .ref s0, .int s1, .int s2, .ref s3] lay M P := e_iload_n (i := 1) rfl rfl rfl
set_option maxRecDepth 20000 in
theorem g212_51 {d : Nat} {a0 a1 a2 a3 : Option Value} {s0 : Int32} {s1 : Nat} {s2 : Int32} {s3 : Int32} {s4 : Nat} {lay : List mShp} {M : mMem} {P : mPost} : mG (d) 212 51 [a0, a1, a2, a3] [.int s0, .ref s1, .int s2, .int s3, .ref s4] lay M P = mG d 212 52 [a0, a1, a2, a3] [.int (Int32.ofInt 3), .int s0, .ref s1, .int s2, .int s3, .ref s4] lay M P := e_iconst rfl
set_option maxRecDepth 20000 in
theorem g212_52 {d : Nat} {a0 a1 a2 a3 : Option Value} {s0 : Int32} {s1 : Int32} {s2 : Nat} {s3 : Int32} {s4 : Int32} {s5 : Nat} {lay : List mShp} {M : mMem} {P : mPost} (hs : mSh lay s2 = some (13, 44)) : mG (d + 1) 212 52 [a0, a1, a2, a3] [.int s0, .int s1, .ref s2, .int s3, .int s4, .ref s5] lay M P = mF d 152 [.ref s2, .int s1, .int s0] lay M (fun v lay1 M1 => mG (d + 1) 212 55 [a0, a1, a2, a3] (v.toList ++ [.int s3, .int s4, .ref s5]) lay1 M1 P) := e_virtP2 (j := 152) (c := 10) rfl rfl rfl rfl rfl rfl hs (Nat.le_of_ble_eq_true rfl)
set_option maxRecDepth 20000 in
theorem g212_55 {d : Nat} {a0 a1 a2 : Option Value} {s0 : Int32} {s1 : Int32} {s2 : Int32} {s3 : Nat} {x : Int32} {lay : List mShp} {M : mMem} {P : mPost} : mG (d) 212 55 [a0, a1, a2, some (.int x)] [.int s0, .int s1, .int s2, .ref s3] lay M P = mG d 212 56 [a0, a1, a2, some (.int x)] [.int x, .int s0, .int s1, .int s2, .ref s3] lay M P := e_iload_n (i := 3) rfl rfl rfl
set_option maxRecDepth 20000 in
theorem g212_56 {d : Nat} {a0 a1 a2 a3 : Option Value} {s0 : Int32} {s1 : Int32} {s2 : Int32} {s3 : Int32} {s4 : Nat} {lay : List mShp} {M : mMem} {P : mPost} : mG (d) 212 56 [a0, a1, a2, a3] [.int s0, .int s1, .int s2, .int s3, .ref s4] lay M P = mG d 212 57 [a0, a1, a2, a3] [.int (s1 - s0), .int s2, .int s3, .ref s4] lay M P := e_isub rfl
set_option maxRecDepth 20000 in
theorem g212_57 {d : Nat} {a0 a1 a2 a3 : Option Value} {s0 : Int32} {s1 : Int32} {s2 : Int32} {s3 : Nat} {lay : List mShp} {M : mMem} {P : mPost} (hs : mSh lay s3 = some (13, 44)) : mG (d + 1) 212 57 [a0, a1, a2, a3] [.int s0, .int s1, .int s2, .ref s3] lay M P = mF d 153 [.ref s3, .int s2, .int s1, .int s0] lay M (fun v lay1 M1 => mG (d + 1) 212 60 [a0, a1, a2, a3] (v.toList ++ []) lay1 M1 P) := e_virtP3 (j := 153) (c := 10) rfl rfl rfl rfl rfl rfl hs (Nat.le_of_ble_eq_true rfl)
set_option maxRecDepth 20000 in
theorem g212_60 {d : Nat} {a1 a2 a3 : Option Value} {x : Nat} {lay : List mShp} {M : mMem} {P : mPost} (hx : ¬ x = 0) : mG (d) 212 60 [some (.ref x), a1, a2, a3] [] lay M P = mG d 212 61 [some (.ref x), a1, a2, a3] [.ref x] lay M P := e_aload_nP hx (i := 0) rfl rfl rfl
set_option maxRecDepth 20000 in
theorem g212_61 {d : Nat} {a0 a1 a3 : Option Value} {s0 : Nat} {x : Int32} {lay : List mShp} {M : mMem} {P : mPost} : mG (d) 212 61 [a0, a1, some (.int x), a3] [.ref s0] lay M P = mG d 212 62 [a0, a1, some (.int x), a3] [.int x, .ref s0] lay M P := e_iload_n (i := 2) rfl rfl rfl
set_option maxRecDepth 20000 in
theorem g212_62 {d : Nat} {a0 a1 a2 a3 : Option Value} {s0 : Int32} {s1 : Nat} {lay : List mShp} {M : mMem} {P : mPost} : mG (d) 212 62 [a0, a1, a2, a3] [.int s0, .ref s1] lay M P = mG d 212 63 [a0, a1, a2, a3] [.int (Int32.ofInt 3), .int s0, .ref s1] lay M P := e_iconst rfl
set_option maxRecDepth 20000 in
theorem g212_63 {d : Nat} {a0 a1 a2 a3 : Option Value} {s0 : Int32} {s1 : Int32} {s2 : Nat} {lay : List mShp} {M : mMem} {P : mPost} : mG (d) 212 63 [a0, a1, a2, a3] [.int s0, .int s1, .ref s2] lay M P = mG d 212 65 [a0, a1, a2, a3] [.int (Int32.ofInt 99), .int s0, .int s1, .ref s2] lay M P := e_bipush rfl
set_option maxRecDepth 20000 in
theorem g212_65 {d : Nat} {a1 a2 a3 : Option Value} {s0 : Int32} {s1 : Int32} {s2 : Int32} {s3 : Nat} {x : Nat} {lay : List mShp} {M : mMem} {P : mPost} (hx : ¬ x = 0) : mG (d) 212 65 [some (.ref x), a1, a2, a3] [.int s0, .int s1, .int s2, .ref s3] lay M P = mG d 212 66 [some (.ref x), a1, a2, a3] [.ref x, .int s0, .int s1, .int s2, .ref s3] lay M P := e_aload_nP hx (i := 0) rfl rfl rfl
set_option maxRecDepth 20000 in
theorem g212_66 {d : Nat} {a0 a1 a3 : Option Value} {s0 : Nat} {s1 : Int32} {s2 : Int32} {s3 : Int32} {s4 : Nat} {x : Int32} {lay : List mShp} {M : mMem} {P : mPost} : mG (d) 212 66 [a0, a1, some (.int x), a3] [.ref s0, .int s1, .int s2, .int s3, .ref s4] lay M P = mG d 212 67 [a0, a1, some (.int x), a3] [.int x, .ref s0, .int s1, .int s2, .int s3, .ref s4] lay M P := e_iload_n (i := 2) rfl rfl rfl
set_option maxRecDepth 20000 in
theorem g212_67 {d : Nat} {a0 a1 a2 a3 : Option Value} {s0 : Int32} {s1 : Nat} {s2 : Int32} {s3 : Int32} {s4 : Int32} {s5 : Nat} {lay : List mShp} {M : mMem} {P : mPost} : mG (d) 212 67 [a0, a1, a2, a3] [.int s0, .ref s1, .int s2, .int s3, .int s4, .ref s5] lay M P = mG d 212 68 [a0, a1, a2, a3] [.int (Int32.ofInt 3), .int s0, .ref s1, .int s2, .int s3, .int s4, .ref s5] lay M P := e_iconst rfl
set_option maxRecDepth 20000 in
theorem g212_68 {d : Nat} {a0 a1 a2 a3 : Option Value} {s0 : Int32} {s1 : Int32} {s2 : Nat} {s3 : Int32} {s4 : Int32} {s5 : Int32} {s6 : Nat} {lay : List mShp} {M : mMem} {P : mPost} (hs : mSh lay s2 = some (13, 44)) : mG (d + 1) 212 68 [a0, a1, a2, a3] [.int s0, .int s1, .ref s2, .int s3, .int s4, .int s5, .ref s6] lay M P = mF d 152 [.ref s2, .int s1, .int s0] lay M (fun v lay1 M1 => mG (d + 1) 212 71 [a0, a1, a2, a3] (v.toList ++ [.int s3, .int s4, .int s5, .ref s6]) lay1 M1 P) := e_virtP2 (j := 152) (c := 10) rfl rfl rfl rfl rfl rfl hs (Nat.le_of_ble_eq_true rfl)
set_option maxRecDepth 20000 in
theorem g212_71 {d : Nat} {a0 a1 a2 : Option Value} {s0 : Int32} {s1 : Int32} {s2 : Int32} {s3 : Int32} {s4 : Nat} {x : Int32} {lay : List mShp} {M : mMem} {P : mPost} : mG (d) 212 71 [a0, a1, a2, some (.int x)] [.int s0, .int s1, .int s2, .int s3, .ref s4] lay M P = mG d 212 72 [a0, a1, a2, some (.int x)] [.int x, .int s0, .int s1, .int s2, .int s3, .ref s4] lay M P := e_iload_n (i := 3) rfl rfl rfl
set_option maxRecDepth 20000 in
theorem g212_72 {d : Nat} {a0 a1 a2 a3 : Option Value} {s0 : Int32} {s1 : Int32} {s2 : Int32} {s3 : Int32} {s4 : Int32} {s5 : Nat} {lay : List mShp} {M : mMem} {P : mPost} : mG (d) 212 72 [a0, a1, a2, a3] [.int s0, .int s1, .int s2, .int s3, .int s4, .ref s5] lay M P = mG d 212 73 [a0, a1, a2, a3] [.int (s1 + s0), .int s2, .int s3, .int s4, .ref s5] lay M P := e_iadd rfl
set_option maxRecDepth 20000 in
theorem g212_73 {d : Nat} {a0 a1 a2 a3 : Option Value} {s0 : Int32} {s1 : Int32} {s2 : Int32} {s3 : Int32} {s4 : Nat} {lay : List mShp} {M : mMem} {P : mPost} : mG (d) 212 73 [a0, a1, a2, a3] [.int s0, .int s1, .int s2, .int s3, .ref s4] lay M P = mG d 212 76 [a0, a1, a2, a3] [.int (if s0 < s1 then s0 else s1), .int s2, .int s3, .ref s4] lay M P := e_min rfl rfl (Nat.le_of_ble_eq_true rfl)
set_option maxRecDepth 20000 in
theorem g212_76 {d : Nat} {a0 a1 a2 a3 : Option Value} {s0 : Int32} {s1 : Int32} {s2 : Int32} {s3 : Nat} {lay : List mShp} {M : mMem} {P : mPost} (hs : mSh lay s3 = some (13, 44)) : mG (d + 1) 212 76 [a0, a1, a2, a3] [.int s0, .int s1, .int s2, .ref s3] lay M P = mF d 153 [.ref s3, .int s2, .int s1, .int s0] lay M (fun v lay1 M1 => mG (d + 1) 212 79 [a0, a1, a2, a3] (v.toList ++ []) lay1 M1 P) := e_virtP3 (j := 153) (c := 10) rfl rfl rfl rfl rfl rfl hs (Nat.le_of_ble_eq_true rfl)
set_option maxRecDepth 20000 in
theorem g212_79 {d : Nat} {a1 a2 a3 : Option Value} {x : Nat} {lay : List mShp} {M : mMem} {P : mPost} (hx : ¬ x = 0) : mG (d) 212 79 [some (.ref x), a1, a2, a3] [] lay M P = mG d 212 80 [some (.ref x), a1, a2, a3] [.ref x] lay M P := e_aload_nP hx (i := 0) rfl rfl rfl
set_option maxRecDepth 20000 in
theorem g212_80 {d : Nat} {a0 a1 a2 a3 : Option Value} {s0 : Nat} {lay : List mShp} {M : mMem} {P : mPost} (hs : mSh lay s0 = some (13, 44)) : mG (d) 212 80 [a0, a1, a2, a3] [.ref s0] lay M P = mG d 212 83 [a0, a1, a2, a3] [.ref (M.2.2 s0 33)] lay M P := mG_of_and (mIsO_of hs (by decide)) (e_getA (ci := 10) (j := 33) rfl rfl rfl)
set_option maxRecDepth 20000 in
theorem g212_83 {d : Nat} {a0 a1 a2 a3 : Option Value} {s0 : Nat} {lay : List mShp} {M : mMem} {P : mPost} : mG (d) 212 83 [a0, a1, a2, a3] [.ref s0] lay M P = mG d 212 84 [a0, a1, a2, a3] [.int (Int32.ofInt 3), .ref s0] lay M P := e_iconst rfl
set_option maxRecDepth 20000 in
theorem g212_84 {d : Nat} {a0 a1 a2 a3 : Option Value} {s0 : Int32} {s1 : Nat} {lay : List mShp} {M : mMem} {P : mPost} : mG (d) 212 84 [a0, a1, a2, a3] [.int s0, .ref s1] lay M P = mG d 212 85 [a0, a1, a2, a3] [.int s0, .ref s1, .int s0, .ref s1] lay M P := e_dup2 rfl
set_option maxRecDepth 20000 in
theorem g212_85 {d : Nat} {a0 a1 a2 a3 : Option Value} {s0 : Int32} {s1 : Nat} {s2 : Int32} {s3 : Nat} {lay : List mShp} {M : mMem} {P : mPost} (hs : mSh lay s1 = some (0, 5)) : mG (d) 212 85 [a0, a1, a2, a3] [.int s0, .ref s1, .int s2, .ref s3] lay M P = (mIdx s0 5 = true ∧ mG d 212 86 [a0, a1, a2, a3] [.int (M.1 s1 s0.toNatClampNeg), .int s2, .ref s3] lay M P) := e_iaload rfl hs
set_option maxRecDepth 20000 in
theorem g212_86 {d : Nat} {a0 a1 a2 : Option Value} {s0 : Int32} {s1 : Int32} {s2 : Nat} {x : Int32} {lay : List mShp} {M : mMem} {P : mPost} : mG (d) 212 86 [a0, a1, a2, some (.int x)] [.int s0, .int s1, .ref s2] lay M P = mG d 212 87 [a0, a1, a2, some (.int x)] [.int x, .int s0, .int s1, .ref s2] lay M P := e_iload_n (i := 3) rfl rfl rfl
set_option maxRecDepth 20000 in
theorem g212_87 {d : Nat} {a0 a1 a2 a3 : Option Value} {s0 : Int32} {s1 : Int32} {s2 : Int32} {s3 : Nat} {lay : List mShp} {M : mMem} {P : mPost} : mG (d) 212 87 [a0, a1, a2, a3] [.int s0, .int s1, .int s2, .ref s3] lay M P = mG d 212 88 [a0, a1, a2, a3] [.int (s1 + s0), .int s2, .ref s3] lay M P := e_iadd rfl
set_option maxRecDepth 20000 in
theorem g212_88 {d : Nat} {a0 a1 a2 a3 : Option Value} {s0 : Int32} {s1 : Int32} {s2 : Nat} {lay : List mShp} {M : mMem} {P : mPost} (hs : mSh lay s2 = some (0, 5)) : mG (d) 212 88 [a0, a1, a2, a3] [.int s0, .int s1, .ref s2] lay M P = (mIdx s1 5 = true ∧ mG d 212 89 [a0, a1, a2, a3] [] lay (mSetI M s2 s1.toNatClampNeg s0) P) := e_iastore rfl hs
set_option maxRecDepth 20000 in
theorem g212_89 {d : Nat} {a1 a2 a3 : Option Value} {x : Nat} {lay : List mShp} {M : mMem} {P : mPost} (hx : ¬ x = 0) : mG (d) 212 89 [some (.ref x), a1, a2, a3] [] lay M P = mG d 212 90 [some (.ref x), a1, a2, a3] [.ref x] lay M P := e_aload_nP hx (i := 0) rfl rfl rfl
set_option maxRecDepth 20000 in
theorem g212_90 {d : Nat} {a0 a2 a3 : Option Value} {s0 : Nat} {x : Int32} {lay : List mShp} {M : mMem} {P : mPost} : mG (d) 212 90 [a0, some (.int x), a2, a3] [.ref s0] lay M P = mG d 212 91 [a0, some (.int x), a2, a3] [.int x, .ref s0] lay M P := e_iload_n (i := 1) rfl rfl rfl
set_option maxRecDepth 20000 in
theorem g212_91 {d : Nat} {a0 a1 a2 a3 : Option Value} {s0 : Int32} {s1 : Nat} {lay : List mShp} {M : mMem} {P : mPost} : mG (d) 212 91 [a0, a1, a2, a3] [.int s0, .ref s1] lay M P = mG d 212 92 [a0, a1, a2, a3] [.int (Int32.ofInt 3), .int s0, .ref s1] lay M P := e_iconst rfl
set_option maxRecDepth 20000 in
theorem g212_92 {d : Nat} {a0 a1 a2 a3 : Option Value} {s0 : Int32} {s1 : Int32} {s2 : Nat} {lay : List mShp} {M : mMem} {P : mPost} (hs : mSh lay s2 = some (13, 44)) : mG (d + 1) 212 92 [a0, a1, a2, a3] [.int s0, .int s1, .ref s2] lay M P = mF d 152 [.ref s2, .int s1, .int s0] lay M (fun v lay1 M1 => mG (d + 1) 212 95 [a0, a1, a2, a3] (v.toList ++ []) lay1 M1 P) := e_virtP2 (j := 152) (c := 10) rfl rfl rfl rfl rfl rfl hs (Nat.le_of_ble_eq_true rfl)
set_option maxRecDepth 20000 in
theorem g212_95 {d : Nat} {a0 a1 a2 a3 : Option Value} {s0 : Int32} {lay : List mShp} {M : mMem} {P : mPost} : mG (d) 212 95 [a0, a1, a2, a3] [.int s0] lay M P = P (some (.int s0)) lay M := e_ireturnI rfl rfl
-- 213 X10_led
theorem g213_in {d : Nat} {x0 : Nat} {x1 : Int32} {lay : List mShp} {M : mMem} {P : mPost} : mF d 213 [.ref x0, .int x1] lay M P = mG d 213 0 [some (.ref x0), some (.int x1)] [] lay M P := mF_in rfl rfl
set_option maxRecDepth 20000 in
theorem g213_0 {d : Nat} {a0 : Option Value} {x : Int32} {lay : List mShp} {M : mMem} {P : mPost} : mG (d) 213 0 [a0, some (.int x)] [] lay M P = mG d 213 1 [a0, some (.int x)] [.int x] lay M P := e_iload_n (i := 1) rfl rfl rfl
set_option maxRecDepth 20000 in
theorem g213_1 {d : Nat} {a0 a1 : Option Value} {s0 : Int32} {lay : List mShp} {M : mMem} {P : mPost} : mG (d) 213 1 [a0, a1] [.int s0] lay M P = mG d 213 2 [a0, a1] [.int (Int32.ofInt 0), .int s0] lay M P := e_iconst rfl
set_option maxRecDepth 20000 in
theorem g213_2 {d : Nat} {a0 a1 : Option Value} {s0 : Int32} {s1 : Int32} {lay : List mShp} {M : mMem} {P : mPost} : mG (d) 213 2 [a0, a1] [.int s0, .int s1] lay M P = mG d 213 3 [a0, a1] [.int (Int32.ofInt 4), .int s0, .int s1] lay M P := e_iconst rfl
set_option maxRecDepth 20000 in
theorem g213_3 {d : Nat} {a0 a1 : Option Value} {s0 : Int32} {s1 : Int32} {s2 : Int32} {lay : List mShp} {M : mMem} {P : mPost} : mG (d + 1) 213 3 [a0, a1] [.int s0, .int s1, .int s2] lay M P = mF d 146 [.int s2, .int s1, .int s0] lay M (fun v lay1 M1 => mG (d + 1) 213 6 [a0, a1] (v.toList ++ []) lay1 M1 P) := e_static3 (j := 146) rfl rfl rfl rfl rfl (Nat.le_of_ble_eq_true rfl)
set_option maxRecDepth 20000 in
theorem g213_6 {d : Nat} {a0 a1 : Option Value} {s0 : Int32} {lay : List mShp} {M : mMem} {P : mPost} : mG (d) 213 6 [a0, a1] [.int s0] lay M P = if s0 = 0 then mG d 213 18 [a0, a1] [] lay M P else mG d 213 9 [a0, a1] [] lay M P := e_if_eq rfl rfl
set_option maxRecDepth 20000 in
theorem g213_9 {d : Nat} {a1 : Option Value} {x : Nat} {lay : List mShp} {M : mMem} {P : mPost} (hx : ¬ x = 0) : mG (d) 213 9 [some (.ref x), a1] [] lay M P = mG d 213 10 [some (.ref x), a1] [.ref x] lay M P := e_aload_nP hx (i := 0) rfl rfl rfl
set_option maxRecDepth 20000 in
theorem g213_10 {d : Nat} {a0 a1 : Option Value} {s0 : Nat} {lay : List mShp} {M : mMem} {P : mPost} (hs : mSh lay s0 = some (13, 44)) : mG (d) 213 10 [a0, a1] [.ref s0] lay M P = mG d 213 13 [a0, a1] [.ref (M.2.2 s0 33)] lay M P := mG_of_and (mIsO_of hs (by decide)) (e_getA (ci := 10) (j := 33) rfl rfl rfl)
set_option maxRecDepth 20000 in
theorem g213_13 {d : Nat} {a0 : Option Value} {s0 : Nat} {x : Int32} {lay : List mShp} {M : mMem} {P : mPost} : mG (d) 213 13 [a0, some (.int x)] [.ref s0] lay M P = mG d 213 14 [a0, some (.int x)] [.int x, .ref s0] lay M P := e_iload_n (i := 1) rfl rfl rfl
set_option maxRecDepth 20000 in
theorem g213_14 {d : Nat} {a0 a1 : Option Value} {s0 : Int32} {s1 : Nat} {lay : List mShp} {M : mMem} {P : mPost} (hs : mSh lay s1 = some (0, 5)) : mG (d) 213 14 [a0, a1] [.int s0, .ref s1] lay M P = (mIdx s0 5 = true ∧ mG d 213 15 [a0, a1] [.int (M.1 s1 s0.toNatClampNeg)] lay M P) := e_iaload rfl hs
set_option maxRecDepth 20000 in
theorem g213_15 {d : Nat} {a0 a1 : Option Value} {s0 : Int32} {lay : List mShp} {M : mMem} {P : mPost} : mG (d) 213 15 [a0, a1] [.int s0] lay M P = mG d 213 19 [a0, a1] [.int s0] lay M P := e_goto rfl rfl
set_option maxRecDepth 20000 in
theorem g213_18 {d : Nat} {a0 a1 : Option Value} {lay : List mShp} {M : mMem} {P : mPost} : mG (d) 213 18 [a0, a1] [] lay M P = mG d 213 19 [a0, a1] [.int (Int32.ofInt (-1))] lay M P := e_iconst rfl
set_option maxRecDepth 20000 in
theorem g213_19 {d : Nat} {a0 a1 : Option Value} {s0 : Int32} {lay : List mShp} {M : mMem} {P : mPost} : mG (d) 213 19 [a0, a1] [.int s0] lay M P = P (some (.int s0)) lay M := e_ireturnI rfl rfl
-- 214 X10_image
theorem g214_in {d : Nat} {x0 : Nat} {lay : List mShp} {M : mMem} {P : mPost} : mF d 214 [.ref x0] lay M P = mG d 214 0 [some (.ref x0), none] [] lay M P := mF_in rfl rfl
set_option maxRecDepth 20000 in
theorem g214_0 {d : Nat} {a0 a1 : Option Value} {lay : List mShp} {M : mMem} {P : mPost} : mG (d) 214 0 [a0, a1] [] lay M P = mG d 214 1 [a0, a1] [.int (Int32.ofInt 0)] lay M P := e_iconst rfl
set_option maxRecDepth 20000 in
theorem g214_1 {d : Nat} {a0 a1 : Option Value} {s0 : Int32} {lay : List mShp} {M : mMem} {P : mPost} (h0 : mNoL a0 = true) : mG (d) 214 1 [a0, a1] [.int s0] lay M P = mG d 214 2 [a0, some (.int s0)] [] lay M P := e_istore_n (i := 1) rfl rfl (by simp) (mS1_1 h0)
set_option maxRecDepth 20000 in
theorem g214_2 {d : Nat} {a0 : Option Value} {x : Int32} {lay : List mShp} {M : mMem} {P : mPost} : mG (d) 214 2 [a0, some (.int x)] [] lay M P = mG d 214 3 [a0, some (.int x)] [.int x] lay M P := e_iload_n (i := 1) rfl rfl rfl
set_option maxRecDepth 20000 in
theorem g214_3 {d : Nat} {a0 a1 : Option Value} {s0 : Int32} {lay : List mShp} {M : mMem} {P : mPost} : mG (d) 214 3 [a0, a1] [.int s0] lay M P = mG d 214 5 [a0, a1] [.int (Int32.ofInt 42), .int s0] lay M P := e_bipush rfl
set_option maxRecDepth 20000 in
theorem g214_5 {d : Nat} {a0 a1 : Option Value} {s0 : Int32} {s1 : Int32} {lay : List mShp} {M : mMem} {P : mPost} : mG (d) 214 5 [a0, a1] [.int s0, .int s1] lay M P = if s1 < s0 then mG d 214 8 [a0, a1] [] lay M P else mG d 214 26 [a0, a1] [] lay M P := e_icmp_ge rfl rfl
set_option maxRecDepth 20000 in
theorem g214_8 {d : Nat} {a1 : Option Value} {x : Nat} {lay : List mShp} {M : mMem} {P : mPost} (hx : ¬ x = 0) : mG (d) 214 8 [some (.ref x), a1] [] lay M P = mG d 214 9 [some (.ref x), a1] [.ref x] lay M P := e_aload_nP hx (i := 0) rfl rfl rfl
set_option maxRecDepth 20000 in
theorem g214_9 {d : Nat} {a0 a1 : Option Value} {s0 : Nat} {lay : List mShp} {M : mMem} {P : mPost} (hs : mSh lay s0 = some (13, 44)) : mG (d) 214 9 [a0, a1] [.ref s0] lay M P = mG d 214 12 [a0, a1] [.ref (M.2.2 s0 34)] lay M P := mG_of_and (mIsO_of hs (by decide)) (e_getA (ci := 10) (j := 34) rfl rfl rfl)
set_option maxRecDepth 20000 in
theorem g214_12 {d : Nat} {a0 : Option Value} {s0 : Nat} {x : Int32} {lay : List mShp} {M : mMem} {P : mPost} : mG (d) 214 12 [a0, some (.int x)] [.ref s0] lay M P = mG d 214 13 [a0, some (.int x)] [.int x, .ref s0] lay M P := e_iload_n (i := 1) rfl rfl rfl
set_option maxRecDepth 20000 in
theorem g214_13 {d : Nat} {a1 : Option Value} {s0 : Int32} {s1 : Nat} {x : Nat} {lay : List mShp} {M : mMem} {P : mPost} (hx : ¬ x = 0) : mG (d) 214 13 [some (.ref x), a1] [.int s0, .ref s1] lay M P = mG d 214 14 [some (.ref x), a1] [.ref x, .int s0, .ref s1] lay M P := e_aload_nP hx (i := 0) rfl rfl rfl
set_option maxRecDepth 20000 in
theorem g214_14 {d : Nat} {a0 a1 : Option Value} {s0 : Nat} {s1 : Int32} {s2 : Nat} {lay : List mShp} {M : mMem} {P : mPost} (hs : mSh lay s0 = some (13, 44)) : mG (d) 214 14 [a0, a1] [.ref s0, .int s1, .ref s2] lay M P = mG d 214 17 [a0, a1] [.ref (M.2.2 s0 0), .int s1, .ref s2] lay M P := mG_of_and (mIsO_of hs (by decide)) (e_getA (ci := 10) (j := 0) rfl rfl rfl)
set_option maxRecDepth 20000 in
theorem g214_17 {d : Nat} {a0 : Option Value} {s0 : Nat} {s1 : Int32} {s2 : Nat} {x : Int32} {lay : List mShp} {M : mMem} {P : mPost} : mG (d) 214 17 [a0, some (.int x)] [.ref s0, .int s1, .ref s2] lay M P = mG d 214 18 [a0, some (.int x)] [.int x, .ref s0, .int s1, .ref s2] lay M P := e_iload_n (i := 1) rfl rfl rfl
set_option maxRecDepth 20000 in
theorem g214_18 {d : Nat} {a0 a1 : Option Value} {s0 : Int32} {s1 : Nat} {s2 : Int32} {s3 : Nat} {lay : List mShp} {M : mMem} {P : mPost} (hs : mSh lay s1 = some (0, 42)) : mG (d) 214 18 [a0, a1] [.int s0, .ref s1, .int s2, .ref s3] lay M P = (mIdx s0 42 = true ∧ mG d 214 19 [a0, a1] [.int (M.1 s1 s0.toNatClampNeg), .int s2, .ref s3] lay M P) := e_iaload rfl hs
set_option maxRecDepth 20000 in
theorem g214_19 {d : Nat} {a0 a1 : Option Value} {s0 : Int32} {s1 : Int32} {s2 : Nat} {lay : List mShp} {M : mMem} {P : mPost} (hs : mSh lay s2 = some (0, 42)) : mG (d) 214 19 [a0, a1] [.int s0, .int s1, .ref s2] lay M P = (mIdx s1 42 = true ∧ mG d 214 20 [a0, a1] [] lay (mSetI M s2 s1.toNatClampNeg s0) P) := e_iastore rfl hs
set_option maxRecDepth 20000 in
theorem g214_20 {d : Nat} {a0 : Option Value} {x : Int32} {lay : List mShp} {M : mMem} {P : mPost} (h0 : mNoL a0 = true) : mG (d) 214 20 [a0, some (.int x)] [] lay M P = mG d 214 23 [a0, some (.int (x + Int32.ofInt 1))] [] lay M P := e_iinc (n := 1) rfl rfl (mS1_1 h0)
set_option maxRecDepth 20000 in
theorem g214_23 {d : Nat} {a0 a1 : Option Value} {lay : List mShp} {M : mMem} {P : mPost} : mG (d) 214 23 [a0, a1] [] lay M P = mG d 214 2 [a0, a1] [] lay M P := e_goto rfl rfl
set_option maxRecDepth 20000 in
theorem g214_26 {d : Nat} {a0 a1 : Option Value} {lay : List mShp} {M : mMem} {P : mPost} : mG (d) 214 26 [a0, a1] [] lay M P = mG d 214 27 [a0, a1] [.int (Int32.ofInt 0)] lay M P := e_iconst rfl
set_option maxRecDepth 20000 in
theorem g214_27 {d : Nat} {a0 a1 : Option Value} {s0 : Int32} {lay : List mShp} {M : mMem} {P : mPost} (h0 : mNoL a0 = true) : mG (d) 214 27 [a0, a1] [.int s0] lay M P = mG d 214 28 [a0, some (.int s0)] [] lay M P := e_istore_n (i := 1) rfl rfl (by simp) (mS1_1 h0)
set_option maxRecDepth 20000 in
theorem g214_28 {d : Nat} {a0 : Option Value} {x : Int32} {lay : List mShp} {M : mMem} {P : mPost} : mG (d) 214 28 [a0, some (.int x)] [] lay M P = mG d 214 29 [a0, some (.int x)] [.int x] lay M P := e_iload_n (i := 1) rfl rfl rfl
set_option maxRecDepth 20000 in
theorem g214_29 {d : Nat} {a0 a1 : Option Value} {s0 : Int32} {lay : List mShp} {M : mMem} {P : mPost} : mG (d) 214 29 [a0, a1] [.int s0] lay M P = mG d 214 30 [a0, a1] [.int (Int32.ofInt 5), .int s0] lay M P := e_iconst rfl
set_option maxRecDepth 20000 in
theorem g214_30 {d : Nat} {a0 a1 : Option Value} {s0 : Int32} {s1 : Int32} {lay : List mShp} {M : mMem} {P : mPost} : mG (d) 214 30 [a0, a1] [.int s0, .int s1] lay M P = if s1 < s0 then mG d 214 33 [a0, a1] [] lay M P else mG d 214 51 [a0, a1] [] lay M P := e_icmp_ge rfl rfl
set_option maxRecDepth 20000 in
theorem g214_33 {d : Nat} {a1 : Option Value} {x : Nat} {lay : List mShp} {M : mMem} {P : mPost} (hx : ¬ x = 0) : mG (d) 214 33 [some (.ref x), a1] [] lay M P = mG d 214 34 [some (.ref x), a1] [.ref x] lay M P := e_aload_nP hx (i := 0) rfl rfl rfl
set_option maxRecDepth 20000 in
theorem g214_34 {d : Nat} {a0 a1 : Option Value} {s0 : Nat} {lay : List mShp} {M : mMem} {P : mPost} (hs : mSh lay s0 = some (13, 44)) : mG (d) 214 34 [a0, a1] [.ref s0] lay M P = mG d 214 37 [a0, a1] [.ref (M.2.2 s0 35)] lay M P := mG_of_and (mIsO_of hs (by decide)) (e_getA (ci := 10) (j := 35) rfl rfl rfl)
set_option maxRecDepth 20000 in
theorem g214_37 {d : Nat} {a0 : Option Value} {s0 : Nat} {x : Int32} {lay : List mShp} {M : mMem} {P : mPost} : mG (d) 214 37 [a0, some (.int x)] [.ref s0] lay M P = mG d 214 38 [a0, some (.int x)] [.int x, .ref s0] lay M P := e_iload_n (i := 1) rfl rfl rfl
set_option maxRecDepth 20000 in
theorem g214_38 {d : Nat} {a1 : Option Value} {s0 : Int32} {s1 : Nat} {x : Nat} {lay : List mShp} {M : mMem} {P : mPost} (hx : ¬ x = 0) : mG (d) 214 38 [some (.ref x), a1] [.int s0, .ref s1] lay M P = mG d 214 39 [some (.ref x), a1] [.ref x, .int s0, .ref s1] lay M P := e_aload_nP hx (i := 0) rfl rfl rfl
set_option maxRecDepth 20000 in
theorem g214_39 {d : Nat} {a0 a1 : Option Value} {s0 : Nat} {s1 : Int32} {s2 : Nat} {lay : List mShp} {M : mMem} {P : mPost} (hs : mSh lay s0 = some (13, 44)) : mG (d) 214 39 [a0, a1] [.ref s0, .int s1, .ref s2] lay M P = mG d 214 42 [a0, a1] [.ref (M.2.2 s0 33), .int s1, .ref s2] lay M P := mG_of_and (mIsO_of hs (by decide)) (e_getA (ci := 10) (j := 33) rfl rfl rfl)
set_option maxRecDepth 20000 in
theorem g214_42 {d : Nat} {a0 : Option Value} {s0 : Nat} {s1 : Int32} {s2 : Nat} {x : Int32} {lay : List mShp} {M : mMem} {P : mPost} : mG (d) 214 42 [a0, some (.int x)] [.ref s0, .int s1, .ref s2] lay M P = mG d 214 43 [a0, some (.int x)] [.int x, .ref s0, .int s1, .ref s2] lay M P := e_iload_n (i := 1) rfl rfl rfl
set_option maxRecDepth 20000 in
theorem g214_43 {d : Nat} {a0 a1 : Option Value} {s0 : Int32} {s1 : Nat} {s2 : Int32} {s3 : Nat} {lay : List mShp} {M : mMem} {P : mPost} (hs : mSh lay s1 = some (0, 5)) : mG (d) 214 43 [a0, a1] [.int s0, .ref s1, .int s2, .ref s3] lay M P = (mIdx s0 5 = true ∧ mG d 214 44 [a0, a1] [.int (M.1 s1 s0.toNatClampNeg), .int s2, .ref s3] lay M P) := e_iaload rfl hs
set_option maxRecDepth 20000 in
theorem g214_44 {d : Nat} {a0 a1 : Option Value} {s0 : Int32} {s1 : Int32} {s2 : Nat} {lay : List mShp} {M : mMem} {P : mPost} (hs : mSh lay s2 = some (0, 5)) : mG (d) 214 44 [a0, a1] [.int s0, .int s1, .ref s2] lay M P = (mIdx s1 5 = true ∧ mG d 214 45 [a0, a1] [] lay (mSetI M s2 s1.toNatClampNeg s0) P) := e_iastore rfl hs
set_option maxRecDepth 20000 in
theorem g214_45 {d : Nat} {a0 : Option Value} {x : Int32} {lay : List mShp} {M : mMem} {P : mPost} (h0 : mNoL a0 = true) : mG (d) 214 45 [a0, some (.int x)] [] lay M P = mG d 214 48 [a0, some (.int (x + Int32.ofInt 1))] [] lay M P := e_iinc (n := 1) rfl rfl (mS1_1 h0)
set_option maxRecDepth 20000 in
theorem g214_48 {d : Nat} {a0 a1 : Option Value} {lay : List mShp} {M : mMem} {P : mPost} : mG (d) 214 48 [a0, a1] [] lay M P = mG d 214 28 [a0, a1] [] lay M P := e_goto rfl rfl
set_option maxRecDepth 20000 in
theorem g214_51 {d : Nat} {a1 : Option Value} {x : Nat} {lay : List mShp} {M : mMem} {P : mPost} (hx : ¬ x = 0) : mG (d) 214 51 [some (.ref x), a1] [] lay M P = mG d 214 52 [some (.ref x), a1] [.ref x] lay M P := e_aload_nP hx (i := 0) rfl rfl rfl
set_option maxRecDepth 20000 in
theorem g214_52 {d : Nat} {a1 : Option Value} {s0 : Nat} {x : Nat} {lay : List mShp} {M : mMem} {P : mPost} (hx : ¬ x = 0) : mG (d) 214 52 [some (.ref x), a1] [.ref s0] lay M P = mG d 214 53 [some (.ref x), a1] [.ref x, .ref s0] lay M P := e_aload_nP hx (i := 0) rfl rfl rfl
set_option maxRecDepth 20000 in
theorem g214_53 {d : Nat} {a0 a1 : Option Value} {s0 : Nat} {s1 : Nat} {lay : List mShp} {M : mMem} {P : mPost} (hs : mSh lay s0 = some (13, 44)) : mG (d) 214 53 [a0, a1] [.ref s0, .ref s1] lay M P = mG d 214 56 [a0, a1] [.int (M.1 s0 2), .ref s1] lay M P := mG_of_and (mIsO_of hs (by decide)) (e_getI (ci := 10) (j := 2) rfl rfl rfl)
set_option maxRecDepth 20000 in
theorem g214_56 {d : Nat} {a0 a1 : Option Value} {s0 : Int32} {s1 : Nat} {lay : List mShp} {M : mMem} {P : mPost} (hs : mSh lay s1 = some (13, 44)) : mG (d) 214 56 [a0, a1] [.int s0, .ref s1] lay M P = mG d 214 59 [a0, a1] [] lay (mSetI M s1 36 s0) P := mG_of_and (mIsO_of hs (by decide)) (e_putI (ci := 10) (j := 36) rfl rfl (Or.inl rfl) rfl)
set_option maxRecDepth 20000 in
theorem g214_59 {d : Nat} {a1 : Option Value} {x : Nat} {lay : List mShp} {M : mMem} {P : mPost} (hx : ¬ x = 0) : mG (d) 214 59 [some (.ref x), a1] [] lay M P = mG d 214 60 [some (.ref x), a1] [.ref x] lay M P := e_aload_nP hx (i := 0) rfl rfl rfl
set_option maxRecDepth 20000 in
theorem g214_60 {d : Nat} {a0 a1 : Option Value} {s0 : Nat} {lay : List mShp} {M : mMem} {P : mPost} : mG (d) 214 60 [a0, a1] [.ref s0] lay M P = mG d 214 61 [a0, a1] [.int (Int32.ofInt 1), .ref s0] lay M P := e_iconst rfl
set_option maxRecDepth 20000 in
theorem g214_61 {d : Nat} {a0 a1 : Option Value} {s0 : Int32} {s1 : Nat} {lay : List mShp} {M : mMem} {P : mPost} (hs : mSh lay s1 = some (13, 44)) : mG (d) 214 61 [a0, a1] [.int s0, .ref s1] lay M P = ((s0 = 0 ∨ s0 = 1) ∧ mG d 214 64 [a0, a1] [] lay (mSetI M s1 37 s0) P) := mG_of_and (mIsO_of hs (by decide)) (e_putZ (ci := 10) (j := 37) rfl rfl (Or.inl rfl) rfl)
set_option maxRecDepth 20000 in
theorem g214_64 {d : Nat} {a1 : Option Value} {x : Nat} {lay : List mShp} {M : mMem} {P : mPost} (hx : ¬ x = 0) : mG (d) 214 64 [some (.ref x), a1] [] lay M P = mG d 214 65 [some (.ref x), a1] [.ref x] lay M P := e_aload_nP hx (i := 0) rfl rfl rfl
set_option maxRecDepth 20000 in
theorem g214_65 {d : Nat} {a0 a1 : Option Value} {s0 : Nat} {lay : List mShp} {M : mMem} {P : mPost} (hs : mSh lay s0 = some (13, 44)) : mG (d) 214 65 [a0, a1] [.ref s0] lay M P = mG d 214 68 [a0, a1] [.ref (M.2.2 s0 33)] lay M P := mG_of_and (mIsO_of hs (by decide)) (e_getA (ci := 10) (j := 33) rfl rfl rfl)
set_option maxRecDepth 20000 in
theorem g214_68 {d : Nat} {a0 a1 : Option Value} {s0 : Nat} {lay : List mShp} {M : mMem} {P : mPost} : mG (d) 214 68 [a0, a1] [.ref s0] lay M P = mG d 214 69 [a0, a1] [.int (Int32.ofInt 0), .ref s0] lay M P := e_iconst rfl
set_option maxRecDepth 20000 in
theorem g214_69 {d : Nat} {a0 a1 : Option Value} {s0 : Int32} {s1 : Nat} {lay : List mShp} {M : mMem} {P : mPost} (hs : mSh lay s1 = some (0, 5)) : mG (d) 214 69 [a0, a1] [.int s0, .ref s1] lay M P = (mIdx s0 5 = true ∧ mG d 214 70 [a0, a1] [.int (M.1 s1 s0.toNatClampNeg)] lay M P) := e_iaload rfl hs
set_option maxRecDepth 20000 in
theorem g214_70 {d : Nat} {a0 a1 : Option Value} {s0 : Int32} {lay : List mShp} {M : mMem} {P : mPost} : mG (d) 214 70 [a0, a1] [.int s0] lay M P = P (some (.int s0)) lay M := e_ireturnI rfl rfl
-- 215 X10_back
theorem g215_in {d : Nat} {x0 : Nat} {lay : List mShp} {M : mMem} {P : mPost} : mF d 215 [.ref x0] lay M P = mG d 215 0 [some (.ref x0), none] [] lay M P := mF_in rfl rfl
set_option maxRecDepth 20000 in
theorem g215_0 {d : Nat} {a1 : Option Value} {x : Nat} {lay : List mShp} {M : mMem} {P : mPost} (hx : ¬ x = 0) : mG (d) 215 0 [some (.ref x), a1] [] lay M P = mG d 215 1 [some (.ref x), a1] [.ref x] lay M P := e_aload_nP hx (i := 0) rfl rfl rfl
set_option maxRecDepth 20000 in
theorem g215_1 {d : Nat} {a0 a1 : Option Value} {s0 : Nat} {lay : List mShp} {M : mMem} {P : mPost} (hs : mSh lay s0 = some (13, 44)) : mG (d) 215 1 [a0, a1] [.ref s0] lay M P = mG d 215 4 [a0, a1] [.int (M.1 s0 37)] lay M P := mG_of_and (mIsO_of hs (by decide)) (e_getZ (ci := 10) (j := 37) rfl rfl rfl)
set_option maxRecDepth 20000 in
theorem g215_4 {d : Nat} {a0 a1 : Option Value} {s0 : Int32} {lay : List mShp} {M : mMem} {P : mPost} : mG (d) 215 4 [a0, a1] [.int s0] lay M P = if s0 = 0 then mG d 215 7 [a0, a1] [] lay M P else mG d 215 10 [a0, a1] [] lay M P := e_if_ne rfl rfl
set_option maxRecDepth 20000 in
theorem g215_7 {d : Nat} {a0 a1 : Option Value} {lay : List mShp} {M : mMem} {P : mPost} : mG (d) 215 7 [a0, a1] [] lay M P = mG d 215 9 [a0, a1] [.int (Int32.ofInt (-5))] lay M P := e_bipush rfl
set_option maxRecDepth 20000 in
theorem g215_9 {d : Nat} {a0 a1 : Option Value} {s0 : Int32} {lay : List mShp} {M : mMem} {P : mPost} : mG (d) 215 9 [a0, a1] [.int s0] lay M P = P (some (.int s0)) lay M := e_ireturnI rfl rfl
set_option maxRecDepth 20000 in
theorem g215_10 {d : Nat} {a0 a1 : Option Value} {lay : List mShp} {M : mMem} {P : mPost} : mG (d) 215 10 [a0, a1] [] lay M P = mG d 215 11 [a0, a1] [.int (Int32.ofInt 0)] lay M P := e_iconst rfl
set_option maxRecDepth 20000 in
theorem g215_11 {d : Nat} {a0 a1 : Option Value} {s0 : Int32} {lay : List mShp} {M : mMem} {P : mPost} (h0 : mNoL a0 = true) : mG (d) 215 11 [a0, a1] [.int s0] lay M P = mG d 215 12 [a0, some (.int s0)] [] lay M P := e_istore_n (i := 1) rfl rfl (by simp) (mS1_1 h0)
set_option maxRecDepth 20000 in
theorem g215_12 {d : Nat} {a0 : Option Value} {x : Int32} {lay : List mShp} {M : mMem} {P : mPost} : mG (d) 215 12 [a0, some (.int x)] [] lay M P = mG d 215 13 [a0, some (.int x)] [.int x] lay M P := e_iload_n (i := 1) rfl rfl rfl
set_option maxRecDepth 20000 in
theorem g215_13 {d : Nat} {a1 : Option Value} {s0 : Int32} {x : Nat} {lay : List mShp} {M : mMem} {P : mPost} (hx : ¬ x = 0) : mG (d) 215 13 [some (.ref x), a1] [.int s0] lay M P = mG d 215 14 [some (.ref x), a1] [.ref x, .int s0] lay M P := e_aload_nP hx (i := 0) rfl rfl rfl
set_option maxRecDepth 20000 in
theorem g215_14 {d : Nat} {a0 a1 : Option Value} {s0 : Nat} {s1 : Int32} {lay : List mShp} {M : mMem} {P : mPost} (hs : mSh lay s0 = some (13, 44)) : mG (d) 215 14 [a0, a1] [.ref s0, .int s1] lay M P = mG d 215 17 [a0, a1] [.int (M.1 s0 36), .int s1] lay M P := mG_of_and (mIsO_of hs (by decide)) (e_getI (ci := 10) (j := 36) rfl rfl rfl)
set_option maxRecDepth 20000 in
theorem g215_17 {d : Nat} {a0 a1 : Option Value} {s0 : Int32} {s1 : Int32} {lay : List mShp} {M : mMem} {P : mPost} : mG (d) 215 17 [a0, a1] [.int s0, .int s1] lay M P = if s1 < s0 then mG d 215 20 [a0, a1] [] lay M P else mG d 215 58 [a0, a1] [] lay M P := e_icmp_ge rfl rfl
set_option maxRecDepth 20000 in
theorem g215_20 {d : Nat} {a1 : Option Value} {x : Nat} {lay : List mShp} {M : mMem} {P : mPost} (hx : ¬ x = 0) : mG (d) 215 20 [some (.ref x), a1] [] lay M P = mG d 215 21 [some (.ref x), a1] [.ref x] lay M P := e_aload_nP hx (i := 0) rfl rfl rfl
set_option maxRecDepth 20000 in
theorem g215_21 {d : Nat} {a0 : Option Value} {s0 : Nat} {x : Int32} {lay : List mShp} {M : mMem} {P : mPost} : mG (d) 215 21 [a0, some (.int x)] [.ref s0] lay M P = mG d 215 22 [a0, some (.int x)] [.int x, .ref s0] lay M P := e_iload_n (i := 1) rfl rfl rfl
set_option maxRecDepth 20000 in
theorem g215_22 {d : Nat} {a0 a1 : Option Value} {s0 : Int32} {s1 : Nat} {lay : List mShp} {M : mMem} {P : mPost} : mG (d) 215 22 [a0, a1] [.int s0, .ref s1] lay M P = mG d 215 23 [a0, a1] [.int (Int32.ofInt 3), .int s0, .ref s1] lay M P := e_iconst rfl
set_option maxRecDepth 20000 in
theorem g215_23 {d : Nat} {a1 : Option Value} {s0 : Int32} {s1 : Int32} {s2 : Nat} {x : Nat} {lay : List mShp} {M : mMem} {P : mPost} (hx : ¬ x = 0) : mG (d) 215 23 [some (.ref x), a1] [.int s0, .int s1, .ref s2] lay M P = mG d 215 24 [some (.ref x), a1] [.ref x, .int s0, .int s1, .ref s2] lay M P := e_aload_nP hx (i := 0) rfl rfl rfl
set_option maxRecDepth 20000 in
theorem g215_24 {d : Nat} {a0 a1 : Option Value} {s0 : Nat} {s1 : Int32} {s2 : Int32} {s3 : Nat} {lay : List mShp} {M : mMem} {P : mPost} (hs : mSh lay s0 = some (13, 44)) : mG (d) 215 24 [a0, a1] [.ref s0, .int s1, .int s2, .ref s3] lay M P = mG d 215 27 [a0, a1] [.ref (M.2.2 s0 34), .int s1, .int s2, .ref s3] lay M P := mG_of_and (mIsO_of hs (by decide)) (e_getA (ci := 10) (j := 34) rfl rfl rfl)
set_option maxRecDepth 20000 in
theorem g215_27 {d : Nat} {a0 a1 : Option Value} {s0 : Nat} {s1 : Int32} {s2 : Int32} {s3 : Nat} {lay : List mShp} {M : mMem} {P : mPost} : mG (d) 215 27 [a0, a1] [.ref s0, .int s1, .int s2, .ref s3] lay M P = mG d 215 28 [a0, a1] [.int (Int32.ofInt 5), .ref s0, .int s1, .int s2, .ref s3] lay M P := e_iconst rfl
set_option maxRecDepth 20000 in
theorem g215_28 {d : Nat} {a0 : Option Value} {s0 : Int32} {s1 : Nat} {s2 : Int32} {s3 : Int32} {s4 : Nat} {x : Int32} {lay : List mShp} {M : mMem} {P : mPost} : mG (d) 215 28 [a0, some (.int x)] [.int s0, .ref s1, .int s2, .int s3, .ref s4] lay M P = mG d 215 29 [a0, some (.int x)] [.int x, .int s0, .ref s1, .int s2, .int s3, .ref s4] lay M P := e_iload_n (i := 1) rfl rfl rfl
set_option maxRecDepth 20000 in
theorem g215_29 {d : Nat} {a0 a1 : Option Value} {s0 : Int32} {s1 : Int32} {s2 : Nat} {s3 : Int32} {s4 : Int32} {s5 : Nat} {lay : List mShp} {M : mMem} {P : mPost} : mG (d) 215 29 [a0, a1] [.int s0, .int s1, .ref s2, .int s3, .int s4, .ref s5] lay M P = mG d 215 30 [a0, a1] [.int (s1 * s0), .ref s2, .int s3, .int s4, .ref s5] lay M P := e_imul rfl
set_option maxRecDepth 20000 in
theorem g215_30 {d : Nat} {a0 a1 : Option Value} {s0 : Int32} {s1 : Nat} {s2 : Int32} {s3 : Int32} {s4 : Nat} {lay : List mShp} {M : mMem} {P : mPost} : mG (d) 215 30 [a0, a1] [.int s0, .ref s1, .int s2, .int s3, .ref s4] lay M P = mG d 215 31 [a0, a1] [.int (Int32.ofInt 3), .int s0, .ref s1, .int s2, .int s3, .ref s4] lay M P := e_iconst rfl
set_option maxRecDepth 20000 in
theorem g215_31 {d : Nat} {a0 a1 : Option Value} {s0 : Int32} {s1 : Int32} {s2 : Nat} {s3 : Int32} {s4 : Int32} {s5 : Nat} {lay : List mShp} {M : mMem} {P : mPost} : mG (d) 215 31 [a0, a1] [.int s0, .int s1, .ref s2, .int s3, .int s4, .ref s5] lay M P = mG d 215 32 [a0, a1] [.int (s1 + s0), .ref s2, .int s3, .int s4, .ref s5] lay M P := e_iadd rfl
set_option maxRecDepth 20000 in
theorem g215_32 {d : Nat} {a0 a1 : Option Value} {s0 : Int32} {s1 : Nat} {s2 : Int32} {s3 : Int32} {s4 : Nat} {lay : List mShp} {M : mMem} {P : mPost} (hs : mSh lay s1 = some (0, 42)) : mG (d) 215 32 [a0, a1] [.int s0, .ref s1, .int s2, .int s3, .ref s4] lay M P = (mIdx s0 42 = true ∧ mG d 215 33 [a0, a1] [.int (M.1 s1 s0.toNatClampNeg), .int s2, .int s3, .ref s4] lay M P) := e_iaload rfl hs
set_option maxRecDepth 20000 in
theorem g215_33 {d : Nat} {a0 a1 : Option Value} {s0 : Int32} {s1 : Int32} {s2 : Int32} {s3 : Nat} {lay : List mShp} {M : mMem} {P : mPost} (hs : mSh lay s3 = some (13, 44)) : mG (d + 1) 215 33 [a0, a1] [.int s0, .int s1, .int s2, .ref s3] lay M P = mF d 153 [.ref s3, .int s2, .int s1, .int s0] lay M (fun v lay1 M1 => mG (d + 1) 215 36 [a0, a1] (v.toList ++ []) lay1 M1 P) := e_virtP3 (j := 153) (c := 10) rfl rfl rfl rfl rfl rfl hs (Nat.le_of_ble_eq_true rfl)
set_option maxRecDepth 20000 in
theorem g215_36 {d : Nat} {a1 : Option Value} {x : Nat} {lay : List mShp} {M : mMem} {P : mPost} (hx : ¬ x = 0) : mG (d) 215 36 [some (.ref x), a1] [] lay M P = mG d 215 37 [some (.ref x), a1] [.ref x] lay M P := e_aload_nP hx (i := 0) rfl rfl rfl
set_option maxRecDepth 20000 in
theorem g215_37 {d : Nat} {a0 : Option Value} {s0 : Nat} {x : Int32} {lay : List mShp} {M : mMem} {P : mPost} : mG (d) 215 37 [a0, some (.int x)] [.ref s0] lay M P = mG d 215 38 [a0, some (.int x)] [.int x, .ref s0] lay M P := e_iload_n (i := 1) rfl rfl rfl
set_option maxRecDepth 20000 in
theorem g215_38 {d : Nat} {a0 a1 : Option Value} {s0 : Int32} {s1 : Nat} {lay : List mShp} {M : mMem} {P : mPost} : mG (d) 215 38 [a0, a1] [.int s0, .ref s1] lay M P = mG d 215 39 [a0, a1] [.int (Int32.ofInt 4), .int s0, .ref s1] lay M P := e_iconst rfl
set_option maxRecDepth 20000 in
theorem g215_39 {d : Nat} {a1 : Option Value} {s0 : Int32} {s1 : Int32} {s2 : Nat} {x : Nat} {lay : List mShp} {M : mMem} {P : mPost} (hx : ¬ x = 0) : mG (d) 215 39 [some (.ref x), a1] [.int s0, .int s1, .ref s2] lay M P = mG d 215 40 [some (.ref x), a1] [.ref x, .int s0, .int s1, .ref s2] lay M P := e_aload_nP hx (i := 0) rfl rfl rfl
set_option maxRecDepth 20000 in
theorem g215_40 {d : Nat} {a0 a1 : Option Value} {s0 : Nat} {s1 : Int32} {s2 : Int32} {s3 : Nat} {lay : List mShp} {M : mMem} {P : mPost} (hs : mSh lay s0 = some (13, 44)) : mG (d) 215 40 [a0, a1] [.ref s0, .int s1, .int s2, .ref s3] lay M P = mG d 215 43 [a0, a1] [.ref (M.2.2 s0 34), .int s1, .int s2, .ref s3] lay M P := mG_of_and (mIsO_of hs (by decide)) (e_getA (ci := 10) (j := 34) rfl rfl rfl)
set_option maxRecDepth 20000 in
theorem g215_43 {d : Nat} {a0 a1 : Option Value} {s0 : Nat} {s1 : Int32} {s2 : Int32} {s3 : Nat} {lay : List mShp} {M : mMem} {P : mPost} : mG (d) 215 43 [a0, a1] [.ref s0, .int s1, .int s2, .ref s3] lay M P = mG d 215 44 [a0, a1] [.int (Int32.ofInt 5), .ref s0, .int s1, .int s2, .ref s3] lay M P := e_iconst rfl
set_option maxRecDepth 20000 in
theorem g215_44 {d : Nat} {a0 : Option Value} {s0 : Int32} {s1 : Nat} {s2 : Int32} {s3 : Int32} {s4 : Nat} {x : Int32} {lay : List mShp} {M : mMem} {P : mPost} : mG (d) 215 44 [a0, some (.int x)] [.int s0, .ref s1, .int s2, .int s3, .ref s4] lay M P = mG d 215 45 [a0, some (.int x)] [.int x, .int s0, .ref s1, .int s2, .int s3, .ref s4] lay M P := e_iload_n (i := 1) rfl rfl rfl
set_option maxRecDepth 20000 in
theorem g215_45 {d : Nat} {a0 a1 : Option Value} {s0 : Int32} {s1 : Int32} {s2 : Nat} {s3 : Int32} {s4 : Int32} {s5 : Nat} {lay : List mShp} {M : mMem} {P : mPost} : mG (d) 215 45 [a0, a1] [.int s0, .int s1, .ref s2, .int s3, .int s4, .ref s5] lay M P = mG d 215 46 [a0, a1] [.int (s1 * s0), .ref s2, .int s3, .int s4, .ref s5] lay M P := e_imul rfl
set_option maxRecDepth 20000 in
theorem g215_46 {d : Nat} {a0 a1 : Option Value} {s0 : Int32} {s1 : Nat} {s2 : Int32} {s3 : Int32} {s4 : Nat} {lay : List mShp} {M : mMem} {P : mPost} : mG (d) 215 46 [a0, a1] [.int s0, .ref s1, .int s2, .int s3, .ref s4] lay M P = mG d 215 47 [a0, a1] [.int (Int32.ofInt 4), .int s0, .ref s1, .int s2, .int s3, .ref s4] lay M P := e_iconst rfl
set_option maxRecDepth 20000 in
theorem g215_47 {d : Nat} {a0 a1 : Option Value} {s0 : Int32} {s1 : Int32} {s2 : Nat} {s3 : Int32} {s4 : Int32} {s5 : Nat} {lay : List mShp} {M : mMem} {P : mPost} : mG (d) 215 47 [a0, a1] [.int s0, .int s1, .ref s2, .int s3, .int s4, .ref s5] lay M P = mG d 215 48 [a0, a1] [.int (s1 + s0), .ref s2, .int s3, .int s4, .ref s5] lay M P := e_iadd rfl
set_option maxRecDepth 20000 in
theorem g215_48 {d : Nat} {a0 a1 : Option Value} {s0 : Int32} {s1 : Nat} {s2 : Int32} {s3 : Int32} {s4 : Nat} {lay : List mShp} {M : mMem} {P : mPost} (hs : mSh lay s1 = some (0, 42)) : mG (d) 215 48 [a0, a1] [.int s0, .ref s1, .int s2, .int s3, .ref s4] lay M P = (mIdx s0 42 = true ∧ mG d 215 49 [a0, a1] [.int (M.1 s1 s0.toNatClampNeg), .int s2, .int s3, .ref s4] lay M P) := e_iaload rfl hs
set_option maxRecDepth 20000 in
theorem g215_49 {d : Nat} {a0 a1 : Option Value} {s0 : Int32} {s1 : Int32} {s2 : Int32} {s3 : Nat} {lay : List mShp} {M : mMem} {P : mPost} (hs : mSh lay s3 = some (13, 44)) : mG (d + 1) 215 49 [a0, a1] [.int s0, .int s1, .int s2, .ref s3] lay M P = mF d 153 [.ref s3, .int s2, .int s1, .int s0] lay M (fun v lay1 M1 => mG (d + 1) 215 52 [a0, a1] (v.toList ++ []) lay1 M1 P) := e_virtP3 (j := 153) (c := 10) rfl rfl rfl rfl rfl rfl hs (Nat.le_of_ble_eq_true rfl)
set_option maxRecDepth 20000 in
theorem g215_52 {d : Nat} {a0 : Option Value} {x : Int32} {lay : List mShp} {M : mMem} {P : mPost} (h0 : mNoL a0 = true) : mG (d) 215 52 [a0, some (.int x)] [] lay M P = mG d 215 55 [a0, some (.int (x + Int32.ofInt 1))] [] lay M P := e_iinc (n := 1) rfl rfl (mS1_1 h0)
set_option maxRecDepth 20000 in
theorem g215_55 {d : Nat} {a0 a1 : Option Value} {lay : List mShp} {M : mMem} {P : mPost} : mG (d) 215 55 [a0, a1] [] lay M P = mG d 215 12 [a0, a1] [] lay M P := e_goto rfl rfl
set_option maxRecDepth 20000 in
theorem g215_58 {d : Nat} {a1 : Option Value} {x : Nat} {lay : List mShp} {M : mMem} {P : mPost} (hx : ¬ x = 0) : mG (d) 215 58 [some (.ref x), a1] [] lay M P = mG d 215 59 [some (.ref x), a1] [.ref x] lay M P := e_aload_nP hx (i := 0) rfl rfl rfl
set_option maxRecDepth 20000 in
theorem g215_59 {d : Nat} {a0 a1 : Option Value} {s0 : Nat} {lay : List mShp} {M : mMem} {P : mPost} (hs : mSh lay s0 = some (13, 44)) : mG (d) 215 59 [a0, a1] [.ref s0] lay M P = mG d 215 62 [a0, a1] [.ref (M.2.2 s0 0)] lay M P := mG_of_and (mIsO_of hs (by decide)) (e_getA (ci := 10) (j := 0) rfl rfl rfl)
set_option maxRecDepth 20000 in
theorem g215_62 {d : Nat} {a0 a1 : Option Value} {s0 : Nat} {lay : List mShp} {M : mMem} {P : mPost} : mG (d) 215 62 [a0, a1] [.ref s0] lay M P = mG d 215 64 [a0, a1] [.int (Int32.ofInt 41), .ref s0] lay M P := e_bipush rfl
set_option maxRecDepth 20000 in
theorem g215_64 {d : Nat} {a1 : Option Value} {s0 : Int32} {s1 : Nat} {x : Nat} {lay : List mShp} {M : mMem} {P : mPost} (hx : ¬ x = 0) : mG (d) 215 64 [some (.ref x), a1] [.int s0, .ref s1] lay M P = mG d 215 65 [some (.ref x), a1] [.ref x, .int s0, .ref s1] lay M P := e_aload_nP hx (i := 0) rfl rfl rfl
set_option maxRecDepth 20000 in
theorem g215_65 {d : Nat} {a0 a1 : Option Value} {s0 : Nat} {s1 : Int32} {s2 : Nat} {lay : List mShp} {M : mMem} {P : mPost} (hs : mSh lay s0 = some (13, 44)) : mG (d) 215 65 [a0, a1] [.ref s0, .int s1, .ref s2] lay M P = mG d 215 68 [a0, a1] [.ref (M.2.2 s0 34), .int s1, .ref s2] lay M P := mG_of_and (mIsO_of hs (by decide)) (e_getA (ci := 10) (j := 34) rfl rfl rfl)
set_option maxRecDepth 20000 in
theorem g215_68 {d : Nat} {a0 a1 : Option Value} {s0 : Nat} {s1 : Int32} {s2 : Nat} {lay : List mShp} {M : mMem} {P : mPost} : mG (d) 215 68 [a0, a1] [.ref s0, .int s1, .ref s2] lay M P = mG d 215 70 [a0, a1] [.int (Int32.ofInt 41), .ref s0, .int s1, .ref s2] lay M P := e_bipush rfl
set_option maxRecDepth 20000 in
theorem g215_70 {d : Nat} {a0 a1 : Option Value} {s0 : Int32} {s1 : Nat} {s2 : Int32} {s3 : Nat} {lay : List mShp} {M : mMem} {P : mPost} (hs : mSh lay s1 = some (0, 42)) : mG (d) 215 70 [a0, a1] [.int s0, .ref s1, .int s2, .ref s3] lay M P = (mIdx s0 42 = true ∧ mG d 215 71 [a0, a1] [.int (M.1 s1 s0.toNatClampNeg), .int s2, .ref s3] lay M P) := e_iaload rfl hs
set_option maxRecDepth 20000 in
theorem g215_71 {d : Nat} {a0 a1 : Option Value} {s0 : Int32} {s1 : Int32} {s2 : Nat} {lay : List mShp} {M : mMem} {P : mPost} (hs : mSh lay s2 = some (0, 42)) : mG (d) 215 71 [a0, a1] [.int s0, .int s1, .ref s2] lay M P = (mIdx s1 42 = true ∧ mG d 215 72 [a0, a1] [] lay (mSetI M s2 s1.toNatClampNeg s0) P) := e_iastore rfl hs
set_option maxRecDepth 20000 in
theorem g215_72 {d : Nat} {a0 a1 : Option Value} {lay : List mShp} {M : mMem} {P : mPost} : mG (d) 215 72 [a0, a1] [] lay M P = mG d 215 73 [a0, a1] [.int (Int32.ofInt 0)] lay M P := e_iconst rfl
set_option maxRecDepth 20000 in
theorem g215_73 {d : Nat} {a0 a1 : Option Value} {s0 : Int32} {lay : List mShp} {M : mMem} {P : mPost} (h0 : mNoL a0 = true) : mG (d) 215 73 [a0, a1] [.int s0] lay M P = mG d 215 74 [a0, some (.int s0)] [] lay M P := e_istore_n (i := 1) rfl rfl (by simp) (mS1_1 h0)
set_option maxRecDepth 20000 in
theorem g215_74 {d : Nat} {a0 : Option Value} {x : Int32} {lay : List mShp} {M : mMem} {P : mPost} : mG (d) 215 74 [a0, some (.int x)] [] lay M P = mG d 215 75 [a0, some (.int x)] [.int x] lay M P := e_iload_n (i := 1) rfl rfl rfl
set_option maxRecDepth 20000 in
theorem g215_75 {d : Nat} {a0 a1 : Option Value} {s0 : Int32} {lay : List mShp} {M : mMem} {P : mPost} : mG (d) 215 75 [a0, a1] [.int s0] lay M P = mG d 215 76 [a0, a1] [.int (Int32.ofInt 5), .int s0] lay M P := e_iconst rfl
set_option maxRecDepth 20000 in
theorem g215_76 {d : Nat} {a0 a1 : Option Value} {s0 : Int32} {s1 : Int32} {lay : List mShp} {M : mMem} {P : mPost} : mG (d) 215 76 [a0, a1] [.int s0, .int s1] lay M P = if s1 < s0 then mG d 215 79 [a0, a1] [] lay M P else mG d 215 97 [a0, a1] [] lay M P := e_icmp_ge rfl rfl
set_option maxRecDepth 20000 in
theorem g215_79 {d : Nat} {a1 : Option Value} {x : Nat} {lay : List mShp} {M : mMem} {P : mPost} (hx : ¬ x = 0) : mG (d) 215 79 [some (.ref x), a1] [] lay M P = mG d 215 80 [some (.ref x), a1] [.ref x] lay M P := e_aload_nP hx (i := 0) rfl rfl rfl
set_option maxRecDepth 20000 in
theorem g215_80 {d : Nat} {a0 a1 : Option Value} {s0 : Nat} {lay : List mShp} {M : mMem} {P : mPost} (hs : mSh lay s0 = some (13, 44)) : mG (d) 215 80 [a0, a1] [.ref s0] lay M P = mG d 215 83 [a0, a1] [.ref (M.2.2 s0 33)] lay M P := mG_of_and (mIsO_of hs (by decide)) (e_getA (ci := 10) (j := 33) rfl rfl rfl)
set_option maxRecDepth 20000 in
theorem g215_83 {d : Nat} {a0 : Option Value} {s0 : Nat} {x : Int32} {lay : List mShp} {M : mMem} {P : mPost} : mG (d) 215 83 [a0, some (.int x)] [.ref s0] lay M P = mG d 215 84 [a0, some (.int x)] [.int x, .ref s0] lay M P := e_iload_n (i := 1) rfl rfl rfl
set_option maxRecDepth 20000 in
theorem g215_84 {d : Nat} {a1 : Option Value} {s0 : Int32} {s1 : Nat} {x : Nat} {lay : List mShp} {M : mMem} {P : mPost} (hx : ¬ x = 0) : mG (d) 215 84 [some (.ref x), a1] [.int s0, .ref s1] lay M P = mG d 215 85 [some (.ref x), a1] [.ref x, .int s0, .ref s1] lay M P := e_aload_nP hx (i := 0) rfl rfl rfl
set_option maxRecDepth 20000 in
theorem g215_85 {d : Nat} {a0 a1 : Option Value} {s0 : Nat} {s1 : Int32} {s2 : Nat} {lay : List mShp} {M : mMem} {P : mPost} (hs : mSh lay s0 = some (13, 44)) : mG (d) 215 85 [a0, a1] [.ref s0, .int s1, .ref s2] lay M P = mG d 215 88 [a0, a1] [.ref (M.2.2 s0 35), .int s1, .ref s2] lay M P := mG_of_and (mIsO_of hs (by decide)) (e_getA (ci := 10) (j := 35) rfl rfl rfl)
set_option maxRecDepth 20000 in
theorem g215_88 {d : Nat} {a0 : Option Value} {s0 : Nat} {s1 : Int32} {s2 : Nat} {x : Int32} {lay : List mShp} {M : mMem} {P : mPost} : mG (d) 215 88 [a0, some (.int x)] [.ref s0, .int s1, .ref s2] lay M P = mG d 215 89 [a0, some (.int x)] [.int x, .ref s0, .int s1, .ref s2] lay M P := e_iload_n (i := 1) rfl rfl rfl
set_option maxRecDepth 20000 in
theorem g215_89 {d : Nat} {a0 a1 : Option Value} {s0 : Int32} {s1 : Nat} {s2 : Int32} {s3 : Nat} {lay : List mShp} {M : mMem} {P : mPost} (hs : mSh lay s1 = some (0, 5)) : mG (d) 215 89 [a0, a1] [.int s0, .ref s1, .int s2, .ref s3] lay M P = (mIdx s0 5 = true ∧ mG d 215 90 [a0, a1] [.int (M.1 s1 s0.toNatClampNeg), .int s2, .ref s3] lay M P) := e_iaload rfl hs
set_option maxRecDepth 20000 in
theorem g215_90 {d : Nat} {a0 a1 : Option Value} {s0 : Int32} {s1 : Int32} {s2 : Nat} {lay : List mShp} {M : mMem} {P : mPost} (hs : mSh lay s2 = some (0, 5)) : mG (d) 215 90 [a0, a1] [.int s0, .int s1, .ref s2] lay M P = (mIdx s1 5 = true ∧ mG d 215 91 [a0, a1] [] lay (mSetI M s2 s1.toNatClampNeg s0) P) := e_iastore rfl hs
set_option maxRecDepth 20000 in
theorem g215_91 {d : Nat} {a0 : Option Value} {x : Int32} {lay : List mShp} {M : mMem} {P : mPost} (h0 : mNoL a0 = true) : mG (d) 215 91 [a0, some (.int x)] [] lay M P = mG d 215 94 [a0, some (.int (x + Int32.ofInt 1))] [] lay M P := e_iinc (n := 1) rfl rfl (mS1_1 h0)
set_option maxRecDepth 20000 in
theorem g215_94 {d : Nat} {a0 a1 : Option Value} {lay : List mShp} {M : mMem} {P : mPost} : mG (d) 215 94 [a0, a1] [] lay M P = mG d 215 74 [a0, a1] [] lay M P := e_goto rfl rfl
set_option maxRecDepth 20000 in
theorem g215_97 {d : Nat} {a1 : Option Value} {x : Nat} {lay : List mShp} {M : mMem} {P : mPost} (hx : ¬ x = 0) : mG (d) 215 97 [some (.ref x), a1] [] lay M P = mG d 215 98 [some (.ref x), a1] [.ref x] lay M P := e_aload_nP hx (i := 0) rfl rfl rfl
set_option maxRecDepth 20000 in
theorem g215_98 {d : Nat} {a0 a1 : Option Value} {s0 : Nat} {lay : List mShp} {M : mMem} {P : mPost} (hs : mSh lay s0 = some (13, 44)) : mG (d) 215 98 [a0, a1] [.ref s0] lay M P = mG d 215 101 [a0, a1] [.ref (M.2.2 s0 33)] lay M P := mG_of_and (mIsO_of hs (by decide)) (e_getA (ci := 10) (j := 33) rfl rfl rfl)
set_option maxRecDepth 20000 in
theorem g215_101 {d : Nat} {a0 a1 : Option Value} {s0 : Nat} {lay : List mShp} {M : mMem} {P : mPost} : mG (d) 215 101 [a0, a1] [.ref s0] lay M P = mG d 215 102 [a0, a1] [.int (Int32.ofInt 0), .ref s0] lay M P := e_iconst rfl
set_option maxRecDepth 20000 in
theorem g215_102 {d : Nat} {a0 a1 : Option Value} {s0 : Int32} {s1 : Nat} {lay : List mShp} {M : mMem} {P : mPost} (hs : mSh lay s1 = some (0, 5)) : mG (d) 215 102 [a0, a1] [.int s0, .ref s1] lay M P = (mIdx s0 5 = true ∧ mG d 215 103 [a0, a1] [.int (M.1 s1 s0.toNatClampNeg)] lay M P) := e_iaload rfl hs
set_option maxRecDepth 20000 in
theorem g215_103 {d : Nat} {a0 a1 : Option Value} {s0 : Int32} {lay : List mShp} {M : mMem} {P : mPost} : mG (d) 215 103 [a0, a1] [.int s0] lay M P = P (some (.int s0)) lay M := e_ireturnI rfl rfl
-- 216 X10_body
theorem g216_in {d : Nat} {x0 : Nat} {x1 : Int32} {lay : List mShp} {M : mMem} {P : mPost} : mF d 216 [.ref x0, .int x1] lay M P = mG d 216 0 [some (.ref x0), some (.int x1)] [] lay M P := mF_in rfl rfl
set_option maxRecDepth 20000 in
theorem g216_0 {d : Nat} {a0 : Option Value} {x : Int32} {lay : List mShp} {M : mMem} {P : mPost} : mG (d) 216 0 [a0, some (.int x)] [] lay M P = mG d 216 1 [a0, some (.int x)] [.int x] lay M P := e_iload_n (i := 1) rfl rfl rfl
set_option maxRecDepth 20000 in
theorem g216_1 {d : Nat} {a0 a1 : Option Value} {s0 : Int32} {lay : List mShp} {M : mMem} {P : mPost} : mG (d) 216 1 [a0, a1] [.int s0] lay M P = mG d 216 2 [a0, a1] [.int (Int32.ofInt 0), .int s0] lay M P := e_iconst rfl
set_option maxRecDepth 20000 in
theorem g216_2 {d : Nat} {a0 a1 : Option Value} {s0 : Int32} {s1 : Int32} {lay : List mShp} {M : mMem} {P : mPost} : mG (d) 216 2 [a0, a1] [.int s0, .int s1] lay M P = mG d 216 4 [a0, a1] [.int (Int32.ofInt 7), .int s0, .int s1] lay M P := e_bipush rfl
set_option maxRecDepth 20000 in
theorem g216_4 {d : Nat} {a0 a1 : Option Value} {s0 : Int32} {s1 : Int32} {s2 : Int32} {lay : List mShp} {M : mMem} {P : mPost} : mG (d + 1) 216 4 [a0, a1] [.int s0, .int s1, .int s2] lay M P = mF d 146 [.int s2, .int s1, .int s0] lay M (fun v lay1 M1 => mG (d + 1) 216 7 [a0, a1] (v.toList ++ []) lay1 M1 P) := e_static3 (j := 146) rfl rfl rfl rfl rfl (Nat.le_of_ble_eq_true rfl)
set_option maxRecDepth 20000 in
theorem g216_7 {d : Nat} {a0 a1 : Option Value} {s0 : Int32} {lay : List mShp} {M : mMem} {P : mPost} : mG (d) 216 7 [a0, a1] [.int s0] lay M P = if s0 = 0 then mG d 216 10 [a0, a1] [] lay M P else mG d 216 12 [a0, a1] [] lay M P := e_if_ne rfl rfl
set_option maxRecDepth 20000 in
theorem g216_10 {d : Nat} {a0 a1 : Option Value} {lay : List mShp} {M : mMem} {P : mPost} : mG (d) 216 10 [a0, a1] [] lay M P = mG d 216 11 [a0, a1] [.int (Int32.ofInt (-1))] lay M P := e_iconst rfl
set_option maxRecDepth 20000 in
theorem g216_11 {d : Nat} {a0 a1 : Option Value} {s0 : Int32} {lay : List mShp} {M : mMem} {P : mPost} : mG (d) 216 11 [a0, a1] [.int s0] lay M P = P (some (.int s0)) lay M := e_ireturnI rfl rfl
set_option maxRecDepth 20000 in
theorem g216_12 {d : Nat} {a1 : Option Value} {x : Nat} {lay : List mShp} {M : mMem} {P : mPost} (hx : ¬ x = 0) : mG (d) 216 12 [some (.ref x), a1] [] lay M P = mG d 216 13 [some (.ref x), a1] [.ref x] lay M P := e_aload_nP hx (i := 0) rfl rfl rfl
set_option maxRecDepth 20000 in
theorem g216_13 {d : Nat} {a0 a1 : Option Value} {s0 : Nat} {lay : List mShp} {M : mMem} {P : mPost} (hs : mSh lay s0 = some (13, 44)) : mG (d) 216 13 [a0, a1] [.ref s0] lay M P = mG d 216 16 [a0, a1] [.int (M.1 s0 41)] lay M P := mG_of_and (mIsO_of hs (by decide)) (e_getI (ci := 10) (j := 41) rfl rfl rfl)
set_option maxRecDepth 20000 in
theorem g216_16 {d : Nat} {a0 a1 : Option Value} {s0 : Int32} {lay : List mShp} {M : mMem} {P : mPost} : mG (d) 216 16 [a0, a1] [.int s0] lay M P = mG d 216 18 [a0, a1] [.int (Int32.ofInt 50), .int s0] lay M P := e_bipush rfl
set_option maxRecDepth 20000 in
theorem g216_18 {d : Nat} {a0 a1 : Option Value} {s0 : Int32} {s1 : Int32} {lay : List mShp} {M : mMem} {P : mPost} : mG (d) 216 18 [a0, a1] [.int s0, .int s1] lay M P = if s1 = s0 then mG d 216 21 [a0, a1] [] lay M P else mG d 216 24 [a0, a1] [] lay M P := e_icmp_ne rfl rfl
set_option maxRecDepth 20000 in
theorem g216_21 {d : Nat} {a0 a1 : Option Value} {lay : List mShp} {M : mMem} {P : mPost} : mG (d) 216 21 [a0, a1] [] lay M P = mG d 216 23 [a0, a1] [.int (Int32.ofInt (-3))] lay M P := e_bipush rfl
set_option maxRecDepth 20000 in
theorem g216_23 {d : Nat} {a0 a1 : Option Value} {s0 : Int32} {lay : List mShp} {M : mMem} {P : mPost} : mG (d) 216 23 [a0, a1] [.int s0] lay M P = P (some (.int s0)) lay M := e_ireturnI rfl rfl
set_option maxRecDepth 20000 in
theorem g216_24 {d : Nat} {a1 : Option Value} {x : Nat} {lay : List mShp} {M : mMem} {P : mPost} (hx : ¬ x = 0) : mG (d) 216 24 [some (.ref x), a1] [] lay M P = mG d 216 25 [some (.ref x), a1] [.ref x] lay M P := e_aload_nP hx (i := 0) rfl rfl rfl
set_option maxRecDepth 20000 in
theorem g216_25 {d : Nat} {a0 a1 : Option Value} {s0 : Nat} {lay : List mShp} {M : mMem} {P : mPost} (hs : mSh lay s0 = some (13, 44)) : mG (d) 216 25 [a0, a1] [.ref s0] lay M P = mG d 216 28 [a0, a1] [.ref (M.2.2 s0 40)] lay M P := mG_of_and (mIsO_of hs (by decide)) (e_getA (ci := 10) (j := 40) rfl rfl rfl)
set_option maxRecDepth 20000 in
theorem g216_28 {d : Nat} {a1 : Option Value} {s0 : Nat} {x : Nat} {lay : List mShp} {M : mMem} {P : mPost} (hx : ¬ x = 0) : mG (d) 216 28 [some (.ref x), a1] [.ref s0] lay M P = mG d 216 29 [some (.ref x), a1] [.ref x, .ref s0] lay M P := e_aload_nP hx (i := 0) rfl rfl rfl
set_option maxRecDepth 20000 in
theorem g216_29 {d : Nat} {a0 a1 : Option Value} {s0 : Nat} {s1 : Nat} {lay : List mShp} {M : mMem} {P : mPost} (hs : mSh lay s0 = some (13, 44)) : mG (d) 216 29 [a0, a1] [.ref s0, .ref s1] lay M P = mG d 216 32 [a0, a1] [.int (M.1 s0 41), .ref s1] lay M P := mG_of_and (mIsO_of hs (by decide)) (e_getI (ci := 10) (j := 41) rfl rfl rfl)
set_option maxRecDepth 20000 in
theorem g216_32 {d : Nat} {a0 : Option Value} {s0 : Int32} {s1 : Nat} {x : Int32} {lay : List mShp} {M : mMem} {P : mPost} : mG (d) 216 32 [a0, some (.int x)] [.int s0, .ref s1] lay M P = mG d 216 33 [a0, some (.int x)] [.int x, .int s0, .ref s1] lay M P := e_iload_n (i := 1) rfl rfl rfl
set_option maxRecDepth 20000 in
theorem g216_33 {d : Nat} {a0 a1 : Option Value} {s0 : Int32} {s1 : Int32} {s2 : Nat} {lay : List mShp} {M : mMem} {P : mPost} (hs : mSh lay s2 = some (0, 50)) : mG (d) 216 33 [a0, a1] [.int s0, .int s1, .ref s2] lay M P = (mIdx s1 50 = true ∧ mG d 216 34 [a0, a1] [] lay (mSetI M s2 s1.toNatClampNeg s0) P) := e_iastore rfl hs
set_option maxRecDepth 20000 in
theorem g216_34 {d : Nat} {a1 : Option Value} {x : Nat} {lay : List mShp} {M : mMem} {P : mPost} (hx : ¬ x = 0) : mG (d) 216 34 [some (.ref x), a1] [] lay M P = mG d 216 35 [some (.ref x), a1] [.ref x] lay M P := e_aload_nP hx (i := 0) rfl rfl rfl
set_option maxRecDepth 20000 in
theorem g216_35 {d : Nat} {a0 a1 : Option Value} {s0 : Nat} {lay : List mShp} {M : mMem} {P : mPost} : mG (d) 216 35 [a0, a1] [.ref s0] lay M P = mG d 216 36 [a0, a1] [.ref s0, .ref s0] lay M P := e_dupr rfl
set_option maxRecDepth 20000 in
theorem g216_36 {d : Nat} {a0 a1 : Option Value} {s0 : Nat} {s1 : Nat} {lay : List mShp} {M : mMem} {P : mPost} (hs : mSh lay s0 = some (13, 44)) : mG (d) 216 36 [a0, a1] [.ref s0, .ref s1] lay M P = mG d 216 39 [a0, a1] [.int (M.1 s0 41), .ref s1] lay M P := mG_of_and (mIsO_of hs (by decide)) (e_getI (ci := 10) (j := 41) rfl rfl rfl)
set_option maxRecDepth 20000 in
theorem g216_39 {d : Nat} {a0 a1 : Option Value} {s0 : Int32} {s1 : Nat} {lay : List mShp} {M : mMem} {P : mPost} : mG (d) 216 39 [a0, a1] [.int s0, .ref s1] lay M P = mG d 216 40 [a0, a1] [.int (Int32.ofInt 1), .int s0, .ref s1] lay M P := e_iconst rfl
set_option maxRecDepth 20000 in
theorem g216_40 {d : Nat} {a0 a1 : Option Value} {s0 : Int32} {s1 : Int32} {s2 : Nat} {lay : List mShp} {M : mMem} {P : mPost} : mG (d) 216 40 [a0, a1] [.int s0, .int s1, .ref s2] lay M P = mG d 216 41 [a0, a1] [.int (s1 + s0), .ref s2] lay M P := e_iadd rfl
set_option maxRecDepth 20000 in
theorem g216_41 {d : Nat} {a0 a1 : Option Value} {s0 : Int32} {s1 : Nat} {lay : List mShp} {M : mMem} {P : mPost} (hs : mSh lay s1 = some (13, 44)) : mG (d) 216 41 [a0, a1] [.int s0, .ref s1] lay M P = mG d 216 44 [a0, a1] [] lay (mSetI M s1 41 s0) P := mG_of_and (mIsO_of hs (by decide)) (e_putI (ci := 10) (j := 41) rfl rfl (Or.inl rfl) rfl)
set_option maxRecDepth 20000 in
theorem g216_44 {d : Nat} {a1 : Option Value} {x : Nat} {lay : List mShp} {M : mMem} {P : mPost} (hx : ¬ x = 0) : mG (d) 216 44 [some (.ref x), a1] [] lay M P = mG d 216 45 [some (.ref x), a1] [.ref x] lay M P := e_aload_nP hx (i := 0) rfl rfl rfl
set_option maxRecDepth 20000 in
theorem g216_45 {d : Nat} {a0 a1 : Option Value} {s0 : Nat} {lay : List mShp} {M : mMem} {P : mPost} (hs : mSh lay s0 = some (13, 44)) : mG (d) 216 45 [a0, a1] [.ref s0] lay M P = mG d 216 48 [a0, a1] [.int (M.1 s0 41)] lay M P := mG_of_and (mIsO_of hs (by decide)) (e_getI (ci := 10) (j := 41) rfl rfl rfl)
set_option maxRecDepth 20000 in
theorem g216_48 {d : Nat} {a0 a1 : Option Value} {s0 : Int32} {lay : List mShp} {M : mMem} {P : mPost} : mG (d) 216 48 [a0, a1] [.int s0] lay M P = mG d 216 49 [a0, a1] [.int (Int32.ofInt 1), .int s0] lay M P := e_iconst rfl
set_option maxRecDepth 20000 in
theorem g216_49 {d : Nat} {a0 a1 : Option Value} {s0 : Int32} {s1 : Int32} {lay : List mShp} {M : mMem} {P : mPost} : mG (d) 216 49 [a0, a1] [.int s0, .int s1] lay M P = mG d 216 50 [a0, a1] [.int (s1 - s0)] lay M P := e_isub rfl
set_option maxRecDepth 20000 in
theorem g216_50 {d : Nat} {a0 a1 : Option Value} {s0 : Int32} {lay : List mShp} {M : mMem} {P : mPost} : mG (d) 216 50 [a0, a1] [.int s0] lay M P = P (some (.int s0)) lay M := e_ireturnI rfl rfl
-- 217 X10_does
theorem g217_in {d : Nat} {x0 : Nat} {x1 : Int32} {x2 : Int32} {x3 : Int32} {lay : List mShp} {M : mMem} {P : mPost} : mF d 217 [.ref x0, .int x1, .int x2, .int x3] lay M P = mG d 217 0 [some (.ref x0), some (.int x1), some (.int x2), some (.int x3)] [] lay M P := mF_in rfl rfl
set_option maxRecDepth 20000 in
theorem g217_0 {d : Nat} {a1 a2 a3 : Option Value} {x : Nat} {lay : List mShp} {M : mMem} {P : mPost} (hx : ¬ x = 0) : mG (d) 217 0 [some (.ref x), a1, a2, a3] [] lay M P = mG d 217 1 [some (.ref x), a1, a2, a3] [.ref x] lay M P := e_aload_nP hx (i := 0) rfl rfl rfl
set_option maxRecDepth 20000 in
theorem g217_1 {d : Nat} {a1 a2 a3 : Option Value} {s0 : Nat} {x : Nat} {lay : List mShp} {M : mMem} {P : mPost} (hx : ¬ x = 0) : mG (d) 217 1 [some (.ref x), a1, a2, a3] [.ref s0] lay M P = mG d 217 2 [some (.ref x), a1, a2, a3] [.ref x, .ref s0] lay M P := e_aload_nP hx (i := 0) rfl rfl rfl
set_option maxRecDepth 20000 in
theorem g217_2 {d : Nat} {a0 a1 a2 a3 : Option Value} {s0 : Nat} {s1 : Nat} {lay : List mShp} {M : mMem} {P : mPost} (hs : mSh lay s0 = some (13, 44)) : mG (d) 217 2 [a0, a1, a2, a3] [.ref s0, .ref s1] lay M P = mG d 217 5 [a0, a1, a2, a3] [.ref (M.2.2 s0 40), .ref s1] lay M P := mG_of_and (mIsO_of hs (by decide)) (e_getA (ci := 10) (j := 40) rfl rfl rfl)
set_option maxRecDepth 20000 in
theorem g217_5 {d : Nat} {a0 a2 a3 : Option Value} {s0 : Nat} {s1 : Nat} {x : Int32} {lay : List mShp} {M : mMem} {P : mPost} : mG (d) 217 5 [a0, some (.int x), a2, a3] [.ref s0, .ref s1] lay M P = mG d 217 6 [a0, some (.int x), a2, a3] [.int x, .ref s0, .ref s1] lay M P := e_iload_n (i := 1) rfl rfl rfl
set_option maxRecDepth 20000 in
theorem g217_6 {d : Nat} {a0 a1 a2 a3 : Option Value} {s0 : Int32} {s1 : Nat} {s2 : Nat} {lay : List mShp} {M : mMem} {P : mPost} (hs : mSh lay s1 = some (0, 50)) : mG (d) 217 6 [a0, a1, a2, a3] [.int s0, .ref s1, .ref s2] lay M P = (mIdx s0 50 = true ∧ mG d 217 7 [a0, a1, a2, a3] [.int (M.1 s1 s0.toNatClampNeg), .ref s2] lay M P) := e_iaload rfl hs
set_option maxRecDepth 20000 in
theorem g217_7 {d : Nat} {a0 a2 a3 : Option Value} {s0 : Int32} {s1 : Nat} {x : Int32} {lay : List mShp} {M : mMem} {P : mPost} : mG (d) 217 7 [a0, some (.int x), a2, a3] [.int s0, .ref s1] lay M P = mG d 217 8 [a0, some (.int x), a2, a3] [.int x, .int s0, .ref s1] lay M P := e_iload_n (i := 1) rfl rfl rfl
set_option maxRecDepth 20000 in
theorem g217_8 {d : Nat} {a0 a1 a3 : Option Value} {s0 : Int32} {s1 : Int32} {s2 : Nat} {x : Int32} {lay : List mShp} {M : mMem} {P : mPost} : mG (d) 217 8 [a0, a1, some (.int x), a3] [.int s0, .int s1, .ref s2] lay M P = mG d 217 9 [a0, a1, some (.int x), a3] [.int x, .int s0, .int s1, .ref s2] lay M P := e_iload_n (i := 2) rfl rfl rfl
set_option maxRecDepth 20000 in
theorem g217_9 {d : Nat} {a0 a1 a2 : Option Value} {s0 : Int32} {s1 : Int32} {s2 : Int32} {s3 : Nat} {x : Int32} {lay : List mShp} {M : mMem} {P : mPost} : mG (d) 217 9 [a0, a1, a2, some (.int x)] [.int s0, .int s1, .int s2, .ref s3] lay M P = mG d 217 10 [a0, a1, a2, some (.int x)] [.int x, .int s0, .int s1, .int s2, .ref s3] lay M P := e_iload_n (i := 3) rfl rfl rfl
set_option maxRecDepth 20000 in
theorem g217_10 {d : Nat} {a0 a1 a2 a3 : Option Value} {s0 : Int32} {s1 : Int32} {s2 : Int32} {s3 : Int32} {s4 : Nat} {lay : List mShp} {M : mMem} {P : mPost} (hs : mSh lay s4 = some (13, 44)) : mG (d + 1) 217 10 [a0, a1, a2, a3] [.int s0, .int s1, .int s2, .int s3, .ref s4] lay M P = mF d 218 [.ref s4, .int s3, .int s2, .int s1, .int s0] lay M (fun v lay1 M1 => mG (d + 1) 217 13 [a0, a1, a2, a3] (v.toList ++ []) lay1 M1 P) := e_virtP4 (j := 218) (c := 10) rfl rfl rfl rfl rfl rfl hs (Nat.le_of_ble_eq_true rfl)
set_option maxRecDepth 20000 in
theorem g217_13 {d : Nat} {a0 a1 a2 a3 : Option Value} {s0 : Int32} {lay : List mShp} {M : mMem} {P : mPost} : mG (d) 217 13 [a0, a1, a2, a3] [.int s0] lay M P = P (some (.int s0)) lay M := e_ireturnI rfl rfl
-- 218 X10_byKind
theorem g218_in {d : Nat} {x0 : Nat} {x1 : Int32} {x2 : Int32} {x3 : Int32} {x4 : Int32} {lay : List mShp} {M : mMem} {P : mPost} : mF d 218 [.ref x0, .int x1, .int x2, .int x3, .int x4] lay M P = mG d 218 0 [some (.ref x0), some (.int x1), some (.int x2), some (.int x3), some (.int x4), none, none, none] [] lay M P := mF_in rfl rfl
set_option maxRecDepth 20000 in
theorem g218_0 {d : Nat} {a0 a2 a3 a4 a5 a6 a7 : Option Value} {x : Int32} {lay : List mShp} {M : mMem} {P : mPost} : mG (d) 218 0 [a0, some (.int x), a2, a3, a4, a5, a6, a7] [] lay M P = mG d 218 1 [a0, some (.int x), a2, a3, a4, a5, a6, a7] [.int x] lay M P := e_iload_n (i := 1) rfl rfl rfl
set_option maxRecDepth 20000 in
theorem g218_1 {d : Nat} {a0 a1 a2 a3 a4 a5 a6 a7 : Option Value} {s0 : Int32} {lay : List mShp} {M : mMem} {P : mPost} (h0 : mNoL a4 = true) : mG (d) 218 1 [a0, a1, a2, a3, a4, a5, a6, a7] [.int s0] lay M P = mG d 218 3 [a0, a1, a2, a3, a4, some (.int s0), a6, a7] [] lay M P := e_istore (i := 5) rfl (by simp) (mS1_5 h0)
set_option maxRecDepth 20000 in
theorem g218_3 {d : Nat} {a1 a2 a3 a4 a5 a6 a7 : Option Value} {x : Nat} {lay : List mShp} {M : mMem} {P : mPost} (hx : ¬ x = 0) : mG (d) 218 3 [some (.ref x), a1, a2, a3, a4, a5, a6, a7] [] lay M P = mG d 218 4 [some (.ref x), a1, a2, a3, a4, a5, a6, a7] [.ref x] lay M P := e_aload_nP hx (i := 0) rfl rfl rfl
set_option maxRecDepth 20000 in
theorem g218_4 {d : Nat} {a0 a1 a2 a3 a4 a5 a6 a7 : Option Value} {s0 : Nat} {lay : List mShp} {M : mMem} {P : mPost} (hs : mSh lay s0 = some (13, 44)) : mG (d) 218 4 [a0, a1, a2, a3, a4, a5, a6, a7] [.ref s0] lay M P = mG d 218 7 [a0, a1, a2, a3, a4, a5, a6, a7] [.ref (M.2.2 s0 39)] lay M P := mG_of_and (mIsO_of hs (by decide)) (e_getA (ci := 10) (j := 39) rfl rfl rfl)
set_option maxRecDepth 20000 in
theorem g218_7 {d : Nat} {a0 a1 a2 a3 a4 a5 a6 a7 : Option Value} {s0 : Nat} {lay : List mShp} {M : mMem} {P : mPost} : mG (d) 218 7 [a0, a1, a2, a3, a4, a5, a6, a7] [.ref s0] lay M P = mG d 218 8 [a0, a1, a2, a3, a4, a5, a6, a7] [.int (Int32.ofInt 4), .ref s0] lay M P := e_iconst rfl
set_option maxRecDepth 20000 in
theorem g218_8 {d : Nat} {a0 a1 a2 a3 a4 a6 a7 : Option Value} {s0 : Int32} {s1 : Nat} {x : Int32} {lay : List mShp} {M : mMem} {P : mPost} : mG (d) 218 8 [a0, a1, a2, a3, a4, some (.int x), a6, a7] [.int s0, .ref s1] lay M P = mG d 218 10 [a0, a1, a2, a3, a4, some (.int x), a6, a7] [.int x, .int s0, .ref s1] lay M P := e_iload (i := 5) rfl rfl
set_option maxRecDepth 20000 in
theorem g218_10 {d : Nat} {a0 a1 a2 a3 a4 a5 a6 a7 : Option Value} {s0 : Int32} {s1 : Int32} {s2 : Nat} {lay : List mShp} {M : mMem} {P : mPost} : mG (d) 218 10 [a0, a1, a2, a3, a4, a5, a6, a7] [.int s0, .int s1, .ref s2] lay M P = mG d 218 11 [a0, a1, a2, a3, a4, a5, a6, a7] [.int (s1 * s0), .ref s2] lay M P := e_imul rfl
set_option maxRecDepth 20000 in
theorem g218_11 {d : Nat} {a0 a1 a2 a4 a5 a6 a7 : Option Value} {s0 : Int32} {s1 : Nat} {x : Int32} {lay : List mShp} {M : mMem} {P : mPost} : mG (d) 218 11 [a0, a1, a2, some (.int x), a4, a5, a6, a7] [.int s0, .ref s1] lay M P = mG d 218 12 [a0, a1, a2, some (.int x), a4, a5, a6, a7] [.int x, .int s0, .ref s1] lay M P := e_iload_n (i := 3) rfl rfl rfl
set_option maxRecDepth 20000 in
theorem g218_12 {d : Nat} {a0 a1 a2 a3 a4 a5 a6 a7 : Option Value} {s0 : Int32} {s1 : Int32} {s2 : Nat} {lay : List mShp} {M : mMem} {P : mPost} : mG (d) 218 12 [a0, a1, a2, a3, a4, a5, a6, a7] [.int s0, .int s1, .ref s2] lay M P = mG d 218 13 [a0, a1, a2, a3, a4, a5, a6, a7] [.int (s1 + s0), .ref s2] lay M P := e_iadd rfl
set_option maxRecDepth 20000 in
theorem g218_13 {d : Nat} {a0 a1 a2 a3 a4 a5 a6 a7 : Option Value} {s0 : Int32} {s1 : Nat} {lay : List mShp} {M : mMem} {P : mPost} (hs : mSh lay s1 = some (0, 32)) : mG (d) 218 13 [a0, a1, a2, a3, a4, a5, a6, a7] [.int s0, .ref s1] lay M P = (mIdx s0 32 = true ∧ mG d 218 14 [a0, a1, a2, a3, a4, a5, a6, a7] [.int (M.1 s1 s0.toNatClampNeg)] lay M P) := e_iaload rfl hs
set_option maxRecDepth 20000 in
theorem g218_14 {d : Nat} {a0 a1 a2 a3 a4 a5 a6 a7 : Option Value} {s0 : Int32} {lay : List mShp} {M : mMem} {P : mPost} : mG (d) 218 14 [a0, a1, a2, a3, a4, a5, a6, a7] [.int s0] lay M P = if s0 = 0 then mG d 218 17 [a0, a1, a2, a3, a4, a5, a6, a7] [] lay M P else mG d 218 29 [a0, a1, a2, a3, a4, a5, a6, a7] [] lay M P := e_if_ne rfl rfl
set_option maxRecDepth 20000 in
theorem g218_17 {d : Nat} {a1 a2 a3 a4 a5 a6 a7 : Option Value} {x : Nat} {lay : List mShp} {M : mMem} {P : mPost} (hx : ¬ x = 0) : mG (d) 218 17 [some (.ref x), a1, a2, a3, a4, a5, a6, a7] [] lay M P = mG d 218 18 [some (.ref x), a1, a2, a3, a4, a5, a6, a7] [.ref x] lay M P := e_aload_nP hx (i := 0) rfl rfl rfl
set_option maxRecDepth 20000 in
theorem g218_18 {d : Nat} {a0 a1 a2 a3 a4 a5 a6 a7 : Option Value} {s0 : Nat} {lay : List mShp} {M : mMem} {P : mPost} (hs : mSh lay s0 = some (13, 44)) : mG (d) 218 18 [a0, a1, a2, a3, a4, a5, a6, a7] [.ref s0] lay M P = mG d 218 21 [a0, a1, a2, a3, a4, a5, a6, a7] [.ref (M.2.2 s0 38)] lay M P := mG_of_and (mIsO_of hs (by decide)) (e_getA (ci := 10) (j := 38) rfl rfl rfl)
set_option maxRecDepth 20000 in
theorem g218_21 {d : Nat} {a0 a1 a2 a3 a4 a6 a7 : Option Value} {s0 : Nat} {x : Int32} {lay : List mShp} {M : mMem} {P : mPost} : mG (d) 218 21 [a0, a1, a2, a3, a4, some (.int x), a6, a7] [.ref s0] lay M P = mG d 218 23 [a0, a1, a2, a3, a4, some (.int x), a6, a7] [.int x, .ref s0] lay M P := e_iload (i := 5) rfl rfl
set_option maxRecDepth 20000 in
theorem g218_23 {d : Nat} {a0 a1 a2 a3 a4 a5 a6 a7 : Option Value} {s0 : Int32} {s1 : Nat} {lay : List mShp} {M : mMem} {P : mPost} (hs : mSh lay s1 = some (0, 8)) : mG (d) 218 23 [a0, a1, a2, a3, a4, a5, a6, a7] [.int s0, .ref s1] lay M P = (mIdx s0 8 = true ∧ mG d 218 24 [a0, a1, a2, a3, a4, a5, a6, a7] [.int (M.1 s1 s0.toNatClampNeg)] lay M P) := e_iaload rfl hs
set_option maxRecDepth 20000 in
theorem g218_24 {d : Nat} {a0 a1 a2 a3 a4 a5 a6 a7 : Option Value} {s0 : Int32} {lay : List mShp} {M : mMem} {P : mPost} (h0 : mNoL a4 = true) : mG (d) 218 24 [a0, a1, a2, a3, a4, a5, a6, a7] [.int s0] lay M P = mG d 218 26 [a0, a1, a2, a3, a4, some (.int s0), a6, a7] [] lay M P := e_istore (i := 5) rfl (by simp) (mS1_5 h0)
set_option maxRecDepth 20000 in
theorem g218_26 {d : Nat} {a0 a1 a2 a3 a4 a5 a6 a7 : Option Value} {lay : List mShp} {M : mMem} {P : mPost} : mG (d) 218 26 [a0, a1, a2, a3, a4, a5, a6, a7] [] lay M P = mG d 218 3 [a0, a1, a2, a3, a4, a5, a6, a7] [] lay M P := e_goto rfl rfl
set_option maxRecDepth 20000 in
theorem g218_29 {d : Nat} {a1 a2 a3 a4 a5 a6 a7 : Option Value} {x : Nat} {lay : List mShp} {M : mMem} {P : mPost} (hx : ¬ x = 0) : mG (d) 218 29 [some (.ref x), a1, a2, a3, a4, a5, a6, a7] [] lay M P = mG d 218 30 [some (.ref x), a1, a2, a3, a4, a5, a6, a7] [.ref x] lay M P := e_aload_nP hx (i := 0) rfl rfl rfl
set_option maxRecDepth 20000 in
theorem g218_30 {d : Nat} {a0 a1 a2 a3 a4 a5 a6 a7 : Option Value} {s0 : Nat} {lay : List mShp} {M : mMem} {P : mPost} (hs : mSh lay s0 = some (13, 44)) : mG (d) 218 30 [a0, a1, a2, a3, a4, a5, a6, a7] [.ref s0] lay M P = mG d 218 33 [a0, a1, a2, a3, a4, a5, a6, a7] [.ref (M.2.2 s0 38)] lay M P := mG_of_and (mIsO_of hs (by decide)) (e_getA (ci := 10) (j := 38) rfl rfl rfl)
set_option maxRecDepth 20000 in
theorem g218_33 {d : Nat} {a0 a1 a2 a3 a4 a6 a7 : Option Value} {s0 : Nat} {x : Int32} {lay : List mShp} {M : mMem} {P : mPost} : mG (d) 218 33 [a0, a1, a2, a3, a4, some (.int x), a6, a7] [.ref s0] lay M P = mG d 218 35 [a0, a1, a2, a3, a4, some (.int x), a6, a7] [.int x, .ref s0] lay M P := e_iload (i := 5) rfl rfl
set_option maxRecDepth 20000 in
theorem g218_35 {d : Nat} {a0 a1 a2 a3 a4 a5 a6 a7 : Option Value} {s0 : Int32} {s1 : Nat} {lay : List mShp} {M : mMem} {P : mPost} (hs : mSh lay s1 = some (0, 8)) : mG (d) 218 35 [a0, a1, a2, a3, a4, a5, a6, a7] [.int s0, .ref s1] lay M P = (mIdx s0 8 = true ∧ mG d 218 36 [a0, a1, a2, a3, a4, a5, a6, a7] [.int (M.1 s1 s0.toNatClampNeg)] lay M P) := e_iaload rfl hs
set_option maxRecDepth 20000 in
theorem g218_36 {d : Nat} {a0 a1 a2 a3 a4 a5 a6 a7 : Option Value} {s0 : Int32} {lay : List mShp} {M : mMem} {P : mPost} (h0 : mNoL a5 = true) : mG (d) 218 36 [a0, a1, a2, a3, a4, a5, a6, a7] [.int s0] lay M P = mG d 218 38 [a0, a1, a2, a3, a4, a5, some (.int s0), a7] [] lay M P := e_istore (i := 6) rfl (by simp) (mS1_6 h0)
set_option maxRecDepth 20000 in
theorem g218_38 {d : Nat} {a1 a2 a3 a4 a5 a6 a7 : Option Value} {x : Nat} {lay : List mShp} {M : mMem} {P : mPost} (hx : ¬ x = 0) : mG (d) 218 38 [some (.ref x), a1, a2, a3, a4, a5, a6, a7] [] lay M P = mG d 218 39 [some (.ref x), a1, a2, a3, a4, a5, a6, a7] [.ref x] lay M P := e_aload_nP hx (i := 0) rfl rfl rfl
set_option maxRecDepth 20000 in
theorem g218_39 {d : Nat} {a0 a1 a2 a3 a4 a5 a6 a7 : Option Value} {s0 : Nat} {lay : List mShp} {M : mMem} {P : mPost} (hs : mSh lay s0 = some (13, 44)) : mG (d) 218 39 [a0, a1, a2, a3, a4, a5, a6, a7] [.ref s0] lay M P = mG d 218 42 [a0, a1, a2, a3, a4, a5, a6, a7] [.ref (M.2.2 s0 39)] lay M P := mG_of_and (mIsO_of hs (by decide)) (e_getA (ci := 10) (j := 39) rfl rfl rfl)
set_option maxRecDepth 20000 in
theorem g218_42 {d : Nat} {a0 a1 a2 a3 a4 a5 a6 a7 : Option Value} {s0 : Nat} {lay : List mShp} {M : mMem} {P : mPost} : mG (d) 218 42 [a0, a1, a2, a3, a4, a5, a6, a7] [.ref s0] lay M P = mG d 218 43 [a0, a1, a2, a3, a4, a5, a6, a7] [.int (Int32.ofInt 4), .ref s0] lay M P := e_iconst rfl
set_option maxRecDepth 20000 in
theorem g218_43 {d : Nat} {a0 a1 a2 a3 a4 a6 a7 : Option Value} {s0 : Int32} {s1 : Nat} {x : Int32} {lay : List mShp} {M : mMem} {P : mPost} : mG (d) 218 43 [a0, a1, a2, a3, a4, some (.int x), a6, a7] [.int s0, .ref s1] lay M P = mG d 218 45 [a0, a1, a2, a3, a4, some (.int x), a6, a7] [.int x, .int s0, .ref s1] lay M P := e_iload (i := 5) rfl rfl
set_option maxRecDepth 20000 in
theorem g218_45 {d : Nat} {a0 a1 a2 a3 a4 a5 a6 a7 : Option Value} {s0 : Int32} {s1 : Int32} {s2 : Nat} {lay : List mShp} {M : mMem} {P : mPost} : mG (d) 218 45 [a0, a1, a2, a3, a4, a5, a6, a7] [.int s0, .int s1, .ref s2] lay M P = mG d 218 46 [a0, a1, a2, a3, a4, a5, a6, a7] [.int (s1 * s0), .ref s2] lay M P := e_imul rfl
set_option maxRecDepth 20000 in
theorem g218_46 {d : Nat} {a0 a1 a2 a4 a5 a6 a7 : Option Value} {s0 : Int32} {s1 : Nat} {x : Int32} {lay : List mShp} {M : mMem} {P : mPost} : mG (d) 218 46 [a0, a1, a2, some (.int x), a4, a5, a6, a7] [.int s0, .ref s1] lay M P = mG d 218 47 [a0, a1, a2, some (.int x), a4, a5, a6, a7] [.int x, .int s0, .ref s1] lay M P := e_iload_n (i := 3) rfl rfl rfl
set_option maxRecDepth 20000 in
theorem g218_47 {d : Nat} {a0 a1 a2 a3 a4 a5 a6 a7 : Option Value} {s0 : Int32} {s1 : Int32} {s2 : Nat} {lay : List mShp} {M : mMem} {P : mPost} : mG (d) 218 47 [a0, a1, a2, a3, a4, a5, a6, a7] [.int s0, .int s1, .ref s2] lay M P = mG d 218 48 [a0, a1, a2, a3, a4, a5, a6, a7] [.int (s1 + s0), .ref s2] lay M P := e_iadd rfl
set_option maxRecDepth 20000 in
theorem g218_48 {d : Nat} {a0 a1 a2 a3 a4 a5 a6 a7 : Option Value} {s0 : Int32} {s1 : Nat} {lay : List mShp} {M : mMem} {P : mPost} (hs : mSh lay s1 = some (0, 32)) : mG (d) 218 48 [a0, a1, a2, a3, a4, a5, a6, a7] [.int s0, .ref s1] lay M P = (mIdx s0 32 = true ∧ mG d 218 49 [a0, a1, a2, a3, a4, a5, a6, a7] [.int (M.1 s1 s0.toNatClampNeg)] lay M P) := e_iaload rfl hs
set_option maxRecDepth 20000 in
theorem g218_49 {d : Nat} {a0 a1 a2 a3 a4 a5 a6 a7 : Option Value} {s0 : Int32} {lay : List mShp} {M : mMem} {P : mPost} (h0 : mNoL a6 = true) : mG (d) 218 49 [a0, a1, a2, a3, a4, a5, a6, a7] [.int s0] lay M P = mG d 218 51 [a0, a1, a2, a3, a4, a5, a6, some (.int s0)] [] lay M P := e_istore (i := 7) rfl (by simp) (mS1_7 h0)
set_option maxRecDepth 20000 in
theorem g218_51 {d : Nat} {a1 a2 a3 a4 a5 a6 a7 : Option Value} {x : Nat} {lay : List mShp} {M : mMem} {P : mPost} (hx : ¬ x = 0) : mG (d) 218 51 [some (.ref x), a1, a2, a3, a4, a5, a6, a7] [] lay M P = mG d 218 52 [some (.ref x), a1, a2, a3, a4, a5, a6, a7] [.ref x] lay M P := e_aload_nP hx (i := 0) rfl rfl rfl
set_option maxRecDepth 20000 in
theorem g218_52 {d : Nat} {a0 a1 a2 a3 a4 a5 a6 a7 : Option Value} {s0 : Nat} {lay : List mShp} {M : mMem} {P : mPost} (hs : mSh lay s0 = some (13, 44)) : mG (d) 218 52 [a0, a1, a2, a3, a4, a5, a6, a7] [.ref s0] lay M P = mG d 218 55 [a0, a1, a2, a3, a4, a5, a6, a7] [.int (M.1 s0 43)] lay M P := mG_of_and (mIsO_of hs (by decide)) (e_getI (ci := 10) (j := 43) rfl rfl rfl)
set_option maxRecDepth 20000 in
theorem g218_55 {d : Nat} {a0 a1 a2 a3 a4 a5 a6 a7 : Option Value} {s0 : Int32} {lay : List mShp} {M : mMem} {P : mPost} : mG (d) 218 55 [a0, a1, a2, a3, a4, a5, a6, a7] [.int s0] lay M P = mG d 218 57 [a0, a1, a2, a3, a4, a5, a6, a7] [.int (Int32.ofInt 24), .int s0] lay M P := e_bipush rfl
set_option maxRecDepth 20000 in
theorem g218_57 {d : Nat} {a0 a1 a2 a3 a4 a5 a6 a7 : Option Value} {s0 : Int32} {s1 : Int32} {lay : List mShp} {M : mMem} {P : mPost} : mG (d) 218 57 [a0, a1, a2, a3, a4, a5, a6, a7] [.int s0, .int s1] lay M P = if s1 < s0 then mG d 218 60 [a0, a1, a2, a3, a4, a5, a6, a7] [] lay M P else mG d 218 71 [a0, a1, a2, a3, a4, a5, a6, a7] [] lay M P := e_icmp_ge rfl rfl
set_option maxRecDepth 20000 in
theorem g218_60 {d : Nat} {a1 a2 a3 a4 a5 a6 a7 : Option Value} {x : Nat} {lay : List mShp} {M : mMem} {P : mPost} (hx : ¬ x = 0) : mG (d) 218 60 [some (.ref x), a1, a2, a3, a4, a5, a6, a7] [] lay M P = mG d 218 61 [some (.ref x), a1, a2, a3, a4, a5, a6, a7] [.ref x] lay M P := e_aload_nP hx (i := 0) rfl rfl rfl
set_option maxRecDepth 20000 in
theorem g218_61 {d : Nat} {a0 a1 a2 a3 a4 a5 a6 a7 : Option Value} {s0 : Nat} {lay : List mShp} {M : mMem} {P : mPost} (hs : mSh lay s0 = some (13, 44)) : mG (d) 218 61 [a0, a1, a2, a3, a4, a5, a6, a7] [.ref s0] lay M P = mG d 218 64 [a0, a1, a2, a3, a4, a5, a6, a7] [.ref (M.2.2 s0 42)] lay M P := mG_of_and (mIsO_of hs (by decide)) (e_getA (ci := 10) (j := 42) rfl rfl rfl)
set_option maxRecDepth 20000 in
theorem g218_64 {d : Nat} {a1 a2 a3 a4 a5 a6 a7 : Option Value} {s0 : Nat} {x : Nat} {lay : List mShp} {M : mMem} {P : mPost} (hx : ¬ x = 0) : mG (d) 218 64 [some (.ref x), a1, a2, a3, a4, a5, a6, a7] [.ref s0] lay M P = mG d 218 65 [some (.ref x), a1, a2, a3, a4, a5, a6, a7] [.ref x, .ref s0] lay M P := e_aload_nP hx (i := 0) rfl rfl rfl
set_option maxRecDepth 20000 in
theorem g218_65 {d : Nat} {a0 a1 a2 a3 a4 a5 a6 a7 : Option Value} {s0 : Nat} {s1 : Nat} {lay : List mShp} {M : mMem} {P : mPost} (hs : mSh lay s0 = some (13, 44)) : mG (d) 218 65 [a0, a1, a2, a3, a4, a5, a6, a7] [.ref s0, .ref s1] lay M P = mG d 218 68 [a0, a1, a2, a3, a4, a5, a6, a7] [.int (M.1 s0 43), .ref s1] lay M P := mG_of_and (mIsO_of hs (by decide)) (e_getI (ci := 10) (j := 43) rfl rfl rfl)
set_option maxRecDepth 20000 in
theorem g218_68 {d : Nat} {a0 a1 a2 a3 a4 a5 a6 : Option Value} {s0 : Int32} {s1 : Nat} {x : Int32} {lay : List mShp} {M : mMem} {P : mPost} : mG (d) 218 68 [a0, a1, a2, a3, a4, a5, a6, some (.int x)] [.int s0, .ref s1] lay M P = mG d 218 70 [a0, a1, a2, a3, a4, a5, a6, some (.int x)] [.int x, .int s0, .ref s1] lay M P := e_iload (i := 7) rfl rfl
set_option maxRecDepth 20000 in
theorem g218_70 {d : Nat} {a0 a1 a2 a3 a4 a5 a6 a7 : Option Value} {s0 : Int32} {s1 : Int32} {s2 : Nat} {lay : List mShp} {M : mMem} {P : mPost} (hs : mSh lay s2 = some (0, 24)) : mG (d) 218 70 [a0, a1, a2, a3, a4, a5, a6, a7] [.int s0, .int s1, .ref s2] lay M P = (mIdx s1 24 = true ∧ mG d 218 71 [a0, a1, a2, a3, a4, a5, a6, a7] [] lay (mSetI M s2 s1.toNatClampNeg s0) P) := e_iastore rfl hs
set_option maxRecDepth 20000 in
theorem g218_71 {d : Nat} {a1 a2 a3 a4 a5 a6 a7 : Option Value} {x : Nat} {lay : List mShp} {M : mMem} {P : mPost} (hx : ¬ x = 0) : mG (d) 218 71 [some (.ref x), a1, a2, a3, a4, a5, a6, a7] [] lay M P = mG d 218 72 [some (.ref x), a1, a2, a3, a4, a5, a6, a7] [.ref x] lay M P := e_aload_nP hx (i := 0) rfl rfl rfl
set_option maxRecDepth 20000 in
theorem g218_72 {d : Nat} {a0 a1 a2 a3 a4 a5 a6 a7 : Option Value} {s0 : Nat} {lay : List mShp} {M : mMem} {P : mPost} : mG (d) 218 72 [a0, a1, a2, a3, a4, a5, a6, a7] [.ref s0] lay M P = mG d 218 73 [a0, a1, a2, a3, a4, a5, a6, a7] [.ref s0, .ref s0] lay M P := e_dupr rfl
set_option maxRecDepth 20000 in
theorem g218_73 {d : Nat} {a0 a1 a2 a3 a4 a5 a6 a7 : Option Value} {s0 : Nat} {s1 : Nat} {lay : List mShp} {M : mMem} {P : mPost} (hs : mSh lay s0 = some (13, 44)) : mG (d) 218 73 [a0, a1, a2, a3, a4, a5, a6, a7] [.ref s0, .ref s1] lay M P = mG d 218 76 [a0, a1, a2, a3, a4, a5, a6, a7] [.int (M.1 s0 43), .ref s1] lay M P := mG_of_and (mIsO_of hs (by decide)) (e_getI (ci := 10) (j := 43) rfl rfl rfl)
set_option maxRecDepth 20000 in
theorem g218_76 {d : Nat} {a0 a1 a2 a3 a4 a5 a6 a7 : Option Value} {s0 : Int32} {s1 : Nat} {lay : List mShp} {M : mMem} {P : mPost} : mG (d) 218 76 [a0, a1, a2, a3, a4, a5, a6, a7] [.int s0, .ref s1] lay M P = mG d 218 77 [a0, a1, a2, a3, a4, a5, a6, a7] [.int (Int32.ofInt 1), .int s0, .ref s1] lay M P := e_iconst rfl
set_option maxRecDepth 20000 in
theorem g218_77 {d : Nat} {a0 a1 a2 a3 a4 a5 a6 a7 : Option Value} {s0 : Int32} {s1 : Int32} {s2 : Nat} {lay : List mShp} {M : mMem} {P : mPost} : mG (d) 218 77 [a0, a1, a2, a3, a4, a5, a6, a7] [.int s0, .int s1, .ref s2] lay M P = mG d 218 78 [a0, a1, a2, a3, a4, a5, a6, a7] [.int (s1 + s0), .ref s2] lay M P := e_iadd rfl
set_option maxRecDepth 20000 in
theorem g218_78 {d : Nat} {a0 a1 a2 a3 a4 a5 a6 a7 : Option Value} {s0 : Int32} {s1 : Nat} {lay : List mShp} {M : mMem} {P : mPost} (hs : mSh lay s1 = some (13, 44)) : mG (d) 218 78 [a0, a1, a2, a3, a4, a5, a6, a7] [.int s0, .ref s1] lay M P = mG d 218 81 [a0, a1, a2, a3, a4, a5, a6, a7] [] lay (mSetI M s1 43 s0) P := mG_of_and (mIsO_of hs (by decide)) (e_putI (ci := 10) (j := 43) rfl rfl (Or.inl rfl) rfl)
set_option maxRecDepth 20000 in
theorem g218_81 {d : Nat} {a0 a1 a2 a3 a4 a5 a6 : Option Value} {x : Int32} {lay : List mShp} {M : mMem} {P : mPost} : mG (d) 218 81 [a0, a1, a2, a3, a4, a5, a6, some (.int x)] [] lay M P = mG d 218 83 [a0, a1, a2, a3, a4, a5, a6, some (.int x)] [.int x] lay M P := e_iload (i := 7) rfl rfl
set_option maxRecDepth 20000 in
theorem g218_83_v1 {d : Nat} {a0 a1 a2 a3 a4 a5 a6 a7 : Option Value} {lay : List mShp} {M : mMem} {P : mPost} : mG (d) 218 83 [a0, a1, a2, a3, a4, a5, a6, a7] [.int (Int32.ofInt 1)] lay M P = mG d 218 188 [a0, a1, a2, a3, a4, a5, a6, a7] [] lay M P := e_lswitch (pc := 83) rfl (by decide +kernel)
set_option maxRecDepth 20000 in
theorem g218_83_v2 {d : Nat} {a0 a1 a2 a3 a4 a5 a6 a7 : Option Value} {lay : List mShp} {M : mMem} {P : mPost} : mG (d) 218 83 [a0, a1, a2, a3, a4, a5, a6, a7] [.int (Int32.ofInt 2)] lay M P = mG d 218 193 [a0, a1, a2, a3, a4, a5, a6, a7] [] lay M P := e_lswitch (pc := 83) rfl (by decide +kernel)
set_option maxRecDepth 20000 in
theorem g218_83_v10 {d : Nat} {a0 a1 a2 a3 a4 a5 a6 a7 : Option Value} {lay : List mShp} {M : mMem} {P : mPost} : mG (d) 218 83 [a0, a1, a2, a3, a4, a5, a6, a7] [.int (Int32.ofInt 10)] lay M P = mG d 218 210 [a0, a1, a2, a3, a4, a5, a6, a7] [] lay M P := e_lswitch (pc := 83) rfl (by decide +kernel)
set_option maxRecDepth 20000 in
theorem g218_83_v11 {d : Nat} {a0 a1 a2 a3 a4 a5 a6 a7 : Option Value} {lay : List mShp} {M : mMem} {P : mPost} : mG (d) 218 83 [a0, a1, a2, a3, a4, a5, a6, a7] [.int (Int32.ofInt 11)] lay M P = mG d 218 221 [a0, a1, a2, a3, a4, a5, a6, a7] [] lay M P := e_lswitch (pc := 83) rfl (by decide +kernel)
set_option maxRecDepth 20000 in
theorem g218_83_v20 {d : Nat} {a0 a1 a2 a3 a4 a5 a6 a7 : Option Value} {lay : List mShp} {M : mMem} {P : mPost} : mG (d) 218 83 [a0, a1, a2, a3, a4, a5, a6, a7] [.int (Int32.ofInt 20)] lay M P = mG d 218 226 [a0, a1, a2, a3, a4, a5, a6, a7] [] lay M P := e_lswitch (pc := 83) rfl (by decide +kernel)
set_option maxRecDepth 20000 in
theorem g218_83_v30 {d : Nat} {a0 a1 a2 a3 a4 a5 a6 a7 : Option Value} {lay : List mShp} {M : mMem} {P : mPost} : mG (d) 218 83 [a0, a1, a2, a3, a4, a5, a6, a7] [.int (Int32.ofInt 30)] lay M P = mG d 218 239 [a0, a1, a2, a3, a4, a5, a6, a7] [] lay M P := e_lswitch (pc := 83) rfl (by decide +kernel)
set_option maxRecDepth 20000 in
theorem g218_83_v40 {d : Nat} {a0 a1 a2 a3 a4 a5 a6 a7 : Option Value} {lay : List mShp} {M : mMem} {P : mPost} : mG (d) 218 83 [a0, a1, a2, a3, a4, a5, a6, a7] [.int (Int32.ofInt 40)] lay M P = mG d 218 251 [a0, a1, a2, a3, a4, a5, a6, a7] [] lay M P := e_lswitch (pc := 83) rfl (by decide +kernel)
set_option maxRecDepth 20000 in
theorem g218_83_v41 {d : Nat} {a0 a1 a2 a3 a4 a5 a6 a7 : Option Value} {lay : List mShp} {M : mMem} {P : mPost} : mG (d) 218 83 [a0, a1, a2, a3, a4, a5, a6, a7] [.int (Int32.ofInt 41)] lay M P = mG d 218 264 [a0, a1, a2, a3, a4, a5, a6, a7] [] lay M P := e_lswitch (pc := 83) rfl (by decide +kernel)
set_option maxRecDepth 20000 in
theorem g218_83_v50 {d : Nat} {a0 a1 a2 a3 a4 a5 a6 a7 : Option Value} {lay : List mShp} {M : mMem} {P : mPost} : mG (d) 218 83 [a0, a1, a2, a3, a4, a5, a6, a7] [.int (Int32.ofInt 50)] lay M P = mG d 218 277 [a0, a1, a2, a3, a4, a5, a6, a7] [] lay M P := e_lswitch (pc := 83) rfl (by decide +kernel)
set_option maxRecDepth 20000 in
theorem g218_83_v60 {d : Nat} {a0 a1 a2 a3 a4 a5 a6 a7 : Option Value} {lay : List mShp} {M : mMem} {P : mPost} : mG (d) 218 83 [a0, a1, a2, a3, a4, a5, a6, a7] [.int (Int32.ofInt 60)] lay M P = mG d 218 296 [a0, a1, a2, a3, a4, a5, a6, a7] [] lay M P := e_lswitch (pc := 83) rfl (by decide +kernel)
set_option maxRecDepth 20000 in
theorem g218_83_v70 {d : Nat} {a0 a1 a2 a3 a4 a5 a6 a7 : Option Value} {lay : List mShp} {M : mMem} {P : mPost} : mG (d) 218 83 [a0, a1, a2, a3, a4, a5, a6, a7] [.int (Int32.ofInt 70)] lay M P = mG d 218 309 [a0, a1, a2, a3, a4, a5, a6, a7] [] lay M P := e_lswitch (pc := 83) rfl (by decide +kernel)
set_option maxRecDepth 20000 in
theorem g218_83_v80 {d : Nat} {a0 a1 a2 a3 a4 a5 a6 a7 : Option Value} {lay : List mShp} {M : mMem} {P : mPost} : mG (d) 218 83 [a0, a1, a2, a3, a4, a5, a6, a7] [.int (Int32.ofInt 80)] lay M P = mG d 218 322 [a0, a1, a2, a3, a4, a5, a6, a7] [] lay M P := e_lswitch (pc := 83) rfl (by decide +kernel)
set_option maxRecDepth 20000 in
theorem g218_83_d {d : Nat} {a0 a1 a2 a3 a4 a5 a6 a7 : Option Value} {s0 : Int32} {lay : List mShp} {M : mMem} {P : mPost} (hd : mNotIn s0 [1, 2, 10, 11, 20, 30, 40, 41, 50, 60, 70, 80] = true) : mG (d) 218 83 [a0, a1, a2, a3, a4, a5, a6, a7] [.int s0] lay M P = mG d 218 341 [a0, a1, a2, a3, a4, a5, a6, a7] [] lay M P := by
  have hn := mNotIn_of hd
  refine e_lswitch (pc := 83) rfl ?_
  rw [mLsw_out (fun v hv => hn v (by revert v; decide))]
  rfl
set_option maxRecDepth 20000 in
theorem g218_188 {d : Nat} {a0 a1 a2 a3 a5 a6 a7 : Option Value} {x : Int32} {lay : List mShp} {M : mMem} {P : mPost} : mG (d) 218 188 [a0, a1, a2, a3, some (.int x), a5, a6, a7] [] lay M P = mG d 218 190 [a0, a1, a2, a3, some (.int x), a5, a6, a7] [.int x] lay M P := e_iload (i := 4) rfl rfl
set_option maxRecDepth 20000 in
theorem g218_190 {d : Nat} {a0 a1 a3 a4 a5 a6 a7 : Option Value} {s0 : Int32} {x : Int32} {lay : List mShp} {M : mMem} {P : mPost} : mG (d) 218 190 [a0, a1, some (.int x), a3, a4, a5, a6, a7] [.int s0] lay M P = mG d 218 191 [a0, a1, some (.int x), a3, a4, a5, a6, a7] [.int x, .int s0] lay M P := e_iload_n (i := 2) rfl rfl rfl
set_option maxRecDepth 20000 in
theorem g218_191 {d : Nat} {a0 a1 a2 a3 a4 a5 a6 a7 : Option Value} {s0 : Int32} {s1 : Int32} {lay : List mShp} {M : mMem} {P : mPost} : mG (d) 218 191 [a0, a1, a2, a3, a4, a5, a6, a7] [.int s0, .int s1] lay M P = mG d 218 192 [a0, a1, a2, a3, a4, a5, a6, a7] [.int (s1 + s0)] lay M P := e_iadd rfl
set_option maxRecDepth 20000 in
theorem g218_192 {d : Nat} {a0 a1 a2 a3 a4 a5 a6 a7 : Option Value} {s0 : Int32} {lay : List mShp} {M : mMem} {P : mPost} : mG (d) 218 192 [a0, a1, a2, a3, a4, a5, a6, a7] [.int s0] lay M P = P (some (.int s0)) lay M := e_ireturnI rfl rfl
set_option maxRecDepth 20000 in
theorem g218_193 {d : Nat} {a1 a2 a3 a4 a5 a6 a7 : Option Value} {x : Nat} {lay : List mShp} {M : mMem} {P : mPost} (hx : ¬ x = 0) : mG (d) 218 193 [some (.ref x), a1, a2, a3, a4, a5, a6, a7] [] lay M P = mG d 218 194 [some (.ref x), a1, a2, a3, a4, a5, a6, a7] [.ref x] lay M P := e_aload_nP hx (i := 0) rfl rfl rfl
set_option maxRecDepth 20000 in
theorem g218_194 {d : Nat} {a0 a1 a3 a4 a5 a6 a7 : Option Value} {s0 : Nat} {x : Int32} {lay : List mShp} {M : mMem} {P : mPost} : mG (d) 218 194 [a0, a1, some (.int x), a3, a4, a5, a6, a7] [.ref s0] lay M P = mG d 218 195 [a0, a1, some (.int x), a3, a4, a5, a6, a7] [.int x, .ref s0] lay M P := e_iload_n (i := 2) rfl rfl rfl
set_option maxRecDepth 20000 in
theorem g218_195 {d : Nat} {a0 a1 a2 a3 a4 a5 a6 a7 : Option Value} {s0 : Int32} {s1 : Nat} {lay : List mShp} {M : mMem} {P : mPost} : mG (d) 218 195 [a0, a1, a2, a3, a4, a5, a6, a7] [.int s0, .ref s1] lay M P = mG d 218 196 [a0, a1, a2, a3, a4, a5, a6, a7] [.int (Int32.ofInt 1), .int s0, .ref s1] lay M P := e_iconst rfl
set_option maxRecDepth 20000 in
theorem g218_196 {d : Nat} {a0 a1 a2 a3 a5 a6 a7 : Option Value} {s0 : Int32} {s1 : Int32} {s2 : Nat} {x : Int32} {lay : List mShp} {M : mMem} {P : mPost} : mG (d) 218 196 [a0, a1, a2, a3, some (.int x), a5, a6, a7] [.int s0, .int s1, .ref s2] lay M P = mG d 218 198 [a0, a1, a2, a3, some (.int x), a5, a6, a7] [.int x, .int s0, .int s1, .ref s2] lay M P := e_iload (i := 4) rfl rfl
set_option maxRecDepth 20000 in
theorem g218_198 {d : Nat} {a0 a1 a2 a3 a4 a5 a6 a7 : Option Value} {s0 : Int32} {s1 : Int32} {s2 : Int32} {s3 : Nat} {lay : List mShp} {M : mMem} {P : mPost} (hs : mSh lay s3 = some (13, 44)) : mG (d + 1) 218 198 [a0, a1, a2, a3, a4, a5, a6, a7] [.int s0, .int s1, .int s2, .ref s3] lay M P = mF d 217 [.ref s3, .int s2, .int s1, .int s0] lay M (fun v lay1 M1 => mG (d + 1) 218 201 [a0, a1, a2, a3, a4, a5, a6, a7] (v.toList ++ []) lay1 M1 P) := e_virtP3 (j := 217) (c := 10) rfl rfl rfl rfl rfl rfl hs (Nat.le_of_ble_eq_true rfl)
set_option maxRecDepth 20000 in
theorem g218_201 {d : Nat} {a1 a2 a3 a4 a5 a6 a7 : Option Value} {s0 : Int32} {x : Nat} {lay : List mShp} {M : mMem} {P : mPost} (hx : ¬ x = 0) : mG (d) 218 201 [some (.ref x), a1, a2, a3, a4, a5, a6, a7] [.int s0] lay M P = mG d 218 202 [some (.ref x), a1, a2, a3, a4, a5, a6, a7] [.ref x, .int s0] lay M P := e_aload_nP hx (i := 0) rfl rfl rfl
set_option maxRecDepth 20000 in
theorem g218_202 {d : Nat} {a0 a1 a3 a4 a5 a6 a7 : Option Value} {s0 : Nat} {s1 : Int32} {x : Int32} {lay : List mShp} {M : mMem} {P : mPost} : mG (d) 218 202 [a0, a1, some (.int x), a3, a4, a5, a6, a7] [.ref s0, .int s1] lay M P = mG d 218 203 [a0, a1, some (.int x), a3, a4, a5, a6, a7] [.int x, .ref s0, .int s1] lay M P := e_iload_n (i := 2) rfl rfl rfl
set_option maxRecDepth 20000 in
theorem g218_203 {d : Nat} {a0 a1 a2 a3 a4 a5 a6 a7 : Option Value} {s0 : Int32} {s1 : Nat} {s2 : Int32} {lay : List mShp} {M : mMem} {P : mPost} : mG (d) 218 203 [a0, a1, a2, a3, a4, a5, a6, a7] [.int s0, .ref s1, .int s2] lay M P = mG d 218 204 [a0, a1, a2, a3, a4, a5, a6, a7] [.int (Int32.ofInt 2), .int s0, .ref s1, .int s2] lay M P := e_iconst rfl
set_option maxRecDepth 20000 in
theorem g218_204 {d : Nat} {a0 a1 a2 a3 a4 a5 a6 a7 : Option Value} {s0 : Int32} {s1 : Int32} {s2 : Nat} {s3 : Int32} {lay : List mShp} {M : mMem} {P : mPost} : mG (d) 218 204 [a0, a1, a2, a3, a4, a5, a6, a7] [.int s0, .int s1, .ref s2, .int s3] lay M P = mG d 218 205 [a0, a1, a2, a3, a4, a5, a6, a7] [.int (Int32.ofInt 1), .int s0, .int s1, .ref s2, .int s3] lay M P := e_iconst rfl
set_option maxRecDepth 20000 in
theorem g218_205 {d : Nat} {a0 a1 a2 a3 a4 a5 a6 a7 : Option Value} {s0 : Int32} {s1 : Int32} {s2 : Int32} {s3 : Nat} {s4 : Int32} {lay : List mShp} {M : mMem} {P : mPost} (hs : mSh lay s3 = some (13, 44)) : mG (d + 1) 218 205 [a0, a1, a2, a3, a4, a5, a6, a7] [.int s0, .int s1, .int s2, .ref s3, .int s4] lay M P = mF d 217 [.ref s3, .int s2, .int s1, .int s0] lay M (fun v lay1 M1 => mG (d + 1) 218 208 [a0, a1, a2, a3, a4, a5, a6, a7] (v.toList ++ [.int s4]) lay1 M1 P) := e_virtP3 (j := 217) (c := 10) rfl rfl rfl rfl rfl rfl hs (Nat.le_of_ble_eq_true rfl)
set_option maxRecDepth 20000 in
theorem g218_208 {d : Nat} {a0 a1 a2 a3 a4 a5 a6 a7 : Option Value} {s0 : Int32} {s1 : Int32} {lay : List mShp} {M : mMem} {P : mPost} : mG (d) 218 208 [a0, a1, a2, a3, a4, a5, a6, a7] [.int s0, .int s1] lay M P = mG d 218 209 [a0, a1, a2, a3, a4, a5, a6, a7] [.int (s1 - s0)] lay M P := e_isub rfl
set_option maxRecDepth 20000 in
theorem g218_209 {d : Nat} {a0 a1 a2 a3 a4 a5 a6 a7 : Option Value} {s0 : Int32} {lay : List mShp} {M : mMem} {P : mPost} : mG (d) 218 209 [a0, a1, a2, a3, a4, a5, a6, a7] [.int s0] lay M P = P (some (.int s0)) lay M := e_ireturnI rfl rfl
set_option maxRecDepth 20000 in
theorem g218_210 {d : Nat} {a1 a2 a3 a4 a5 a6 a7 : Option Value} {x : Nat} {lay : List mShp} {M : mMem} {P : mPost} (hx : ¬ x = 0) : mG (d) 218 210 [some (.ref x), a1, a2, a3, a4, a5, a6, a7] [] lay M P = mG d 218 211 [some (.ref x), a1, a2, a3, a4, a5, a6, a7] [.ref x] lay M P := e_aload_nP hx (i := 0) rfl rfl rfl
set_option maxRecDepth 20000 in
theorem g218_211 {d : Nat} {a0 a1 a3 a4 a5 a6 a7 : Option Value} {s0 : Nat} {x : Int32} {lay : List mShp} {M : mMem} {P : mPost} : mG (d) 218 211 [a0, a1, some (.int x), a3, a4, a5, a6, a7] [.ref s0] lay M P = mG d 218 212 [a0, a1, some (.int x), a3, a4, a5, a6, a7] [.int x, .ref s0] lay M P := e_iload_n (i := 2) rfl rfl rfl
set_option maxRecDepth 20000 in
theorem g218_212 {d : Nat} {a0 a1 a2 a3 a4 a5 a6 a7 : Option Value} {s0 : Int32} {s1 : Nat} {lay : List mShp} {M : mMem} {P : mPost} : mG (d) 218 212 [a0, a1, a2, a3, a4, a5, a6, a7] [.int s0, .ref s1] lay M P = mG d 218 213 [a0, a1, a2, a3, a4, a5, a6, a7] [.int (Int32.ofInt 0), .int s0, .ref s1] lay M P := e_iconst rfl
set_option maxRecDepth 20000 in
theorem g218_213 {d : Nat} {a0 a1 a2 a3 a5 a6 a7 : Option Value} {s0 : Int32} {s1 : Int32} {s2 : Nat} {x : Int32} {lay : List mShp} {M : mMem} {P : mPost} : mG (d) 218 213 [a0, a1, a2, a3, some (.int x), a5, a6, a7] [.int s0, .int s1, .ref s2] lay M P = mG d 218 215 [a0, a1, a2, a3, some (.int x), a5, a6, a7] [.int x, .int s0, .int s1, .ref s2] lay M P := e_iload (i := 4) rfl rfl
set_option maxRecDepth 20000 in
theorem g218_215 {d : Nat} {a0 a1 a2 a3 a4 a5 a6 a7 : Option Value} {s0 : Int32} {s1 : Int32} {s2 : Int32} {s3 : Nat} {lay : List mShp} {M : mMem} {P : mPost} (hs : mSh lay s3 = some (13, 44)) : mG (d + 1) 218 215 [a0, a1, a2, a3, a4, a5, a6, a7] [.int s0, .int s1, .int s2, .ref s3] lay M P = mF d 217 [.ref s3, .int s2, .int s1, .int s0] lay M (fun v lay1 M1 => mG (d + 1) 218 218 [a0, a1, a2, a3, a4, a5, a6, a7] (v.toList ++ []) lay1 M1 P) := e_virtP3 (j := 217) (c := 10) rfl rfl rfl rfl rfl rfl hs (Nat.le_of_ble_eq_true rfl)
set_option maxRecDepth 20000 in
theorem g218_218 {d : Nat} {a0 a1 a2 a3 a4 a5 a6 a7 : Option Value} {s0 : Int32} {lay : List mShp} {M : mMem} {P : mPost} : mG (d) 218 218 [a0, a1, a2, a3, a4, a5, a6, a7] [.int s0] lay M P = mG d 218 219 [a0, a1, a2, a3, a4, a5, a6, a7] [.int (Int32.ofInt 2), .int s0] lay M P := e_iconst rfl
set_option maxRecDepth 20000 in
theorem g218_219 {d : Nat} {a0 a1 a2 a3 a4 a5 a6 a7 : Option Value} {s0 : Int32} {s1 : Int32} {lay : List mShp} {M : mMem} {P : mPost} : mG (d) 218 219 [a0, a1, a2, a3, a4, a5, a6, a7] [.int s0, .int s1] lay M P = mG d 218 220 [a0, a1, a2, a3, a4, a5, a6, a7] [.int (s1 * s0)] lay M P := e_imul rfl
set_option maxRecDepth 20000 in
theorem g218_220 {d : Nat} {a0 a1 a2 a3 a4 a5 a6 a7 : Option Value} {s0 : Int32} {lay : List mShp} {M : mMem} {P : mPost} : mG (d) 218 220 [a0, a1, a2, a3, a4, a5, a6, a7] [.int s0] lay M P = P (some (.int s0)) lay M := e_ireturnI rfl rfl
set_option maxRecDepth 20000 in
theorem g218_221 {d : Nat} {a0 a1 a2 a3 a5 a6 a7 : Option Value} {x : Int32} {lay : List mShp} {M : mMem} {P : mPost} : mG (d) 218 221 [a0, a1, a2, a3, some (.int x), a5, a6, a7] [] lay M P = mG d 218 223 [a0, a1, a2, a3, some (.int x), a5, a6, a7] [.int x] lay M P := e_iload (i := 4) rfl rfl
set_option maxRecDepth 20000 in
theorem g218_223 {d : Nat} {a0 a1 a3 a4 a5 a6 a7 : Option Value} {s0 : Int32} {x : Int32} {lay : List mShp} {M : mMem} {P : mPost} : mG (d) 218 223 [a0, a1, some (.int x), a3, a4, a5, a6, a7] [.int s0] lay M P = mG d 218 224 [a0, a1, some (.int x), a3, a4, a5, a6, a7] [.int x, .int s0] lay M P := e_iload_n (i := 2) rfl rfl rfl
set_option maxRecDepth 20000 in
theorem g218_224 {d : Nat} {a0 a1 a2 a3 a4 a5 a6 a7 : Option Value} {s0 : Int32} {s1 : Int32} {lay : List mShp} {M : mMem} {P : mPost} : mG (d) 218 224 [a0, a1, a2, a3, a4, a5, a6, a7] [.int s0, .int s1] lay M P = mG d 218 225 [a0, a1, a2, a3, a4, a5, a6, a7] [.int (s1 ^^^ s0)] lay M P := e_ixor rfl
set_option maxRecDepth 20000 in
theorem g218_225 {d : Nat} {a0 a1 a2 a3 a4 a5 a6 a7 : Option Value} {s0 : Int32} {lay : List mShp} {M : mMem} {P : mPost} : mG (d) 218 225 [a0, a1, a2, a3, a4, a5, a6, a7] [.int s0] lay M P = P (some (.int s0)) lay M := e_ireturnI rfl rfl
set_option maxRecDepth 20000 in
theorem g218_226 {d : Nat} {a1 a2 a3 a4 a5 a6 a7 : Option Value} {x : Nat} {lay : List mShp} {M : mMem} {P : mPost} (hx : ¬ x = 0) : mG (d) 218 226 [some (.ref x), a1, a2, a3, a4, a5, a6, a7] [] lay M P = mG d 218 227 [some (.ref x), a1, a2, a3, a4, a5, a6, a7] [.ref x] lay M P := e_aload_nP hx (i := 0) rfl rfl rfl
set_option maxRecDepth 20000 in
theorem g218_227 {d : Nat} {a0 a1 a2 a3 a4 a5 a7 : Option Value} {s0 : Nat} {x : Int32} {lay : List mShp} {M : mMem} {P : mPost} : mG (d) 218 227 [a0, a1, a2, a3, a4, a5, some (.int x), a7] [.ref s0] lay M P = mG d 218 229 [a0, a1, a2, a3, a4, a5, some (.int x), a7] [.int x, .ref s0] lay M P := e_iload (i := 6) rfl rfl
set_option maxRecDepth 20000 in
theorem g218_229 {d : Nat} {a0 a1 a3 a4 a5 a6 a7 : Option Value} {s0 : Int32} {s1 : Nat} {x : Int32} {lay : List mShp} {M : mMem} {P : mPost} : mG (d) 218 229 [a0, a1, some (.int x), a3, a4, a5, a6, a7] [.int s0, .ref s1] lay M P = mG d 218 230 [a0, a1, some (.int x), a3, a4, a5, a6, a7] [.int x, .int s0, .ref s1] lay M P := e_iload_n (i := 2) rfl rfl rfl
set_option maxRecDepth 20000 in
theorem g218_230 {d : Nat} {a0 a1 a2 a3 a4 a5 a6 a7 : Option Value} {s0 : Int32} {s1 : Int32} {s2 : Nat} {lay : List mShp} {M : mMem} {P : mPost} : mG (d) 218 230 [a0, a1, a2, a3, a4, a5, a6, a7] [.int s0, .int s1, .ref s2] lay M P = mG d 218 231 [a0, a1, a2, a3, a4, a5, a6, a7] [.int (Int32.ofInt 0), .int s0, .int s1, .ref s2] lay M P := e_iconst rfl
set_option maxRecDepth 20000 in
theorem g218_231 {d : Nat} {a0 a1 a2 a3 a5 a6 a7 : Option Value} {s0 : Int32} {s1 : Int32} {s2 : Int32} {s3 : Nat} {x : Int32} {lay : List mShp} {M : mMem} {P : mPost} : mG (d) 218 231 [a0, a1, a2, a3, some (.int x), a5, a6, a7] [.int s0, .int s1, .int s2, .ref s3] lay M P = mG d 218 233 [a0, a1, a2, a3, some (.int x), a5, a6, a7] [.int x, .int s0, .int s1, .int s2, .ref s3] lay M P := e_iload (i := 4) rfl rfl
set_option maxRecDepth 20000 in
theorem g218_233 {d : Nat} {a0 a1 a2 a3 a4 a5 a6 a7 : Option Value} {s0 : Int32} {s1 : Int32} {s2 : Int32} {s3 : Int32} {s4 : Nat} {lay : List mShp} {M : mMem} {P : mPost} (hs : mSh lay s4 = some (13, 44)) : mG (d + 1) 218 233 [a0, a1, a2, a3, a4, a5, a6, a7] [.int s0, .int s1, .int s2, .int s3, .ref s4] lay M P = mF d 218 [.ref s4, .int s3, .int s2, .int s1, .int s0] lay M (fun v lay1 M1 => mG (d + 1) 218 236 [a0, a1, a2, a3, a4, a5, a6, a7] (v.toList ++ []) lay1 M1 P) := e_virtP4 (j := 218) (c := 10) rfl rfl rfl rfl rfl rfl hs (Nat.le_of_ble_eq_true rfl)
set_option maxRecDepth 20000 in
theorem g218_236 {d : Nat} {a0 a1 a2 a3 a4 a5 a6 a7 : Option Value} {s0 : Int32} {lay : List mShp} {M : mMem} {P : mPost} : mG (d) 218 236 [a0, a1, a2, a3, a4, a5, a6, a7] [.int s0] lay M P = mG d 218 237 [a0, a1, a2, a3, a4, a5, a6, a7] [.int (Int32.ofInt 3), .int s0] lay M P := e_iconst rfl
set_option maxRecDepth 20000 in
theorem g218_237 {d : Nat} {a0 a1 a2 a3 a4 a5 a6 a7 : Option Value} {s0 : Int32} {s1 : Int32} {lay : List mShp} {M : mMem} {P : mPost} : mG (d) 218 237 [a0, a1, a2, a3, a4, a5, a6, a7] [.int s0, .int s1] lay M P = mG d 218 238 [a0, a1, a2, a3, a4, a5, a6, a7] [.int (s1 + s0)] lay M P := e_iadd rfl
set_option maxRecDepth 20000 in
theorem g218_238 {d : Nat} {a0 a1 a2 a3 a4 a5 a6 a7 : Option Value} {s0 : Int32} {lay : List mShp} {M : mMem} {P : mPost} : mG (d) 218 238 [a0, a1, a2, a3, a4, a5, a6, a7] [.int s0] lay M P = P (some (.int s0)) lay M := e_ireturnI rfl rfl
set_option maxRecDepth 20000 in
theorem g218_239 {d : Nat} {a1 a2 a3 a4 a5 a6 a7 : Option Value} {x : Nat} {lay : List mShp} {M : mMem} {P : mPost} (hx : ¬ x = 0) : mG (d) 218 239 [some (.ref x), a1, a2, a3, a4, a5, a6, a7] [] lay M P = mG d 218 240 [some (.ref x), a1, a2, a3, a4, a5, a6, a7] [.ref x] lay M P := e_aload_nP hx (i := 0) rfl rfl rfl
set_option maxRecDepth 20000 in
theorem g218_240 {d : Nat} {a0 a1 a2 a3 a4 a5 a7 : Option Value} {s0 : Nat} {x : Int32} {lay : List mShp} {M : mMem} {P : mPost} : mG (d) 218 240 [a0, a1, a2, a3, a4, a5, some (.int x), a7] [.ref s0] lay M P = mG d 218 242 [a0, a1, a2, a3, a4, a5, some (.int x), a7] [.int x, .ref s0] lay M P := e_iload (i := 6) rfl rfl
set_option maxRecDepth 20000 in
theorem g218_242 {d : Nat} {a0 a1 a3 a4 a5 a6 a7 : Option Value} {s0 : Int32} {s1 : Nat} {x : Int32} {lay : List mShp} {M : mMem} {P : mPost} : mG (d) 218 242 [a0, a1, some (.int x), a3, a4, a5, a6, a7] [.int s0, .ref s1] lay M P = mG d 218 243 [a0, a1, some (.int x), a3, a4, a5, a6, a7] [.int x, .int s0, .ref s1] lay M P := e_iload_n (i := 2) rfl rfl rfl
set_option maxRecDepth 20000 in
theorem g218_243 {d : Nat} {a0 a1 a2 a3 a4 a5 a6 a7 : Option Value} {s0 : Int32} {s1 : Int32} {s2 : Nat} {lay : List mShp} {M : mMem} {P : mPost} : mG (d) 218 243 [a0, a1, a2, a3, a4, a5, a6, a7] [.int s0, .int s1, .ref s2] lay M P = mG d 218 244 [a0, a1, a2, a3, a4, a5, a6, a7] [.int (Int32.ofInt 1), .int s0, .int s1, .ref s2] lay M P := e_iconst rfl
set_option maxRecDepth 20000 in
theorem g218_244 {d : Nat} {a0 a1 a2 a3 a5 a6 a7 : Option Value} {s0 : Int32} {s1 : Int32} {s2 : Int32} {s3 : Nat} {x : Int32} {lay : List mShp} {M : mMem} {P : mPost} : mG (d) 218 244 [a0, a1, a2, a3, some (.int x), a5, a6, a7] [.int s0, .int s1, .int s2, .ref s3] lay M P = mG d 218 246 [a0, a1, a2, a3, some (.int x), a5, a6, a7] [.int x, .int s0, .int s1, .int s2, .ref s3] lay M P := e_iload (i := 4) rfl rfl
set_option maxRecDepth 20000 in
theorem g218_246 {d : Nat} {a0 a1 a2 a3 a4 a5 a6 a7 : Option Value} {s0 : Int32} {s1 : Int32} {s2 : Int32} {s3 : Int32} {s4 : Nat} {lay : List mShp} {M : mMem} {P : mPost} (hs : mSh lay s4 = some (13, 44)) : mG (d + 1) 218 246 [a0, a1, a2, a3, a4, a5, a6, a7] [.int s0, .int s1, .int s2, .int s3, .ref s4] lay M P = mF d 218 [.ref s4, .int s3, .int s2, .int s1, .int s0] lay M (fun v lay1 M1 => mG (d + 1) 218 249 [a0, a1, a2, a3, a4, a5, a6, a7] (v.toList ++ []) lay1 M1 P) := e_virtP4 (j := 218) (c := 10) rfl rfl rfl rfl rfl rfl hs (Nat.le_of_ble_eq_true rfl)
set_option maxRecDepth 20000 in
theorem g218_249 {d : Nat} {a0 a1 a2 a3 a4 a5 a6 a7 : Option Value} {s0 : Int32} {lay : List mShp} {M : mMem} {P : mPost} : mG (d) 218 249 [a0, a1, a2, a3, a4, a5, a6, a7] [.int s0] lay M P = mG d 218 250 [a0, a1, a2, a3, a4, a5, a6, a7] [.int (-s0)] lay M P := e_ineg rfl
set_option maxRecDepth 20000 in
theorem g218_250 {d : Nat} {a0 a1 a2 a3 a4 a5 a6 a7 : Option Value} {s0 : Int32} {lay : List mShp} {M : mMem} {P : mPost} : mG (d) 218 250 [a0, a1, a2, a3, a4, a5, a6, a7] [.int s0] lay M P = P (some (.int s0)) lay M := e_ireturnI rfl rfl
set_option maxRecDepth 20000 in
theorem g218_251 {d : Nat} {a1 a2 a3 a4 a5 a6 a7 : Option Value} {x : Nat} {lay : List mShp} {M : mMem} {P : mPost} (hx : ¬ x = 0) : mG (d) 218 251 [some (.ref x), a1, a2, a3, a4, a5, a6, a7] [] lay M P = mG d 218 252 [some (.ref x), a1, a2, a3, a4, a5, a6, a7] [.ref x] lay M P := e_aload_nP hx (i := 0) rfl rfl rfl
set_option maxRecDepth 20000 in
theorem g218_252 {d : Nat} {a0 a1 a2 a3 a4 a5 a7 : Option Value} {s0 : Nat} {x : Int32} {lay : List mShp} {M : mMem} {P : mPost} : mG (d) 218 252 [a0, a1, a2, a3, a4, a5, some (.int x), a7] [.ref s0] lay M P = mG d 218 254 [a0, a1, a2, a3, a4, a5, some (.int x), a7] [.int x, .ref s0] lay M P := e_iload (i := 6) rfl rfl
set_option maxRecDepth 20000 in
theorem g218_254 {d : Nat} {a0 a1 a3 a4 a5 a6 a7 : Option Value} {s0 : Int32} {s1 : Nat} {x : Int32} {lay : List mShp} {M : mMem} {P : mPost} : mG (d) 218 254 [a0, a1, some (.int x), a3, a4, a5, a6, a7] [.int s0, .ref s1] lay M P = mG d 218 255 [a0, a1, some (.int x), a3, a4, a5, a6, a7] [.int x, .int s0, .ref s1] lay M P := e_iload_n (i := 2) rfl rfl rfl
set_option maxRecDepth 20000 in
theorem g218_255 {d : Nat} {a0 a1 a2 a3 a4 a5 a6 a7 : Option Value} {s0 : Int32} {s1 : Int32} {s2 : Nat} {lay : List mShp} {M : mMem} {P : mPost} : mG (d) 218 255 [a0, a1, a2, a3, a4, a5, a6, a7] [.int s0, .int s1, .ref s2] lay M P = mG d 218 256 [a0, a1, a2, a3, a4, a5, a6, a7] [.int (Int32.ofInt 2), .int s0, .int s1, .ref s2] lay M P := e_iconst rfl
set_option maxRecDepth 20000 in
theorem g218_256 {d : Nat} {a0 a1 a2 a3 a5 a6 a7 : Option Value} {s0 : Int32} {s1 : Int32} {s2 : Int32} {s3 : Nat} {x : Int32} {lay : List mShp} {M : mMem} {P : mPost} : mG (d) 218 256 [a0, a1, a2, a3, some (.int x), a5, a6, a7] [.int s0, .int s1, .int s2, .ref s3] lay M P = mG d 218 258 [a0, a1, a2, a3, some (.int x), a5, a6, a7] [.int x, .int s0, .int s1, .int s2, .ref s3] lay M P := e_iload (i := 4) rfl rfl
set_option maxRecDepth 20000 in
theorem g218_258 {d : Nat} {a0 a1 a2 a3 a4 a5 a6 a7 : Option Value} {s0 : Int32} {s1 : Int32} {s2 : Int32} {s3 : Int32} {s4 : Nat} {lay : List mShp} {M : mMem} {P : mPost} (hs : mSh lay s4 = some (13, 44)) : mG (d + 1) 218 258 [a0, a1, a2, a3, a4, a5, a6, a7] [.int s0, .int s1, .int s2, .int s3, .ref s4] lay M P = mF d 218 [.ref s4, .int s3, .int s2, .int s1, .int s0] lay M (fun v lay1 M1 => mG (d + 1) 218 261 [a0, a1, a2, a3, a4, a5, a6, a7] (v.toList ++ []) lay1 M1 P) := e_virtP4 (j := 218) (c := 10) rfl rfl rfl rfl rfl rfl hs (Nat.le_of_ble_eq_true rfl)
set_option maxRecDepth 20000 in
theorem g218_261 {d : Nat} {a0 a1 a2 a3 a4 a5 a6 a7 : Option Value} {s0 : Int32} {lay : List mShp} {M : mMem} {P : mPost} : mG (d) 218 261 [a0, a1, a2, a3, a4, a5, a6, a7] [.int s0] lay M P = mG d 218 262 [a0, a1, a2, a3, a4, a5, a6, a7] [.int (Int32.ofInt 3), .int s0] lay M P := e_iconst rfl
set_option maxRecDepth 20000 in
theorem g218_262 {d : Nat} {a0 a1 a2 a3 a4 a5 a6 a7 : Option Value} {s0 : Int32} {s1 : Int32} {lay : List mShp} {M : mMem} {P : mPost} : mG (d) 218 262 [a0, a1, a2, a3, a4, a5, a6, a7] [.int s0, .int s1] lay M P = mG d 218 263 [a0, a1, a2, a3, a4, a5, a6, a7] [.int (s1 * s0)] lay M P := e_imul rfl
set_option maxRecDepth 20000 in
theorem g218_263 {d : Nat} {a0 a1 a2 a3 a4 a5 a6 a7 : Option Value} {s0 : Int32} {lay : List mShp} {M : mMem} {P : mPost} : mG (d) 218 263 [a0, a1, a2, a3, a4, a5, a6, a7] [.int s0] lay M P = P (some (.int s0)) lay M := e_ireturnI rfl rfl
set_option maxRecDepth 20000 in
theorem g218_264 {d : Nat} {a1 a2 a3 a4 a5 a6 a7 : Option Value} {x : Nat} {lay : List mShp} {M : mMem} {P : mPost} (hx : ¬ x = 0) : mG (d) 218 264 [some (.ref x), a1, a2, a3, a4, a5, a6, a7] [] lay M P = mG d 218 265 [some (.ref x), a1, a2, a3, a4, a5, a6, a7] [.ref x] lay M P := e_aload_nP hx (i := 0) rfl rfl rfl
set_option maxRecDepth 20000 in
theorem g218_265 {d : Nat} {a0 a1 a2 a3 a4 a5 a7 : Option Value} {s0 : Nat} {x : Int32} {lay : List mShp} {M : mMem} {P : mPost} : mG (d) 218 265 [a0, a1, a2, a3, a4, a5, some (.int x), a7] [.ref s0] lay M P = mG d 218 267 [a0, a1, a2, a3, a4, a5, some (.int x), a7] [.int x, .ref s0] lay M P := e_iload (i := 6) rfl rfl
set_option maxRecDepth 20000 in
theorem g218_267 {d : Nat} {a0 a1 a3 a4 a5 a6 a7 : Option Value} {s0 : Int32} {s1 : Nat} {x : Int32} {lay : List mShp} {M : mMem} {P : mPost} : mG (d) 218 267 [a0, a1, some (.int x), a3, a4, a5, a6, a7] [.int s0, .ref s1] lay M P = mG d 218 268 [a0, a1, some (.int x), a3, a4, a5, a6, a7] [.int x, .int s0, .ref s1] lay M P := e_iload_n (i := 2) rfl rfl rfl
set_option maxRecDepth 20000 in
theorem g218_268 {d : Nat} {a0 a1 a2 a3 a4 a5 a6 a7 : Option Value} {s0 : Int32} {s1 : Int32} {s2 : Nat} {lay : List mShp} {M : mMem} {P : mPost} : mG (d) 218 268 [a0, a1, a2, a3, a4, a5, a6, a7] [.int s0, .int s1, .ref s2] lay M P = mG d 218 269 [a0, a1, a2, a3, a4, a5, a6, a7] [.int (Int32.ofInt 1), .int s0, .int s1, .ref s2] lay M P := e_iconst rfl
set_option maxRecDepth 20000 in
theorem g218_269 {d : Nat} {a0 a1 a2 a3 a5 a6 a7 : Option Value} {s0 : Int32} {s1 : Int32} {s2 : Int32} {s3 : Nat} {x : Int32} {lay : List mShp} {M : mMem} {P : mPost} : mG (d) 218 269 [a0, a1, a2, a3, some (.int x), a5, a6, a7] [.int s0, .int s1, .int s2, .ref s3] lay M P = mG d 218 271 [a0, a1, a2, a3, some (.int x), a5, a6, a7] [.int x, .int s0, .int s1, .int s2, .ref s3] lay M P := e_iload (i := 4) rfl rfl
set_option maxRecDepth 20000 in
theorem g218_271 {d : Nat} {a0 a1 a2 a3 a4 a5 a6 a7 : Option Value} {s0 : Int32} {s1 : Int32} {s2 : Int32} {s3 : Int32} {s4 : Nat} {lay : List mShp} {M : mMem} {P : mPost} : mG (d) 218 271 [a0, a1, a2, a3, a4, a5, a6, a7] [.int s0, .int s1, .int s2, .int s3, .ref s4] lay M P = mG d 218 272 [a0, a1, a2, a3, a4, a5, a6, a7] [.int (Int32.ofInt 1), .int s0, .int s1, .int s2, .int s3, .ref s4] lay M P := e_iconst rfl
set_option maxRecDepth 20000 in
theorem g218_272 {d : Nat} {a0 a1 a2 a3 a4 a5 a6 a7 : Option Value} {s0 : Int32} {s1 : Int32} {s2 : Int32} {s3 : Int32} {s4 : Int32} {s5 : Nat} {lay : List mShp} {M : mMem} {P : mPost} : mG (d) 218 272 [a0, a1, a2, a3, a4, a5, a6, a7] [.int s0, .int s1, .int s2, .int s3, .int s4, .ref s5] lay M P = mG d 218 273 [a0, a1, a2, a3, a4, a5, a6, a7] [.int (s1 + s0), .int s2, .int s3, .int s4, .ref s5] lay M P := e_iadd rfl
set_option maxRecDepth 20000 in
theorem g218_273 {d : Nat} {a0 a1 a2 a3 a4 a5 a6 a7 : Option Value} {s0 : Int32} {s1 : Int32} {s2 : Int32} {s3 : Int32} {s4 : Nat} {lay : List mShp} {M : mMem} {P : mPost} (hs : mSh lay s4 = some (13, 44)) : mG (d + 1) 218 273 [a0, a1, a2, a3, a4, a5, a6, a7] [.int s0, .int s1, .int s2, .int s3, .ref s4] lay M P = mF d 218 [.ref s4, .int s3, .int s2, .int s1, .int s0] lay M (fun v lay1 M1 => mG (d + 1) 218 276 [a0, a1, a2, a3, a4, a5, a6, a7] (v.toList ++ []) lay1 M1 P) := e_virtP4 (j := 218) (c := 10) rfl rfl rfl rfl rfl rfl hs (Nat.le_of_ble_eq_true rfl)
set_option maxRecDepth 20000 in
theorem g218_276 {d : Nat} {a0 a1 a2 a3 a4 a5 a6 a7 : Option Value} {s0 : Int32} {lay : List mShp} {M : mMem} {P : mPost} : mG (d) 218 276 [a0, a1, a2, a3, a4, a5, a6, a7] [.int s0] lay M P = P (some (.int s0)) lay M := e_ireturnI rfl rfl
set_option maxRecDepth 20000 in
theorem g218_277 {d : Nat} {a1 a2 a3 a4 a5 a6 a7 : Option Value} {x : Nat} {lay : List mShp} {M : mMem} {P : mPost} (hx : ¬ x = 0) : mG (d) 218 277 [some (.ref x), a1, a2, a3, a4, a5, a6, a7] [] lay M P = mG d 218 278 [some (.ref x), a1, a2, a3, a4, a5, a6, a7] [.ref x] lay M P := e_aload_nP hx (i := 0) rfl rfl rfl
set_option maxRecDepth 20000 in
theorem g218_278 {d : Nat} {a0 a1 a2 a3 a4 a5 a7 : Option Value} {s0 : Nat} {x : Int32} {lay : List mShp} {M : mMem} {P : mPost} : mG (d) 218 278 [a0, a1, a2, a3, a4, a5, some (.int x), a7] [.ref s0] lay M P = mG d 218 280 [a0, a1, a2, a3, a4, a5, some (.int x), a7] [.int x, .ref s0] lay M P := e_iload (i := 6) rfl rfl
set_option maxRecDepth 20000 in
theorem g218_280 {d : Nat} {a0 a1 a3 a4 a5 a6 a7 : Option Value} {s0 : Int32} {s1 : Nat} {x : Int32} {lay : List mShp} {M : mMem} {P : mPost} : mG (d) 218 280 [a0, a1, some (.int x), a3, a4, a5, a6, a7] [.int s0, .ref s1] lay M P = mG d 218 281 [a0, a1, some (.int x), a3, a4, a5, a6, a7] [.int x, .int s0, .ref s1] lay M P := e_iload_n (i := 2) rfl rfl rfl
set_option maxRecDepth 20000 in
theorem g218_281 {d : Nat} {a0 a1 a2 a3 a4 a5 a6 a7 : Option Value} {s0 : Int32} {s1 : Int32} {s2 : Nat} {lay : List mShp} {M : mMem} {P : mPost} : mG (d) 218 281 [a0, a1, a2, a3, a4, a5, a6, a7] [.int s0, .int s1, .ref s2] lay M P = mG d 218 282 [a0, a1, a2, a3, a4, a5, a6, a7] [.int (Int32.ofInt 2), .int s0, .int s1, .ref s2] lay M P := e_iconst rfl
set_option maxRecDepth 20000 in
theorem g218_282 {d : Nat} {a0 a1 a2 a3 a5 a6 a7 : Option Value} {s0 : Int32} {s1 : Int32} {s2 : Int32} {s3 : Nat} {x : Int32} {lay : List mShp} {M : mMem} {P : mPost} : mG (d) 218 282 [a0, a1, a2, a3, some (.int x), a5, a6, a7] [.int s0, .int s1, .int s2, .ref s3] lay M P = mG d 218 284 [a0, a1, a2, a3, some (.int x), a5, a6, a7] [.int x, .int s0, .int s1, .int s2, .ref s3] lay M P := e_iload (i := 4) rfl rfl
set_option maxRecDepth 20000 in
theorem g218_284 {d : Nat} {a0 a1 a2 a3 a4 a5 a6 a7 : Option Value} {s0 : Int32} {s1 : Int32} {s2 : Int32} {s3 : Int32} {s4 : Nat} {lay : List mShp} {M : mMem} {P : mPost} (hs : mSh lay s4 = some (13, 44)) : mG (d + 1) 218 284 [a0, a1, a2, a3, a4, a5, a6, a7] [.int s0, .int s1, .int s2, .int s3, .ref s4] lay M P = mF d 218 [.ref s4, .int s3, .int s2, .int s1, .int s0] lay M (fun v lay1 M1 => mG (d + 1) 218 287 [a0, a1, a2, a3, a4, a5, a6, a7] (v.toList ++ []) lay1 M1 P) := e_virtP4 (j := 218) (c := 10) rfl rfl rfl rfl rfl rfl hs (Nat.le_of_ble_eq_true rfl)
set_option maxRecDepth 20000 in
theorem g218_287 {d : Nat} {a1 a2 a3 a4 a5 a6 a7 : Option Value} {s0 : Int32} {x : Nat} {lay : List mShp} {M : mMem} {P : mPost} (hx : ¬ x = 0) : mG (d) 218 287 [some (.ref x), a1, a2, a3, a4, a5, a6, a7] [.int s0] lay M P = mG d 218 288 [some (.ref x), a1, a2, a3, a4, a5, a6, a7] [.ref x, .int s0] lay M P := e_aload_nP hx (i := 0) rfl rfl rfl
set_option maxRecDepth 20000 in
theorem g218_288 {d : Nat} {a0 a1 a3 a4 a5 a6 a7 : Option Value} {s0 : Nat} {s1 : Int32} {x : Int32} {lay : List mShp} {M : mMem} {P : mPost} : mG (d) 218 288 [a0, a1, some (.int x), a3, a4, a5, a6, a7] [.ref s0, .int s1] lay M P = mG d 218 289 [a0, a1, some (.int x), a3, a4, a5, a6, a7] [.int x, .ref s0, .int s1] lay M P := e_iload_n (i := 2) rfl rfl rfl
set_option maxRecDepth 20000 in
theorem g218_289 {d : Nat} {a0 a1 a2 a3 a4 a5 a6 a7 : Option Value} {s0 : Int32} {s1 : Nat} {s2 : Int32} {lay : List mShp} {M : mMem} {P : mPost} : mG (d) 218 289 [a0, a1, a2, a3, a4, a5, a6, a7] [.int s0, .ref s1, .int s2] lay M P = mG d 218 290 [a0, a1, a2, a3, a4, a5, a6, a7] [.int (Int32.ofInt 0), .int s0, .ref s1, .int s2] lay M P := e_iconst rfl
set_option maxRecDepth 20000 in
theorem g218_290 {d : Nat} {a0 a1 a2 a3 a4 a5 a6 a7 : Option Value} {s0 : Int32} {s1 : Int32} {s2 : Nat} {s3 : Int32} {lay : List mShp} {M : mMem} {P : mPost} : mG (d) 218 290 [a0, a1, a2, a3, a4, a5, a6, a7] [.int s0, .int s1, .ref s2, .int s3] lay M P = mG d 218 291 [a0, a1, a2, a3, a4, a5, a6, a7] [.int (Int32.ofInt 2), .int s0, .int s1, .ref s2, .int s3] lay M P := e_iconst rfl
set_option maxRecDepth 20000 in
theorem g218_291 {d : Nat} {a0 a1 a2 a3 a4 a5 a6 a7 : Option Value} {s0 : Int32} {s1 : Int32} {s2 : Int32} {s3 : Nat} {s4 : Int32} {lay : List mShp} {M : mMem} {P : mPost} (hs : mSh lay s3 = some (13, 44)) : mG (d + 1) 218 291 [a0, a1, a2, a3, a4, a5, a6, a7] [.int s0, .int s1, .int s2, .ref s3, .int s4] lay M P = mF d 217 [.ref s3, .int s2, .int s1, .int s0] lay M (fun v lay1 M1 => mG (d + 1) 218 294 [a0, a1, a2, a3, a4, a5, a6, a7] (v.toList ++ [.int s4]) lay1 M1 P) := e_virtP3 (j := 217) (c := 10) rfl rfl rfl rfl rfl rfl hs (Nat.le_of_ble_eq_true rfl)
set_option maxRecDepth 20000 in
theorem g218_294 {d : Nat} {a0 a1 a2 a3 a4 a5 a6 a7 : Option Value} {s0 : Int32} {s1 : Int32} {lay : List mShp} {M : mMem} {P : mPost} : mG (d) 218 294 [a0, a1, a2, a3, a4, a5, a6, a7] [.int s0, .int s1] lay M P = mG d 218 295 [a0, a1, a2, a3, a4, a5, a6, a7] [.int (s1 - s0)] lay M P := e_isub rfl
set_option maxRecDepth 20000 in
theorem g218_295 {d : Nat} {a0 a1 a2 a3 a4 a5 a6 a7 : Option Value} {s0 : Int32} {lay : List mShp} {M : mMem} {P : mPost} : mG (d) 218 295 [a0, a1, a2, a3, a4, a5, a6, a7] [.int s0] lay M P = P (some (.int s0)) lay M := e_ireturnI rfl rfl
set_option maxRecDepth 20000 in
theorem g218_296 {d : Nat} {a1 a2 a3 a4 a5 a6 a7 : Option Value} {x : Nat} {lay : List mShp} {M : mMem} {P : mPost} (hx : ¬ x = 0) : mG (d) 218 296 [some (.ref x), a1, a2, a3, a4, a5, a6, a7] [] lay M P = mG d 218 297 [some (.ref x), a1, a2, a3, a4, a5, a6, a7] [.ref x] lay M P := e_aload_nP hx (i := 0) rfl rfl rfl
set_option maxRecDepth 20000 in
theorem g218_297 {d : Nat} {a0 a1 a2 a3 a4 a5 a7 : Option Value} {s0 : Nat} {x : Int32} {lay : List mShp} {M : mMem} {P : mPost} : mG (d) 218 297 [a0, a1, a2, a3, a4, a5, some (.int x), a7] [.ref s0] lay M P = mG d 218 299 [a0, a1, a2, a3, a4, a5, some (.int x), a7] [.int x, .ref s0] lay M P := e_iload (i := 6) rfl rfl
set_option maxRecDepth 20000 in
theorem g218_299 {d : Nat} {a0 a1 a3 a4 a5 a6 a7 : Option Value} {s0 : Int32} {s1 : Nat} {x : Int32} {lay : List mShp} {M : mMem} {P : mPost} : mG (d) 218 299 [a0, a1, some (.int x), a3, a4, a5, a6, a7] [.int s0, .ref s1] lay M P = mG d 218 300 [a0, a1, some (.int x), a3, a4, a5, a6, a7] [.int x, .int s0, .ref s1] lay M P := e_iload_n (i := 2) rfl rfl rfl
set_option maxRecDepth 20000 in
theorem g218_300 {d : Nat} {a0 a1 a2 a3 a4 a5 a6 a7 : Option Value} {s0 : Int32} {s1 : Int32} {s2 : Nat} {lay : List mShp} {M : mMem} {P : mPost} : mG (d) 218 300 [a0, a1, a2, a3, a4, a5, a6, a7] [.int s0, .int s1, .ref s2] lay M P = mG d 218 301 [a0, a1, a2, a3, a4, a5, a6, a7] [.int (Int32.ofInt 3), .int s0, .int s1, .ref s2] lay M P := e_iconst rfl
set_option maxRecDepth 20000 in
theorem g218_301 {d : Nat} {a0 a1 a2 a3 a5 a6 a7 : Option Value} {s0 : Int32} {s1 : Int32} {s2 : Int32} {s3 : Nat} {x : Int32} {lay : List mShp} {M : mMem} {P : mPost} : mG (d) 218 301 [a0, a1, a2, a3, some (.int x), a5, a6, a7] [.int s0, .int s1, .int s2, .ref s3] lay M P = mG d 218 303 [a0, a1, a2, a3, some (.int x), a5, a6, a7] [.int x, .int s0, .int s1, .int s2, .ref s3] lay M P := e_iload (i := 4) rfl rfl
set_option maxRecDepth 20000 in
theorem g218_303 {d : Nat} {a0 a1 a2 a3 a4 a5 a6 a7 : Option Value} {s0 : Int32} {s1 : Int32} {s2 : Int32} {s3 : Int32} {s4 : Nat} {lay : List mShp} {M : mMem} {P : mPost} (hs : mSh lay s4 = some (13, 44)) : mG (d + 1) 218 303 [a0, a1, a2, a3, a4, a5, a6, a7] [.int s0, .int s1, .int s2, .int s3, .ref s4] lay M P = mF d 218 [.ref s4, .int s3, .int s2, .int s1, .int s0] lay M (fun v lay1 M1 => mG (d + 1) 218 306 [a0, a1, a2, a3, a4, a5, a6, a7] (v.toList ++ []) lay1 M1 P) := e_virtP4 (j := 218) (c := 10) rfl rfl rfl rfl rfl rfl hs (Nat.le_of_ble_eq_true rfl)
set_option maxRecDepth 20000 in
theorem g218_306 {d : Nat} {a0 a1 a2 a3 a4 a5 a6 a7 : Option Value} {s0 : Int32} {lay : List mShp} {M : mMem} {P : mPost} : mG (d) 218 306 [a0, a1, a2, a3, a4, a5, a6, a7] [.int s0] lay M P = mG d 218 307 [a0, a1, a2, a3, a4, a5, a6, a7] [.int (Int32.ofInt 5), .int s0] lay M P := e_iconst rfl
set_option maxRecDepth 20000 in
theorem g218_307 {d : Nat} {a0 a1 a2 a3 a4 a5 a6 a7 : Option Value} {s0 : Int32} {s1 : Int32} {lay : List mShp} {M : mMem} {P : mPost} : mG (d) 218 307 [a0, a1, a2, a3, a4, a5, a6, a7] [.int s0, .int s1] lay M P = mG d 218 308 [a0, a1, a2, a3, a4, a5, a6, a7] [.int (s1 ^^^ s0)] lay M P := e_ixor rfl
set_option maxRecDepth 20000 in
theorem g218_308 {d : Nat} {a0 a1 a2 a3 a4 a5 a6 a7 : Option Value} {s0 : Int32} {lay : List mShp} {M : mMem} {P : mPost} : mG (d) 218 308 [a0, a1, a2, a3, a4, a5, a6, a7] [.int s0] lay M P = P (some (.int s0)) lay M := e_ireturnI rfl rfl
set_option maxRecDepth 20000 in
theorem g218_309 {d : Nat} {a1 a2 a3 a4 a5 a6 a7 : Option Value} {x : Nat} {lay : List mShp} {M : mMem} {P : mPost} (hx : ¬ x = 0) : mG (d) 218 309 [some (.ref x), a1, a2, a3, a4, a5, a6, a7] [] lay M P = mG d 218 310 [some (.ref x), a1, a2, a3, a4, a5, a6, a7] [.ref x] lay M P := e_aload_nP hx (i := 0) rfl rfl rfl
set_option maxRecDepth 20000 in
theorem g218_310 {d : Nat} {a0 a1 a2 a3 a4 a5 a7 : Option Value} {s0 : Nat} {x : Int32} {lay : List mShp} {M : mMem} {P : mPost} : mG (d) 218 310 [a0, a1, a2, a3, a4, a5, some (.int x), a7] [.ref s0] lay M P = mG d 218 312 [a0, a1, a2, a3, a4, a5, some (.int x), a7] [.int x, .ref s0] lay M P := e_iload (i := 6) rfl rfl
set_option maxRecDepth 20000 in
theorem g218_312 {d : Nat} {a0 a1 a3 a4 a5 a6 a7 : Option Value} {s0 : Int32} {s1 : Nat} {x : Int32} {lay : List mShp} {M : mMem} {P : mPost} : mG (d) 218 312 [a0, a1, some (.int x), a3, a4, a5, a6, a7] [.int s0, .ref s1] lay M P = mG d 218 313 [a0, a1, some (.int x), a3, a4, a5, a6, a7] [.int x, .int s0, .ref s1] lay M P := e_iload_n (i := 2) rfl rfl rfl
set_option maxRecDepth 20000 in
theorem g218_313 {d : Nat} {a0 a1 a2 a3 a4 a5 a6 a7 : Option Value} {s0 : Int32} {s1 : Int32} {s2 : Nat} {lay : List mShp} {M : mMem} {P : mPost} : mG (d) 218 313 [a0, a1, a2, a3, a4, a5, a6, a7] [.int s0, .int s1, .ref s2] lay M P = mG d 218 314 [a0, a1, a2, a3, a4, a5, a6, a7] [.int (Int32.ofInt 0), .int s0, .int s1, .ref s2] lay M P := e_iconst rfl
set_option maxRecDepth 20000 in
theorem g218_314 {d : Nat} {a0 a1 a2 a3 a5 a6 a7 : Option Value} {s0 : Int32} {s1 : Int32} {s2 : Int32} {s3 : Nat} {x : Int32} {lay : List mShp} {M : mMem} {P : mPost} : mG (d) 218 314 [a0, a1, a2, a3, some (.int x), a5, a6, a7] [.int s0, .int s1, .int s2, .ref s3] lay M P = mG d 218 316 [a0, a1, a2, a3, some (.int x), a5, a6, a7] [.int x, .int s0, .int s1, .int s2, .ref s3] lay M P := e_iload (i := 4) rfl rfl
set_option maxRecDepth 20000 in
theorem g218_316 {d : Nat} {a0 a1 a2 a3 a4 a5 a6 a7 : Option Value} {s0 : Int32} {s1 : Int32} {s2 : Int32} {s3 : Int32} {s4 : Nat} {lay : List mShp} {M : mMem} {P : mPost} (hs : mSh lay s4 = some (13, 44)) : mG (d + 1) 218 316 [a0, a1, a2, a3, a4, a5, a6, a7] [.int s0, .int s1, .int s2, .int s3, .ref s4] lay M P = mF d 218 [.ref s4, .int s3, .int s2, .int s1, .int s0] lay M (fun v lay1 M1 => mG (d + 1) 218 319 [a0, a1, a2, a3, a4, a5, a6, a7] (v.toList ++ []) lay1 M1 P) := e_virtP4 (j := 218) (c := 10) rfl rfl rfl rfl rfl rfl hs (Nat.le_of_ble_eq_true rfl)
set_option maxRecDepth 20000 in
theorem g218_319 {d : Nat} {a0 a1 a2 a3 a4 a5 a6 a7 : Option Value} {s0 : Int32} {lay : List mShp} {M : mMem} {P : mPost} : mG (d) 218 319 [a0, a1, a2, a3, a4, a5, a6, a7] [.int s0] lay M P = mG d 218 320 [a0, a1, a2, a3, a4, a5, a6, a7] [.int (Int32.ofInt 2), .int s0] lay M P := e_iconst rfl
set_option maxRecDepth 20000 in
theorem g218_320 {d : Nat} {a0 a1 a2 a3 a4 a5 a6 a7 : Option Value} {s0 : Int32} {s1 : Int32} {lay : List mShp} {M : mMem} {P : mPost} : mG (d) 218 320 [a0, a1, a2, a3, a4, a5, a6, a7] [.int s0, .int s1] lay M P = mG d 218 321 [a0, a1, a2, a3, a4, a5, a6, a7] [.int (s1 * s0)] lay M P := e_imul rfl
set_option maxRecDepth 20000 in
theorem g218_321 {d : Nat} {a0 a1 a2 a3 a4 a5 a6 a7 : Option Value} {s0 : Int32} {lay : List mShp} {M : mMem} {P : mPost} : mG (d) 218 321 [a0, a1, a2, a3, a4, a5, a6, a7] [.int s0] lay M P = P (some (.int s0)) lay M := e_ireturnI rfl rfl
set_option maxRecDepth 20000 in
theorem g218_322 {d : Nat} {a1 a2 a3 a4 a5 a6 a7 : Option Value} {x : Nat} {lay : List mShp} {M : mMem} {P : mPost} (hx : ¬ x = 0) : mG (d) 218 322 [some (.ref x), a1, a2, a3, a4, a5, a6, a7] [] lay M P = mG d 218 323 [some (.ref x), a1, a2, a3, a4, a5, a6, a7] [.ref x] lay M P := e_aload_nP hx (i := 0) rfl rfl rfl
set_option maxRecDepth 20000 in
theorem g218_323 {d : Nat} {a0 a1 a2 a3 a4 a5 a7 : Option Value} {s0 : Nat} {x : Int32} {lay : List mShp} {M : mMem} {P : mPost} : mG (d) 218 323 [a0, a1, a2, a3, a4, a5, some (.int x), a7] [.ref s0] lay M P = mG d 218 325 [a0, a1, a2, a3, a4, a5, some (.int x), a7] [.int x, .ref s0] lay M P := e_iload (i := 6) rfl rfl
set_option maxRecDepth 20000 in
theorem g218_325 {d : Nat} {a0 a1 a3 a4 a5 a6 a7 : Option Value} {s0 : Int32} {s1 : Nat} {x : Int32} {lay : List mShp} {M : mMem} {P : mPost} : mG (d) 218 325 [a0, a1, some (.int x), a3, a4, a5, a6, a7] [.int s0, .ref s1] lay M P = mG d 218 326 [a0, a1, some (.int x), a3, a4, a5, a6, a7] [.int x, .int s0, .ref s1] lay M P := e_iload_n (i := 2) rfl rfl rfl
set_option maxRecDepth 20000 in
theorem g218_326 {d : Nat} {a0 a1 a2 a3 a4 a5 a6 a7 : Option Value} {s0 : Int32} {s1 : Int32} {s2 : Nat} {lay : List mShp} {M : mMem} {P : mPost} : mG (d) 218 326 [a0, a1, a2, a3, a4, a5, a6, a7] [.int s0, .int s1, .ref s2] lay M P = mG d 218 327 [a0, a1, a2, a3, a4, a5, a6, a7] [.int (Int32.ofInt 1), .int s0, .int s1, .ref s2] lay M P := e_iconst rfl
set_option maxRecDepth 20000 in
theorem g218_327 {d : Nat} {a0 a1 a2 a3 a5 a6 a7 : Option Value} {s0 : Int32} {s1 : Int32} {s2 : Int32} {s3 : Nat} {x : Int32} {lay : List mShp} {M : mMem} {P : mPost} : mG (d) 218 327 [a0, a1, a2, a3, some (.int x), a5, a6, a7] [.int s0, .int s1, .int s2, .ref s3] lay M P = mG d 218 329 [a0, a1, a2, a3, some (.int x), a5, a6, a7] [.int x, .int s0, .int s1, .int s2, .ref s3] lay M P := e_iload (i := 4) rfl rfl
set_option maxRecDepth 20000 in
theorem g218_329 {d : Nat} {a0 a1 a2 a3 a4 a5 a6 a7 : Option Value} {s0 : Int32} {s1 : Int32} {s2 : Int32} {s3 : Int32} {s4 : Nat} {lay : List mShp} {M : mMem} {P : mPost} (hs : mSh lay s4 = some (13, 44)) : mG (d + 1) 218 329 [a0, a1, a2, a3, a4, a5, a6, a7] [.int s0, .int s1, .int s2, .int s3, .ref s4] lay M P = mF d 218 [.ref s4, .int s3, .int s2, .int s1, .int s0] lay M (fun v lay1 M1 => mG (d + 1) 218 332 [a0, a1, a2, a3, a4, a5, a6, a7] (v.toList ++ []) lay1 M1 P) := e_virtP4 (j := 218) (c := 10) rfl rfl rfl rfl rfl rfl hs (Nat.le_of_ble_eq_true rfl)
set_option maxRecDepth 20000 in
theorem g218_332 {d : Nat} {a1 a2 a3 a4 a5 a6 a7 : Option Value} {s0 : Int32} {x : Nat} {lay : List mShp} {M : mMem} {P : mPost} (hx : ¬ x = 0) : mG (d) 218 332 [some (.ref x), a1, a2, a3, a4, a5, a6, a7] [.int s0] lay M P = mG d 218 333 [some (.ref x), a1, a2, a3, a4, a5, a6, a7] [.ref x, .int s0] lay M P := e_aload_nP hx (i := 0) rfl rfl rfl
set_option maxRecDepth 20000 in
theorem g218_333 {d : Nat} {a0 a1 a3 a4 a5 a6 a7 : Option Value} {s0 : Nat} {s1 : Int32} {x : Int32} {lay : List mShp} {M : mMem} {P : mPost} : mG (d) 218 333 [a0, a1, some (.int x), a3, a4, a5, a6, a7] [.ref s0, .int s1] lay M P = mG d 218 334 [a0, a1, some (.int x), a3, a4, a5, a6, a7] [.int x, .ref s0, .int s1] lay M P := e_iload_n (i := 2) rfl rfl rfl
set_option maxRecDepth 20000 in
theorem g218_334 {d : Nat} {a0 a1 a2 a3 a4 a5 a6 a7 : Option Value} {s0 : Int32} {s1 : Nat} {s2 : Int32} {lay : List mShp} {M : mMem} {P : mPost} : mG (d) 218 334 [a0, a1, a2, a3, a4, a5, a6, a7] [.int s0, .ref s1, .int s2] lay M P = mG d 218 335 [a0, a1, a2, a3, a4, a5, a6, a7] [.int (Int32.ofInt 2), .int s0, .ref s1, .int s2] lay M P := e_iconst rfl
set_option maxRecDepth 20000 in
theorem g218_335 {d : Nat} {a0 a1 a2 a3 a4 a5 a6 a7 : Option Value} {s0 : Int32} {s1 : Int32} {s2 : Nat} {s3 : Int32} {lay : List mShp} {M : mMem} {P : mPost} : mG (d) 218 335 [a0, a1, a2, a3, a4, a5, a6, a7] [.int s0, .int s1, .ref s2, .int s3] lay M P = mG d 218 336 [a0, a1, a2, a3, a4, a5, a6, a7] [.int (Int32.ofInt 2), .int s0, .int s1, .ref s2, .int s3] lay M P := e_iconst rfl
set_option maxRecDepth 20000 in
theorem g218_336 {d : Nat} {a0 a1 a2 a3 a4 a5 a6 a7 : Option Value} {s0 : Int32} {s1 : Int32} {s2 : Int32} {s3 : Nat} {s4 : Int32} {lay : List mShp} {M : mMem} {P : mPost} (hs : mSh lay s3 = some (13, 44)) : mG (d + 1) 218 336 [a0, a1, a2, a3, a4, a5, a6, a7] [.int s0, .int s1, .int s2, .ref s3, .int s4] lay M P = mF d 217 [.ref s3, .int s2, .int s1, .int s0] lay M (fun v lay1 M1 => mG (d + 1) 218 339 [a0, a1, a2, a3, a4, a5, a6, a7] (v.toList ++ [.int s4]) lay1 M1 P) := e_virtP3 (j := 217) (c := 10) rfl rfl rfl rfl rfl rfl hs (Nat.le_of_ble_eq_true rfl)
set_option maxRecDepth 20000 in
theorem g218_339 {d : Nat} {a0 a1 a2 a3 a4 a5 a6 a7 : Option Value} {s0 : Int32} {s1 : Int32} {lay : List mShp} {M : mMem} {P : mPost} : mG (d) 218 339 [a0, a1, a2, a3, a4, a5, a6, a7] [.int s0, .int s1] lay M P = mG d 218 340 [a0, a1, a2, a3, a4, a5, a6, a7] [.int (s1 + s0)] lay M P := e_iadd rfl
set_option maxRecDepth 20000 in
theorem g218_340 {d : Nat} {a0 a1 a2 a3 a4 a5 a6 a7 : Option Value} {s0 : Int32} {lay : List mShp} {M : mMem} {P : mPost} : mG (d) 218 340 [a0, a1, a2, a3, a4, a5, a6, a7] [.int s0] lay M P = P (some (.int s0)) lay M := e_ireturnI rfl rfl
set_option maxRecDepth 20000 in
theorem g218_341 {d : Nat} {a1 a2 a3 a4 a5 a6 a7 : Option Value} {x : Nat} {lay : List mShp} {M : mMem} {P : mPost} (hx : ¬ x = 0) : mG (d) 218 341 [some (.ref x), a1, a2, a3, a4, a5, a6, a7] [] lay M P = mG d 218 342 [some (.ref x), a1, a2, a3, a4, a5, a6, a7] [.ref x] lay M P := e_aload_nP hx (i := 0) rfl rfl rfl
set_option maxRecDepth 20000 in
theorem g218_342 {d : Nat} {a0 a1 a2 a3 a4 a5 a7 : Option Value} {s0 : Nat} {x : Int32} {lay : List mShp} {M : mMem} {P : mPost} : mG (d) 218 342 [a0, a1, a2, a3, a4, a5, some (.int x), a7] [.ref s0] lay M P = mG d 218 344 [a0, a1, a2, a3, a4, a5, some (.int x), a7] [.int x, .ref s0] lay M P := e_iload (i := 6) rfl rfl
set_option maxRecDepth 20000 in
theorem g218_344 {d : Nat} {a0 a1 a3 a4 a5 a6 a7 : Option Value} {s0 : Int32} {s1 : Nat} {x : Int32} {lay : List mShp} {M : mMem} {P : mPost} : mG (d) 218 344 [a0, a1, some (.int x), a3, a4, a5, a6, a7] [.int s0, .ref s1] lay M P = mG d 218 345 [a0, a1, some (.int x), a3, a4, a5, a6, a7] [.int x, .int s0, .ref s1] lay M P := e_iload_n (i := 2) rfl rfl rfl
set_option maxRecDepth 20000 in
theorem g218_345 {d : Nat} {a0 a1 a2 a3 a4 a5 a6 a7 : Option Value} {s0 : Int32} {s1 : Int32} {s2 : Nat} {lay : List mShp} {M : mMem} {P : mPost} : mG (d) 218 345 [a0, a1, a2, a3, a4, a5, a6, a7] [.int s0, .int s1, .ref s2] lay M P = mG d 218 346 [a0, a1, a2, a3, a4, a5, a6, a7] [.int (Int32.ofInt 3), .int s0, .int s1, .ref s2] lay M P := e_iconst rfl
set_option maxRecDepth 20000 in
theorem g218_346 {d : Nat} {a0 a1 a2 a3 a5 a6 a7 : Option Value} {s0 : Int32} {s1 : Int32} {s2 : Int32} {s3 : Nat} {x : Int32} {lay : List mShp} {M : mMem} {P : mPost} : mG (d) 218 346 [a0, a1, a2, a3, some (.int x), a5, a6, a7] [.int s0, .int s1, .int s2, .ref s3] lay M P = mG d 218 348 [a0, a1, a2, a3, some (.int x), a5, a6, a7] [.int x, .int s0, .int s1, .int s2, .ref s3] lay M P := e_iload (i := 4) rfl rfl
set_option maxRecDepth 20000 in
theorem g218_348 {d : Nat} {a0 a1 a2 a3 a4 a5 a6 a7 : Option Value} {s0 : Int32} {s1 : Int32} {s2 : Int32} {s3 : Int32} {s4 : Nat} {lay : List mShp} {M : mMem} {P : mPost} (hs : mSh lay s4 = some (13, 44)) : mG (d + 1) 218 348 [a0, a1, a2, a3, a4, a5, a6, a7] [.int s0, .int s1, .int s2, .int s3, .ref s4] lay M P = mF d 218 [.ref s4, .int s3, .int s2, .int s1, .int s0] lay M (fun v lay1 M1 => mG (d + 1) 218 351 [a0, a1, a2, a3, a4, a5, a6, a7] (v.toList ++ []) lay1 M1 P) := e_virtP4 (j := 218) (c := 10) rfl rfl rfl rfl rfl rfl hs (Nat.le_of_ble_eq_true rfl)
set_option maxRecDepth 20000 in
theorem g218_351 {d : Nat} {a0 a1 a2 a3 a4 a5 a6 a7 : Option Value} {s0 : Int32} {lay : List mShp} {M : mMem} {P : mPost} : mG (d) 218 351 [a0, a1, a2, a3, a4, a5, a6, a7] [.int s0] lay M P = mG d 218 352 [a0, a1, a2, a3, a4, a5, a6, a7] [.int (Int32.ofInt 1), .int s0] lay M P := e_iconst rfl
set_option maxRecDepth 20000 in
theorem g218_352 {d : Nat} {a0 a1 a2 a3 a4 a5 a6 a7 : Option Value} {s0 : Int32} {s1 : Int32} {lay : List mShp} {M : mMem} {P : mPost} : mG (d) 218 352 [a0, a1, a2, a3, a4, a5, a6, a7] [.int s0, .int s1] lay M P = mG d 218 353 [a0, a1, a2, a3, a4, a5, a6, a7] [.int (s1 - s0)] lay M P := e_isub rfl
set_option maxRecDepth 20000 in
theorem g218_353 {d : Nat} {a0 a1 a2 a3 a4 a5 a6 a7 : Option Value} {s0 : Int32} {lay : List mShp} {M : mMem} {P : mPost} : mG (d) 218 353 [a0, a1, a2, a3, a4, a5, a6, a7] [.int s0] lay M P = P (some (.int s0)) lay M := e_ireturnI rfl rfl
-- 219 X10_act
theorem g219_in {d : Nat} {x0 : Nat} {x1 : Int32} {x2 : Int32} {x3 : Int32} {lay : List mShp} {M : mMem} {P : mPost} : mF d 219 [.ref x0, .int x1, .int x2, .int x3] lay M P = mG d 219 0 [some (.ref x0), some (.int x1), some (.int x2), some (.int x3)] [] lay M P := mF_in rfl rfl
set_option maxRecDepth 20000 in
theorem g219_0 {d : Nat} {a1 a2 a3 : Option Value} {x : Nat} {lay : List mShp} {M : mMem} {P : mPost} (hx : ¬ x = 0) : mG (d) 219 0 [some (.ref x), a1, a2, a3] [] lay M P = mG d 219 1 [some (.ref x), a1, a2, a3] [.ref x] lay M P := e_aload_nP hx (i := 0) rfl rfl rfl
set_option maxRecDepth 20000 in
theorem g219_1 {d : Nat} {a0 a1 a2 a3 : Option Value} {s0 : Nat} {lay : List mShp} {M : mMem} {P : mPost} : mG (d) 219 1 [a0, a1, a2, a3] [.ref s0] lay M P = mG d 219 2 [a0, a1, a2, a3] [.int (Int32.ofInt 0), .ref s0] lay M P := e_iconst rfl
set_option maxRecDepth 20000 in
theorem g219_2 {d : Nat} {a0 a1 a2 a3 : Option Value} {s0 : Int32} {s1 : Nat} {lay : List mShp} {M : mMem} {P : mPost} (hs : mSh lay s1 = some (13, 44)) : mG (d) 219 2 [a0, a1, a2, a3] [.int s0, .ref s1] lay M P = mG d 219 5 [a0, a1, a2, a3] [] lay (mSetI M s1 43 s0) P := mG_of_and (mIsO_of hs (by decide)) (e_putI (ci := 10) (j := 43) rfl rfl (Or.inl rfl) rfl)
set_option maxRecDepth 20000 in
theorem g219_5 {d : Nat} {a0 a2 a3 : Option Value} {x : Int32} {lay : List mShp} {M : mMem} {P : mPost} : mG (d) 219 5 [a0, some (.int x), a2, a3] [] lay M P = mG d 219 6 [a0, some (.int x), a2, a3] [.int x] lay M P := e_iload_n (i := 1) rfl rfl rfl
set_option maxRecDepth 20000 in
theorem g219_6 {d : Nat} {a0 a1 a2 a3 : Option Value} {s0 : Int32} {lay : List mShp} {M : mMem} {P : mPost} : mG (d) 219 6 [a0, a1, a2, a3] [.int s0] lay M P = mG d 219 7 [a0, a1, a2, a3] [.int (Int32.ofInt 0), .int s0] lay M P := e_iconst rfl
set_option maxRecDepth 20000 in
theorem g219_7 {d : Nat} {a1 a2 a3 : Option Value} {s0 : Int32} {s1 : Int32} {x : Nat} {lay : List mShp} {M : mMem} {P : mPost} (hx : ¬ x = 0) : mG (d) 219 7 [some (.ref x), a1, a2, a3] [.int s0, .int s1] lay M P = mG d 219 8 [some (.ref x), a1, a2, a3] [.ref x, .int s0, .int s1] lay M P := e_aload_nP hx (i := 0) rfl rfl rfl
set_option maxRecDepth 20000 in
theorem g219_8 {d : Nat} {a0 a1 a2 a3 : Option Value} {s0 : Nat} {s1 : Int32} {s2 : Int32} {lay : List mShp} {M : mMem} {P : mPost} (hs : mSh lay s0 = some (13, 44)) : mG (d) 219 8 [a0, a1, a2, a3] [.ref s0, .int s1, .int s2] lay M P = mG d 219 11 [a0, a1, a2, a3] [.int (M.1 s0 41), .int s1, .int s2] lay M P := mG_of_and (mIsO_of hs (by decide)) (e_getI (ci := 10) (j := 41) rfl rfl rfl)
set_option maxRecDepth 20000 in
theorem g219_11 {d : Nat} {a0 a1 a2 a3 : Option Value} {s0 : Int32} {s1 : Int32} {s2 : Int32} {lay : List mShp} {M : mMem} {P : mPost} : mG (d) 219 11 [a0, a1, a2, a3] [.int s0, .int s1, .int s2] lay M P = mG d 219 12 [a0, a1, a2, a3] [.int (Int32.ofInt 1), .int s0, .int s1, .int s2] lay M P := e_iconst rfl
