/-! ===== A SMALL MACHINE over cells by number (mine): refs are numbers (0 null, 1 and 2 the two static rows, 3 and on the world's cells in the order of their making); the memory is three total tables; a run is a function. Its runs are runs of the JVM: part 03. ===== -/
abbrev mShp : Type := Nat × Nat
abbrev mMem : Type := (Nat → Nat → Int32) × (Nat → Nat → Int64) × (Nat → Nat → Nat)
abbrev mLs : Type := List (Option Value)
abbrev mOut : Type := (Nat × mLs × List Value × List mShp × mMem) ⊕ (Option Value) ⊕ (Nat × List Value × List Value)
def mSetI (M : mMem) (k j : Nat) (x : Int32) : mMem := (fun a b => if a = k ∧ b = j then x else M.1 a b, M.2.1, M.2.2)
def mSetL (M : mMem) (k j : Nat) (x : Int64) : mMem := (M.1, fun a b => if a = k ∧ b = j then x else M.2.1 a b, M.2.2)
def mSetR (M : mMem) (k j : Nat) (x : Nat) : mMem := (M.1, M.2.1, fun a b => if a = k ∧ b = j then x else M.2.2 a b)
def mNew (M : mMem) (n : Nat) : mMem := (fun a b => if a = n then 0 else M.1 a b, fun a b => if a = n then 0 else M.2.1 a b, fun a b => if a = n then 0 else M.2.2 a b)
def mCpyI (M : mMem) (k0 k1 sp dp n : Nat) : mMem := (fun a b => if a = k1 then va_cpy (M.1 k0) (M.1 k1) sp dp n b else M.1 a b, M.2.1, M.2.2)
def mCpyL (M : mMem) (k0 k1 sp dp n : Nat) : mMem := (M.1, fun a b => if a = k1 then va_cpy (M.2.1 k0) (M.2.1 k1) sp dp n b else M.2.1 a b, M.2.2)
/-- what a ref's cell is: 0 a row of ints, 1 of longs, 2 of chars, c + 3 an object of the class c; how many places -/
def mSh (lay : List mShp) : Nat → Option mShp
  | 0 => none
  | 1 => some (98, 8)
  | 2 => some (97, 32)
  | r + 3 => lay[r]?
def mAb (j : Nat) : Int32 := ([-1, 0, 0, 2, 1, 3, 0, 4] : List Int32).getD j 0
def mBo (j : Nat) : Int32 := ([1, 10, 11, 2, 20, 0, 0, 0, 0, 30, 0, 0, 0, 41, 40, 0, 0, 0, 50, 0, 0, 0, 0, 60, 70, 0, 0, 0, 0, 80, 0, 81] : List Int32).getD j 0
def mClr (L : mLs) : Nat → mLs
  | 0 => L
  | j + 1 => match L[j]? with
    | some (some w) => if w.category = 2 then L.set j none else L
    | _ => L
def mSto1 (L : mLs) (i : Nat) (v : Value) : mLs := (mClr L i).set i (some v)
def mSto2 (L : mLs) (i : Nat) (v : Value) : mLs := ((mClr L i).set i (some v)).set (i + 1) none
def mCat (S : List Value) : Nat := (S.map fun v => v.category).sum
def mArgs (vs : List Value) : mLs := vs.flatMap fun v => if v.category = 2 then [some v, none] else [some v]
def mEntry (n : Nat) (vs : List Value) : mLs := mArgs vs ++ List.replicate (n - (mArgs vs).length) none
def mGo (pc : Nat) (L : mLs) (S : List Value) (lay : List mShp) (M : mMem) : Option mOut := some (.inl (pc, L, S, lay, M))
def mJmp (pc : Nat) (off : Int) (L : mLs) (S : List Value) (lay : List mShp) (M : mMem) : Option mOut := if 0 ≤ (pc : Int) + off then mGo ((pc : Int) + off).toNat L S lay M else none
def mFind : List (Nat × Instr × Nat) → Nat → Option (Instr × Nat)
  | [], _ => none
  | (q, x) :: r, pc => bif Nat.beq q pc then some x else mFind r pc
def mFindR : List (Nat × mRs) → Nat → Option mRs
  | [], _ => none
  | (q, x) :: r, c => bif Nat.beq q c then some x else mFindR r c
def mLoadI (L : mLs) (i : Nat) (f : Value → Option mOut) : Option mOut := match L[i]? with
  | some (some (.int x)) => f (.int x)
  | _ => none
def mLoadL (L : mLs) (i : Nat) (f : Value → Option mOut) : Option mOut := match L[i]? with
  | some (some (.long x)) => f (.long x)
  | _ => none
def mLoadA (L : mLs) (i : Nat) (f : Value → Option mOut) : Option mOut := match L[i]? with
  | some (some (.ref (r + 1))) => f (.ref (r + 1))
  | _ => none
def mStoreI (L : mLs) (i : Nat) (S : List Value) (f : mLs → List Value → Option mOut) : Option mOut := match S with
  | .int x :: r => if i < L.length then f (mSto1 L i (.int x)) r else none
  | _ => none
def mStoreA (L : mLs) (i : Nat) (S : List Value) (f : mLs → List Value → Option mOut) : Option mOut := match S with
  | .ref (x + 1) :: r => if i < L.length then f (mSto1 L i (.ref (x + 1))) r else none
  | _ => none
def mStoreL (L : mLs) (i : Nat) (S : List Value) (f : mLs → List Value → Option mOut) : Option mOut := match S with
  | .long x :: r => if i + 1 < L.length then f (mSto2 L i (.long x)) r else none
  | _ => none
def mOp2 (S : List Value) (f : Int32 → Int32 → List Value → Option mOut) : Option mOut := match S with
  | .int y :: .int x :: r => f x y r
  | _ => none
def mOp1 (S : List Value) (f : Int32 → List Value → Option mOut) : Option mOut := match S with
  | .int x :: r => f x r
  | _ => none
def mOpL (S : List Value) (f : Int64 → Int64 → List Value → Option mOut) : Option mOut := match S with
  | .long y :: .long x :: r => f x y r
  | _ => none
def mOpL1 (S : List Value) (f : Int64 → List Value → Option mOut) : Option mOut := match S with
  | .long x :: r => f x r
  | _ => none
def mC1 (c : ClassFile.Cond) (x : Int32) : Bool := match c with
  | .eq => decide (x = 0)
  | .ne => !decide (x = 0)
  | .lt => decide (x < 0)
  | .ge => !decide (x < 0)
  | .gt => decide (0 < x)
  | .le => !decide (0 < x)
def mC2 (c : ClassFile.Cond) (x y : Int32) : Bool := match c with
  | .eq => decide (x = y)
  | .ne => !decide (x = y)
  | .lt => decide (x < y)
  | .ge => !decide (x < y)
  | .gt => decide (y < x)
  | .le => !decide (y < x)
def mFetch (k pc : Nat) : Option (Instr × Nat) := mFind (mCds.getD k []) pc
def mGetF (o cp : Nat) (lay : List mShp) (M : mMem) (S : List Value) (f : List Value → Option mOut) : Option mOut := match S with
  | .ref r :: rest => match mFindR (mFl o) cp with
    | some (_, ci, j, _) => match mSh lay r with
      | some (kd, n) => if kd = ci + 3 ∧ j < n then match mTy ci j with
          | .int => f (.int (M.1 r j) :: rest)
          | .boolean => f (.int (M.1 r j) :: rest)
          | .object _ => f (.ref (M.2.2 r j) :: rest)
          | .array _ => f (.ref (M.2.2 r j) :: rest)
          | _ => none
        else none
      | none => none
    | none => none
  | _ => none
def mPutF (init : Bool) (o cp : Nat) (lay : List mShp) (M : mMem) (S : List Value) (f : List Value → mMem → Option mOut) : Option mOut := match S with
  | v :: .ref r :: rest => match mFindR (mFl o) cp with
    | some (nst, ci, j, _) => match mSh lay r with
      | some (kd, n) => if kd = ci + 3 ∧ j < n ∧ (((mCl ci).2.1 j).2.2.2 = false ∨ (init = true ∧ ci = o ∧ nst = 0)) then match mTy ci j, v with
          | .int, .int x => f rest (mSetI M r j x)
          | .boolean, .int x => if x = 0 ∨ x = 1 then f rest (mSetI M r j x) else none
          | .object _, .ref x => f rest (mSetR M r j x)
          | .array _, .ref x => f rest (mSetR M r j x)
          | _, _ => none
        else none
      | none => none
    | none => none
  | _ => none
def mIdx (i : Int32) (n : Nat) : Bool := decide (0 ≤ i.toInt ∧ i.toInt < n)
def mIald (lay : List mShp) (M : mMem) (S : List Value) (f : List Value → Option mOut) : Option mOut := match S with
  | .int i :: .ref r :: rest => match mSh lay r with
    | some (kd, n) => if mIdx i n = true then
        (if kd = 0 then f (.int (M.1 r i.toNatClampNeg) :: rest) else if kd = 98 then f (.int (mAb i.toNatClampNeg) :: rest) else if kd = 97 then f (.int (mBo i.toNatClampNeg) :: rest) else none) else none
    | none => none
  | _ => none
def mCald (lay : List mShp) (M : mMem) (S : List Value) (f : List Value → Option mOut) : Option mOut := match S with
  | .int i :: .ref r :: rest => match mSh lay r with
    | some (kd, n) => if kd = 2 ∧ mIdx i n = true then f (.int (M.1 r i.toNatClampNeg) :: rest) else none
    | none => none
  | _ => none
def mLald (lay : List mShp) (M : mMem) (S : List Value) (f : List Value → Option mOut) : Option mOut := match S with
  | .int i :: .ref r :: rest => match mSh lay r with
    | some (kd, n) => if kd = 1 ∧ mIdx i n = true then f (.long (M.2.1 r i.toNatClampNeg) :: rest) else none
    | none => none
  | _ => none
def mIast (lay : List mShp) (M : mMem) (S : List Value) (f : List Value → mMem → Option mOut) : Option mOut := match S with
  | .int x :: .int i :: .ref r :: rest => match mSh lay r with
    | some (kd, n) => if kd = 0 ∧ mIdx i n = true then f rest (mSetI M r i.toNatClampNeg x) else none
    | none => none
  | _ => none
def mCast (lay : List mShp) (M : mMem) (S : List Value) (f : List Value → mMem → Option mOut) : Option mOut := match S with
  | .int x :: .int i :: .ref r :: rest => match mSh lay r with
    | some (kd, n) => if kd = 2 ∧ mIdx i n = true then f rest (mSetI M r i.toNatClampNeg (vp_nar .char x)) else none
    | none => none
  | _ => none
def mLast (lay : List mShp) (M : mMem) (S : List Value) (f : List Value → mMem → Option mOut) : Option mOut := match S with
  | .long x :: .int i :: .ref r :: rest => match mSh lay r with
    | some (kd, n) => if kd = 1 ∧ mIdx i n = true then f rest (mSetL M r i.toNatClampNeg x) else none
    | none => none
  | _ => none
def mAlen (lay : List mShp) (S : List Value) (f : List Value → Option mOut) : Option mOut := match S with
  | .ref r :: rest => match mSh lay r with
    | some (kd, n) => if kd < 3 ∨ kd = 98 ∨ kd = 97 then f (.int (Int32.ofNat n) :: rest) else none
    | none => none
  | _ => none
def mNewa (at_ : ArrayType) (lay : List mShp) (M : mMem) (S : List Value) (f : List Value → List mShp → mMem → Option mOut) : Option mOut := match S with
  | .int n :: rest => if 0 ≤ n.toInt ∧ n.toInt ≤ 100000 then (match at_ with
    | .int => f (.ref (lay.length + 3) :: rest) (lay ++ [(0, n.toNatClampNeg)]) (mNew M (lay.length + 3))
    | .long => f (.ref (lay.length + 3) :: rest) (lay ++ [(1, n.toNatClampNeg)]) (mNew M (lay.length + 3))
    | .char => f (.ref (lay.length + 3) :: rest) (lay ++ [(2, n.toNatClampNeg)]) (mNew M (lay.length + 3))
    | _ => none) else none
  | _ => none
def mNewO (o cp : Nat) (lay : List mShp) (M : mMem) (S : List Value) (f : List Value → List mShp → mMem → Option mOut) : Option mOut := match mFindR (mCs o) cp with
  | some (ci, _, _, _) => f (.ref (lay.length + 3) :: S) (lay ++ [(ci + 3, (mCl ci).2.2)]) (mNew M (lay.length + 3))
  | none => none
def mCopy (lay : List mShp) (M : mMem) (S : List Value) (f : List Value → mMem → Option mOut) : Option mOut := match S with
  | .int n :: .int dp :: .ref r1 :: .int sp :: .ref r0 :: rest => match mSh lay r0, mSh lay r1 with
    | some (k0, n0), some (k1, n1) => if 0 ≤ n.toInt ∧ 0 ≤ dp.toInt ∧ 0 ≤ sp.toInt ∧ sp.toNatClampNeg + n.toNatClampNeg ≤ n0 ∧ dp.toNatClampNeg + n.toNatClampNeg ≤ n1 ∧ mCat rest ≤ 8 then
        (if k0 = 0 ∧ k1 = 0 then f rest (mCpyI M r0 r1 sp.toNatClampNeg dp.toNatClampNeg n.toNatClampNeg)
         else if k0 = 1 ∧ k1 = 1 then f rest (mCpyL M r0 r1 sp.toNatClampNeg dp.toNatClampNeg n.toNatClampNeg) else none) else none
    | _, _ => none
  | _ => none
def mPrim (p : Nat) (lay : List mShp) (M : mMem) (S : List Value) (f : List Value → mMem → Option mOut) : Option mOut := match p with
  | 0 => match S with
    | .ref (_ + 1) :: rest => if mCat rest ≤ 8 then f rest M else none
    | _ => none
  | 1 => match S with
    | .int y :: .int x :: rest => if mCat rest ≤ 8 then f (.int (if x < y then y else x) :: rest) M else none
    | _ => none
  | 2 => match S with
    | .int y :: .int x :: rest => if mCat rest ≤ 8 then f (.int (if y < x then y else x) :: rest) M else none
    | _ => none
  | 3 => match S with
    | .int x :: rest => if mCat rest ≤ 8 then f (.int (if 0 ≤ x then x else 0 - x) :: rest) M else none
    | _ => none
  | _ => mCopy lay M S f
/-- kind: 0 static, 1 virtual, 2 a constructor -/
def mInv (kd o cp : Nat) (lay : List mShp) (S : List Value) : Option mOut := match mFindR (mMt o) cp with
  | some (_, j, _, _) =>
    if kd = 0 then
      (if (mM j).2.2.2.2.2.2.2 = true ∧ (mM j).2.2.2.2.2.1 ≤ S.length ∧ mCat (S.drop (mM j).2.2.2.2.2.1) ≤ 8 then some (.inr (.inr (j, (S.take (mM j).2.2.2.2.2.1).reverse, S.drop (mM j).2.2.2.2.2.1))) else none)
    else match S.drop (mM j).2.2.2.2.2.1 with
      | .ref (r + 1) :: rest => if (mM j).2.2.2.2.2.2.2 = false ∧ (mM j).2.2.2.2.2.2.1 = decide (kd = 2) ∧ (mM j).2.2.2.2.2.1 ≤ S.length ∧ mCat rest ≤ 8 then match mSh lay (r + 1) with
          | some (c, _) => if c = (mM j).1 + 3 then some (.inr (.inr (j, .ref (r + 1) :: (S.take (mM j).2.2.2.2.2.1).reverse, rest))) else none
          | none => none
        else none
      | _ => none
  | none => none
def mRetI (ret : Option FieldType) (x : Int32) : Bool := match ret with
  | some .int => true
  | some .boolean => decide (x = 0 ∨ x = 1)
  | _ => false
def mStep (k pc : Nat) (i : Instr) (len : Nat) (L : mLs) (S : List Value) (lay : List mShp) (M : mMem) : Option mOut := match i with
  | .aload_n n => mLoadA L n.val fun v => mGo (pc + len) L (v :: S) lay M
  | .aload n => mLoadA L n fun v => mGo (pc + len) L (v :: S) lay M
  | .iload_n n => mLoadI L n.val fun v => mGo (pc + len) L (v :: S) lay M
  | .iload n => mLoadI L n fun v => mGo (pc + len) L (v :: S) lay M
  | .lload_n n => mLoadL L n.val fun v => mGo (pc + len) L (v :: S) lay M
  | .lload n => mLoadL L n fun v => mGo (pc + len) L (v :: S) lay M
  | .istore_n n => mStoreI L n.val S fun L r => mGo (pc + len) L r lay M
  | .istore n => mStoreI L n S fun L r => mGo (pc + len) L r lay M
  | .astore_n n => mStoreA L n.val S fun L r => mGo (pc + len) L r lay M
  | .astore n => mStoreA L n S fun L r => mGo (pc + len) L r lay M
  | .lstore_n n => mStoreL L n.val S fun L r => mGo (pc + len) L r lay M
  | .lstore n => mStoreL L n S fun L r => mGo (pc + len) L r lay M
  | .iconst n => mGo (pc + len) L (.int (Int32.ofInt n) :: S) lay M
  | .bipush n => mGo (pc + len) L (.int (Int32.ofInt n) :: S) lay M
  | .sipush n => mGo (pc + len) L (.int (Int32.ofInt n) :: S) lay M
  | .lconst n => mGo (pc + len) L (.long (Int64.ofNat n.val) :: S) lay M
  | .ldc c => match mFindR (mIn (mM k).1) c with
    | some (0, _, _, z) => mGo (pc + len) L (.int (Int32.ofInt z) :: S) lay M
    | _ => none
  | .ldc_w c => match mFindR (mIn (mM k).1) c with
    | some (0, _, _, z) => mGo (pc + len) L (.int (Int32.ofInt z) :: S) lay M
    | _ => none
  | .ldc2_w c => match mFindR (mIn (mM k).1) c with
    | some (1, _, _, z) => mGo (pc + len) L (.long (Int64.ofInt z) :: S) lay M
    | _ => none
  | .iadd => mOp2 S fun x y r => mGo (pc + len) L (.int (x + y) :: r) lay M
  | .isub => mOp2 S fun x y r => mGo (pc + len) L (.int (x - y) :: r) lay M
  | .imul => mOp2 S fun x y r => mGo (pc + len) L (.int (x * y) :: r) lay M
  | .idiv => mOp2 S fun x y r => if y = 0 then none else mGo (pc + len) L (.int (x / y) :: r) lay M
  | .irem => mOp2 S fun x y r => if y = 0 then none else mGo (pc + len) L (.int (x - x / y * y) :: r) lay M
  | .iand => mOp2 S fun x y r => mGo (pc + len) L (.int (x &&& y) :: r) lay M
  | .ior => mOp2 S fun x y r => mGo (pc + len) L (.int (x ||| y) :: r) lay M
  | .ixor => mOp2 S fun x y r => mGo (pc + len) L (.int (x ^^^ y) :: r) lay M
  | .ishl => mOp2 S fun x y r => mGo (pc + len) L (.int (x <<< (y &&& 31)) :: r) lay M
  | .ishr => mOp2 S fun x y r => mGo (pc + len) L (.int (x >>> (y &&& 31)) :: r) lay M
  | .iushr => mOp2 S fun x y r => mGo (pc + len) L (.int ((x.toUInt32 >>> (y.toUInt32 &&& Int32.toUInt32 31)).toInt32) :: r) lay M
  | .ineg => mOp1 S fun x r => mGo (pc + len) L (.int (-x) :: r) lay M
  | .i2l => mOp1 S fun x r => mGo (pc + len) L (.long x.toInt64 :: r) lay M
  | .i2b => mOp1 S fun x r => mGo (pc + len) L (.int x.toInt8.toInt32 :: r) lay M
  | .i2s => mOp1 S fun x r => mGo (pc + len) L (.int x.toInt16.toInt32 :: r) lay M
  | .l2i => mOpL1 S fun x r => mGo (pc + len) L (.int x.toInt32 :: r) lay M
  | .ladd => mOpL S fun x y r => mGo (pc + len) L (.long (x + y) :: r) lay M
  | .lmul => mOpL S fun x y r => mGo (pc + len) L (.long (x * y) :: r) lay M
  | .lcmp => mOpL S fun x y r => mGo (pc + len) L (.int (lg_cmp x y) :: r) lay M
  | .iinc n d => match L[n]? with
    | some (some (.int x)) => mGo (pc + len) (mSto1 L n (.int (x + Int32.ofInt d))) S lay M
    | _ => none
  | .ifCond c off => mOp1 S fun x r => if mC1 c x = true then mJmp pc off L r lay M else mGo (pc + len) L r lay M
  | .if_icmp c off => mOp2 S fun x y r => if mC2 c x y = true then mJmp pc off L r lay M else mGo (pc + len) L r lay M
  | .goto off => mJmp pc off L S lay M
  | .tableswitch dflt lo hi offs => mOp1 S fun x r => if x.toInt < lo ∨ hi < x.toInt then mJmp pc dflt L r lay M else match offs[(x.toInt - lo).toNat]? with
    | some off => mJmp pc off L r lay M
    | none => none
  | .lookupswitch dflt ps => mOp1 S fun x r => mJmp pc (Op.lookupswitch.offset ps.toList dflt x.toInt) L r lay M
  | .dup => match S with
    | v :: r => if v.category = 1 then mGo (pc + len) L (v :: v :: r) lay M else none
    | _ => none
  | .dup2 => match S with
    | v :: w :: r => if v.category = 1 ∧ w.category = 1 then mGo (pc + len) L (v :: w :: v :: w :: r) lay M else none
    | _ => none
  | .pop => match S with
    | v :: r => if v.category = 1 then mGo (pc + len) L r lay M else none
    | _ => none
  | .getfield c => mGetF (mM k).1 c lay M S fun S => mGo (pc + len) L S lay M
  | .putfield c => mPutF (mM k).2.2.2.2.2.2.1 (mM k).1 c lay M S fun S M => mGo (pc + len) L S lay M
  | .getstatic c => match mFindR (mSf (mM k).1) c with
    | some (w, _, _, _) => mGo (pc + len) L (.ref w :: S) lay M
    | none => none
  | .iaload => mIald lay M S fun S => mGo (pc + len) L S lay M
  | .caload => mCald lay M S fun S => mGo (pc + len) L S lay M
  | .laload => mLald lay M S fun S => mGo (pc + len) L S lay M
  | .iastore => mIast lay M S fun S M => mGo (pc + len) L S lay M
  | .castore => mCast lay M S fun S M => mGo (pc + len) L S lay M
  | .lastore => mLast lay M S fun S M => mGo (pc + len) L S lay M
  | .arraylength => mAlen lay S fun S => mGo (pc + len) L S lay M
  | .newarray t => mNewa t lay M S fun S lay M => mGo (pc + len) L S lay M
  | .new c => mNewO (mM k).1 c lay M S fun S lay M => mGo (pc + len) L S lay M
  | .invokestatic c => match mFindR (mPr (mM k).1) c with
    | some (p, _, _, _) => if p = 0 then none else mPrim p lay M S fun S M => mGo (pc + len) L S lay M
    | none => mInv 0 (mM k).1 c lay S
  | .invokespecial c => match mFindR (mPr (mM k).1) c with
    | some (p, _, _, _) => if p = 0 then mPrim 0 lay M S fun S M => mGo (pc + len) L S lay M else none
    | none => mInv 2 (mM k).1 c lay S
  | .invokevirtual c => mInv 1 (mM k).1 c lay S
  | .ireturn => match S with
    | [.int x] => if mRetI (mM k).2.2.2.2.1 x = true then some (.inr (.inl (some (.int x)))) else none
    | _ => none
  | .lreturn => match S with
    | [.long x] => if (mM k).2.2.2.2.1 = some .long then some (.inr (.inl (some (.long x)))) else none
    | _ => none
  | .areturn => match S with
    | [.ref x] => if (mM k).2.2.2.2.1 = some (.array .int) then some (.inr (.inl (some (.ref x)))) else none
    | _ => none
  | .return_ => match S with
    | [] => if (mM k).2.2.2.2.1 = none then some (.inr (.inl none)) else none
    | _ => none
  | _ => none
def mRun : Nat → Nat → Nat → Nat → mLs → List Value → List mShp → mMem → Option (Option Value × List mShp × mMem)
  | 0, _, _, _, _, _, _, _ => none
  | n + 1, d, k, pc, L, S, lay, M => match mFetch k pc with
    | none => none
    | some (i, len) => match mStep k pc i len L S lay M with
      | none => none
      | some (.inl (pc', L', S', lay', M')) => mRun n d k pc' L' S' lay' M'
      | some (.inr (.inl v)) => some (v, lay, M)
      | some (.inr (.inr (j, as, rest))) => match d with
        | 0 => none
        | d' + 1 => if (mArgs as).length ≤ (mM j).2.2.2.1 then match mRun n d' j 0 (mEntry (mM j).2.2.2.1 as) [] lay M with
            | some (v, lay', M') => mRun n (d' + 1) k (pc + 3) L (v.toList ++ rest) lay' M'
            | none => none
          else none
