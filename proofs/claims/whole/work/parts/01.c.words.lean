/-! ===== tables of my small machine, by program (wip/whole/gen01.py): words of the Statement by their places ===== -/
theorem mem1 {i : Nat} {w : Jvm.Cond} (h0 : tables_1_1[i]? = some w) : w ∈ tables_1 := by
  have h := List.mem_of_getElem? h0
  exact List.mem_append_left _ h
theorem mem2 {i : Nat} {w : Jvm.Cond} (h0 : tables_1_2[i]? = some w) : w ∈ tables_1 := by
  have h := List.mem_of_getElem? h0
  exact List.mem_append_right _ (List.mem_append_left _ h)
theorem mem3 {i : Nat} {w : Jvm.Cond} (h0 : tables_1_3[i]? = some w) : w ∈ tables_1 := by
  have h := List.mem_of_getElem? h0
  exact List.mem_append_right _ (List.mem_append_right _ (List.mem_append_left _ h))
theorem mem4 {i : Nat} {w : Jvm.Cond} (h0 : tables_1_4[i]? = some w) : w ∈ tables_1 := by
  have h := List.mem_of_getElem? h0
  exact List.mem_append_right _ (List.mem_append_right _ (List.mem_append_right _ (List.mem_append_left _ h)))
theorem mem5 {i : Nat} {w : Jvm.Cond} (h0 : tables_1_5[i]? = some w) : w ∈ tables_1 := by
  have h := List.mem_of_getElem? h0
  exact List.mem_append_right _ (List.mem_append_right _ (List.mem_append_right _ (List.mem_append_right _ (List.mem_append_left _ h))))
theorem mem6 {i : Nat} {w : Jvm.Cond} (h0 : tables_1_6[i]? = some w) : w ∈ tables_1 := by
  have h := List.mem_of_getElem? h0
  exact List.mem_append_right _ (List.mem_append_right _ (List.mem_append_right _ (List.mem_append_right _ (List.mem_append_right _ (h)))))
def mWW : List Jvm.Cond := lw_tbl.filter goodWord
theorem mww_good : ∀ w ∈ mWW, goodWord w = true := fun _ h => (List.mem_filter.mp h).2
theorem mww_tbl : ∀ w ∈ mWW, w ∈ lw_tbl := fun _ h => (List.mem_filter.mp h).1
theorem mW {w : Jvm.Cond} (h : w ∈ tables_1) (hg : goodWord w = true) : w ∈ mWW := List.mem_filter.mpr ⟨List.mem_append_right _ h, hg⟩
theorem mWp {w : Jvm.Cond} {i : Nat} (h : (k2_sels lw_privs)[i]? = some w) (hg : goodWord w = true) : w ∈ mWW := List.mem_filter.mpr ⟨List.mem_append_left _ (List.mem_of_getElem? h), hg⟩
theorem mCX0 : ∀ w ∈ wsX00, w ∈ mWW := List.forall_mem_cons.mpr ⟨mW (mem1 (i := 195) rfl) rfl, List.forall_mem_cons.mpr ⟨mW (mem1 (i := 197) rfl) rfl, List.forall_mem_cons.mpr ⟨mW (mem1 (i := 199) rfl) rfl, List.forall_mem_cons.mpr ⟨mW (mem1 (i := 201) rfl) rfl, List.forall_mem_cons.mpr ⟨mW (mem1 (i := 203) rfl) rfl, List.forall_mem_cons.mpr ⟨mW (mem1 (i := 205) rfl) rfl, (fun _ h => absurd h List.not_mem_nil)⟩⟩⟩⟩⟩⟩
theorem mCX1 : ∀ w ∈ wsX10, w ∈ mWW := List.forall_mem_cons.mpr ⟨mW (mem2 (i := 22) rfl) rfl, List.forall_mem_cons.mpr ⟨mW (mem2 (i := 24) rfl) rfl, List.forall_mem_cons.mpr ⟨mW (mem2 (i := 26) rfl) rfl, List.forall_mem_cons.mpr ⟨mW (mem2 (i := 28) rfl) rfl, List.forall_mem_cons.mpr ⟨mW (mem2 (i := 30) rfl) rfl, (fun _ h => absurd h List.not_mem_nil)⟩⟩⟩⟩⟩
theorem mCX2 : ∀ w ∈ wsX20, w ∈ mWW := List.forall_mem_cons.mpr ⟨mW (mem1 (i := 145) rfl) rfl, List.forall_mem_cons.mpr ⟨mW (mem1 (i := 147) rfl) rfl, List.forall_mem_cons.mpr ⟨mW (mem1 (i := 149) rfl) rfl, (fun _ h => absurd h List.not_mem_nil)⟩⟩⟩
theorem mCX3 : ∀ w ∈ wsX30, w ∈ mWW := List.forall_mem_cons.mpr ⟨mW (mem1 (i := 87) rfl) rfl, List.forall_mem_cons.mpr ⟨mW (mem1 (i := 89) rfl) rfl, List.forall_mem_cons.mpr ⟨mW (mem1 (i := 91) rfl) rfl, (fun _ h => absurd h List.not_mem_nil)⟩⟩⟩
theorem mCX4 : ∀ w ∈ wsX40, w ∈ mWW := List.forall_mem_cons.mpr ⟨mW (mem1 (i := 113) rfl) rfl, List.forall_mem_cons.mpr ⟨mW (mem1 (i := 115) rfl) rfl, List.forall_mem_cons.mpr ⟨mW (mem1 (i := 117) rfl) rfl, List.forall_mem_cons.mpr ⟨mW (mem1 (i := 119) rfl) rfl, List.forall_mem_cons.mpr ⟨mW (mem1 (i := 121) rfl) rfl, List.forall_mem_cons.mpr ⟨mW (mem1 (i := 123) rfl) rfl, List.forall_mem_cons.mpr ⟨mW (mem1 (i := 125) rfl) rfl, List.forall_mem_cons.mpr ⟨mW (mem1 (i := 127) rfl) rfl, List.forall_mem_cons.mpr ⟨mW (mem1 (i := 129) rfl) rfl, List.forall_mem_cons.mpr ⟨mW (mem1 (i := 131) rfl) rfl, (fun _ h => absurd h List.not_mem_nil)⟩⟩⟩⟩⟩⟩⟩⟩⟩⟩
theorem mCX5 : ∀ w ∈ wsX50, w ∈ mWW := List.forall_mem_cons.mpr ⟨mW (mem2 (i := 2) rfl) rfl, List.forall_mem_cons.mpr ⟨mW (mem2 (i := 4) rfl) rfl, List.forall_mem_cons.mpr ⟨mW (mem2 (i := 6) rfl) rfl, (fun _ h => absurd h List.not_mem_nil)⟩⟩⟩
theorem mCX6 : ∀ w ∈ wsX60, w ∈ mWW := List.forall_mem_cons.mpr ⟨mW (mem1 (i := 222) rfl) rfl, List.forall_mem_cons.mpr ⟨mW (mem1 (i := 224) rfl) rfl, List.forall_mem_cons.mpr ⟨mW (mem1 (i := 226) rfl) rfl, List.forall_mem_cons.mpr ⟨mW (mem1 (i := 228) rfl) rfl, List.forall_mem_cons.mpr ⟨mW (mem1 (i := 230) rfl) rfl, (fun _ h => absurd h List.not_mem_nil)⟩⟩⟩⟩⟩
theorem mCX7 : ∀ w ∈ wsX70, w ∈ mWW := List.forall_mem_cons.mpr ⟨mW (mem1 (i := 53) rfl) rfl, List.forall_mem_cons.mpr ⟨mW (mem1 (i := 55) rfl) rfl, List.forall_mem_cons.mpr ⟨mW (mem1 (i := 57) rfl) rfl, List.forall_mem_cons.mpr ⟨mW (mem1 (i := 59) rfl) rfl, List.forall_mem_cons.mpr ⟨mW (mem1 (i := 61) rfl) rfl, List.forall_mem_cons.mpr ⟨mW (mem1 (i := 63) rfl) rfl, List.forall_mem_cons.mpr ⟨mW (mem1 (i := 65) rfl) rfl, List.forall_mem_cons.mpr ⟨mW (mem1 (i := 67) rfl) rfl, List.forall_mem_cons.mpr ⟨mW (mem1 (i := 69) rfl) rfl, List.forall_mem_cons.mpr ⟨mW (mem1 (i := 71) rfl) rfl, List.forall_mem_cons.mpr ⟨mW (mem1 (i := 73) rfl) rfl, (fun _ h => absurd h List.not_mem_nil)⟩⟩⟩⟩⟩⟩⟩⟩⟩⟩⟩
theorem mCX8 : ∀ w ∈ wsX80, w ∈ mWW := List.forall_mem_cons.mpr ⟨mW (mem1 (i := 166) rfl) rfl, List.forall_mem_cons.mpr ⟨mW (mem1 (i := 168) rfl) rfl, List.forall_mem_cons.mpr ⟨mW (mem1 (i := 170) rfl) rfl, List.forall_mem_cons.mpr ⟨mW (mem1 (i := 172) rfl) rfl, List.forall_mem_cons.mpr ⟨mW (mem1 (i := 174) rfl) rfl, (fun _ h => absurd h List.not_mem_nil)⟩⟩⟩⟩⟩
theorem mCX9 : ∀ w ∈ wsX90, w ∈ mWW := List.forall_mem_cons.mpr ⟨mW (mem2 (i := 48) rfl) rfl, List.forall_mem_cons.mpr ⟨mW (mem2 (i := 50) rfl) rfl, List.forall_mem_cons.mpr ⟨mW (mem2 (i := 52) rfl) rfl, List.forall_mem_cons.mpr ⟨mW (mem2 (i := 54) rfl) rfl, List.forall_mem_cons.mpr ⟨mW (mem2 (i := 56) rfl) rfl, List.forall_mem_cons.mpr ⟨mW (mem2 (i := 58) rfl) rfl, List.forall_mem_cons.mpr ⟨mW (mem2 (i := 60) rfl) rfl, List.forall_mem_cons.mpr ⟨mW (mem2 (i := 62) rfl) rfl, List.forall_mem_cons.mpr ⟨mW (mem2 (i := 64) rfl) rfl, List.forall_mem_cons.mpr ⟨mW (mem2 (i := 66) rfl) rfl, List.forall_mem_cons.mpr ⟨mW (mem2 (i := 68) rfl) rfl, List.forall_mem_cons.mpr ⟨mW (mem2 (i := 70) rfl) rfl, List.forall_mem_cons.mpr ⟨mW (mem2 (i := 72) rfl) rfl, List.forall_mem_cons.mpr ⟨mW (mem2 (i := 74) rfl) rfl, List.forall_mem_cons.mpr ⟨mW (mem2 (i := 76) rfl) rfl, (fun _ h => absurd h List.not_mem_nil)⟩⟩⟩⟩⟩⟩⟩⟩⟩⟩⟩⟩⟩⟩⟩
theorem mCX10 : ∀ w ∈ wsX100, w ∈ mWW := List.forall_mem_cons.mpr ⟨mW (mem5 (i := 3) rfl) rfl, List.forall_mem_cons.mpr ⟨mW (mem5 (i := 5) rfl) rfl, List.forall_mem_cons.mpr ⟨mW (mem5 (i := 7) rfl) rfl, List.forall_mem_cons.mpr ⟨mW (mem5 (i := 9) rfl) rfl, List.forall_mem_cons.mpr ⟨mW (mem5 (i := 11) rfl) rfl, List.forall_mem_cons.mpr ⟨mW (mem5 (i := 13) rfl) rfl, List.forall_mem_cons.mpr ⟨mW (mem5 (i := 15) rfl) rfl, List.forall_mem_cons.mpr ⟨mW (mem5 (i := 17) rfl) rfl, List.forall_mem_cons.mpr ⟨mW (mem5 (i := 19) rfl) rfl, List.forall_mem_cons.mpr ⟨mW (mem5 (i := 21) rfl) rfl, List.forall_mem_cons.mpr ⟨mW (mem5 (i := 23) rfl) rfl, List.forall_mem_cons.mpr ⟨mW (mem5 (i := 25) rfl) rfl, List.forall_mem_cons.mpr ⟨mW (mem5 (i := 27) rfl) rfl, List.forall_mem_cons.mpr ⟨mW (mem5 (i := 29) rfl) rfl, List.forall_mem_cons.mpr ⟨mW (mem5 (i := 31) rfl) rfl, List.forall_mem_cons.mpr ⟨mW (mem5 (i := 33) rfl) rfl, List.forall_mem_cons.mpr ⟨mW (mem5 (i := 35) rfl) rfl, List.forall_mem_cons.mpr ⟨mW (mem5 (i := 37) rfl) rfl, List.forall_mem_cons.mpr ⟨mW (mem5 (i := 39) rfl) rfl, List.forall_mem_cons.mpr ⟨mW (mem5 (i := 41) rfl) rfl, List.forall_mem_cons.mpr ⟨mW (mem5 (i := 43) rfl) rfl, List.forall_mem_cons.mpr ⟨mW (mem5 (i := 45) rfl) rfl, List.forall_mem_cons.mpr ⟨mW (mem5 (i := 47) rfl) rfl, List.forall_mem_cons.mpr ⟨mW (mem5 (i := 49) rfl) rfl, List.forall_mem_cons.mpr ⟨mW (mem5 (i := 51) rfl) rfl, List.forall_mem_cons.mpr ⟨mW (mem5 (i := 53) rfl) rfl, List.forall_mem_cons.mpr ⟨mW (mem5 (i := 55) rfl) rfl, List.forall_mem_cons.mpr ⟨mW (mem5 (i := 57) rfl) rfl, List.forall_mem_cons.mpr ⟨mW (mem5 (i := 59) rfl) rfl, List.forall_mem_cons.mpr ⟨mW (mem5 (i := 61) rfl) rfl, List.forall_mem_cons.mpr ⟨mW (mem5 (i := 63) rfl) rfl, List.forall_mem_cons.mpr ⟨mW (mem5 (i := 65) rfl) rfl, List.forall_mem_cons.mpr ⟨mW (mem5 (i := 67) rfl) rfl, List.forall_mem_cons.mpr ⟨mW (mem5 (i := 69) rfl) rfl, List.forall_mem_cons.mpr ⟨mW (mem5 (i := 71) rfl) rfl, List.forall_mem_cons.mpr ⟨mW (mem5 (i := 73) rfl) rfl, List.forall_mem_cons.mpr ⟨mW (mem5 (i := 75) rfl) rfl, List.forall_mem_cons.mpr ⟨mW (mem5 (i := 77) rfl) rfl, List.forall_mem_cons.mpr ⟨mW (mem5 (i := 79) rfl) rfl, List.forall_mem_cons.mpr ⟨mW (mem5 (i := 81) rfl) rfl, List.forall_mem_cons.mpr ⟨mW (mem5 (i := 83) rfl) rfl, List.forall_mem_cons.mpr ⟨mW (mem5 (i := 85) rfl) rfl, List.forall_mem_cons.mpr ⟨mW (mem5 (i := 87) rfl) rfl, List.forall_mem_cons.mpr ⟨mW (mem5 (i := 89) rfl) rfl, (fun _ h => absurd h List.not_mem_nil)⟩⟩⟩⟩⟩⟩⟩⟩⟩⟩⟩⟩⟩⟩⟩⟩⟩⟩⟩⟩⟩⟩⟩⟩⟩⟩⟩⟩⟩⟩⟩⟩⟩⟩⟩⟩⟩⟩⟩⟩⟩⟩⟩⟩
def mCl (c : Nat) : String × u_T × Nat := vwCl.getD c ("", TX0, 0)
def mTy (c : Nat) : Nat → FieldType := match c with
  | 0 => tyX0
  | 1 => tyX1
  | 2 => tyX2
  | 3 => tyX3
  | 4 => tyX4
  | 5 => tyX5
  | 6 => tyX6
  | 7 => tyX7
  | 8 => tyX8
  | 9 => tyX9
  | _ => tyX10
theorem mCl_at {c : Nat} (h : c < 11) : vwCl[c]? = some (mCl c) := by
  rcases (by omega : c = 0 ∨ c = 1 ∨ c = 2 ∨ c = 3 ∨ c = 4 ∨ c = 5 ∨ c = 6 ∨ c = 7 ∨ c = 8 ∨ c = 9 ∨ c = 10) with rfl | rfl | rfl | rfl | rfl | rfl | rfl | rfl | rfl | rfl | rfl <;> rfl
theorem mCl_ws {c : Nat} (h : c < 11) : ∀ w ∈ u_ws (mCl c).1 (mCl c).2.1 (mCl c).2.2, w ∈ mWW := by
  rcases (by omega : c = 0 ∨ c = 1 ∨ c = 2 ∨ c = 3 ∨ c = 4 ∨ c = 5 ∨ c = 6 ∨ c = 7 ∨ c = 8 ∨ c = 9 ∨ c = 10) with rfl | rfl | rfl | rfl | rfl | rfl | rfl | rfl | rfl | rfl | rfl
  · exact mCX0
  · exact mCX1
  · exact mCX2
  · exact mCX3
  · exact mCX4
  · exact mCX5
  · exact mCX6
  · exact mCX7
  · exact mCX8
  · exact mCX9
  · exact mCX10
theorem mCl_ty {c : Nat} (h : c < 11) : ∀ k, k < (mCl c).2.2 → parseFieldDescriptor ((mCl c).2.1 k).2.2.1 = some (mTy c k) := by
  rcases (by omega : c = 0 ∨ c = 1 ∨ c = 2 ∨ c = 3 ∨ c = 4 ∨ c = 5 ∨ c = 6 ∨ c = 7 ∨ c = 8 ∨ c = 9 ∨ c = 10) with rfl | rfl | rfl | rfl | rfl | rfl | rfl | rfl | rfl | rfl | rfl
  · exact tyX0_ok
  · exact tyX1_ok
  · exact tyX2_ok
  · exact tyX3_ok
  · exact tyX4_ok
  · exact tyX5_ok
  · exact tyX6_ok
  · exact tyX7_ok
  · exact tyX8_ok
  · exact tyX9_ok
  · exact tyX10_ok
theorem mCl_nm {c : Nat} (h : c < 11) : ∀ a, a < (mCl c).2.2 → ∀ b, b < (mCl c).2.2 → a ≠ b → ((mCl c).2.1 a).2.1 ≠ ((mCl c).2.1 b).2.1 := by
  rcases (by omega : c = 0 ∨ c = 1 ∨ c = 2 ∨ c = 3 ∨ c = 4 ∨ c = 5 ∨ c = 6 ∨ c = 7 ∨ c = 8 ∨ c = 9 ∨ c = 10) with rfl | rfl | rfl | rfl | rfl | rfl | rfl | rfl | rfl | rfl | rfl
  · exact nmX0
  · exact nmX1
  · exact nmX2
  · exact nmX3
  · exact nmX4
  · exact nmX5
  · exact nmX6
  · exact nmX7
  · exact nmX8
  · exact nmX9
  · exact nmX10
def mOwn (o : Nat) : String := match o with
  | 0 => RX0
  | 1 => RX1
  | 2 => RX2
  | 3 => RX3
  | 4 => RX4
  | 5 => RX5
  | 6 => RX6
  | 7 => RX7
  | 8 => RX8
  | 9 => RX9
  | 10 => RX10
  | _ => RJ6
