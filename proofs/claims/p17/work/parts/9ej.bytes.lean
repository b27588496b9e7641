/-! tokens: bytes and letters -/
theorem b255 {b : Int32} (h : -128 ≤ b.toInt) (h' : b.toInt ≤ 127) : (0 ≤ b.toInt ∧ (b &&& 255).toInt = b.toInt) ∨ (b.toInt < 0 ∧ 128 ≤ (b &&& 255).toInt) := by
  have z : ∀ k : Fin 256, (0 ≤ (Int32.ofInt ((k.val : Int) - 128)).toInt ∧ (Int32.ofInt ((k.val : Int) - 128) &&& 255).toInt = (Int32.ofInt ((k.val : Int) - 128)).toInt) ∨ ((Int32.ofInt ((k.val : Int) - 128)).toInt < 0 ∧ 128 ≤ (Int32.ofInt ((k.val : Int) - 128) &&& 255).toInt) := by decide +kernel
  have e : b = Int32.ofInt ((((b.toInt + 128).toNat : Nat) : Int) - 128) := by
    have : (((b.toInt + 128).toNat : Nat) : Int) - 128 = b.toInt := by omega
    rw [this, Int32.ofInt_toInt]
  have := z ⟨(b.toInt + 128).toNat, by omega⟩
  rw [← e] at this
  exact this
section C1
variable {P : Nat → Nat → Nat} {F F' : Nat → Nat → Int32} {A A' : Nat → Nat → Nat → Int32} {J J' : Nat → Nat → Nat → Int64} {Fm Fm' : Nat → Int32} {Am Am' : Nat → Nat → Int32} {Jm Jm' : Nat → Nat → Int64} {b x : Int32}
theorem i_48 : (48 : Int32).toInt = 48 ∧ (57 : Int32).toInt = 57 ∧ (97 : Int32).toInt = 97 ∧ (122 : Int32).toInt = 122 ∧ (9 : Int32).toInt = 9 ∧ (10 : Int32).toInt = 10 ∧ (13 : Int32).toInt = 13 ∧ (32 : Int32).toInt = 32 := by decide
theorem cl_l1 (h : 97 ≤ b.toInt ∧ b.toInt ≤ 122) : e_Scanner_isLetter P F A J b = some 1 := by
  unfold e_Scanner_isLetter
  rw [i_nlt.mpr (by rw [i_48.2.2.1]; exact h.1), cond_false, i_ngt.mpr (by rw [i_48.2.2.2.1]; exact h.2), cond_false]
theorem cl_l0 (h : ¬ (97 ≤ b.toInt ∧ b.toInt ≤ 122)) : e_Scanner_isLetter P F A J b = some 0 := by
  unfold e_Scanner_isLetter
  by_cases c : b.toInt < 97
  · rw [i_lt.mpr (by rw [i_48.2.2.1]; exact c), cond_true]
  · rw [i_nlt.mpr (by rw [i_48.2.2.1]; omega), cond_false, i_gt.mpr (by rw [i_48.2.2.2.1]; omega), cond_true]
theorem dl_l1 (h : 97 ≤ b.toInt ∧ b.toInt ≤ 122) : d_isLetter b = some 1 := by
  unfold d_isLetter
  rw [i_nlt.mpr (by rw [i_48.2.2.1]; exact h.1), cond_false, i_ngt.mpr (by rw [i_48.2.2.2.1]; exact h.2), cond_false]
theorem dl_l0 (h : ¬ (97 ≤ b.toInt ∧ b.toInt ≤ 122)) : d_isLetter b = some 0 := by
  unfold d_isLetter
  by_cases c : b.toInt < 97
  · rw [i_lt.mpr (by rw [i_48.2.2.1]; exact c), cond_true]
  · rw [i_nlt.mpr (by rw [i_48.2.2.1]; omega), cond_false, i_gt.mpr (by rw [i_48.2.2.2.1]; omega), cond_true]
theorem cl_d1 (h : 48 ≤ b.toInt ∧ b.toInt ≤ 57) : e_Scanner_isDigit P F A J b = some 1 := by
  unfold e_Scanner_isDigit
  rw [i_nlt.mpr (by rw [i_48.1]; exact h.1), cond_false, i_ngt.mpr (by rw [i_48.2.1]; exact h.2), cond_false]
theorem cl_d0 (h : ¬ (48 ≤ b.toInt ∧ b.toInt ≤ 57)) : e_Scanner_isDigit P F A J b = some 0 := by
  unfold e_Scanner_isDigit
  by_cases c : b.toInt < 48
  · rw [i_lt.mpr (by rw [i_48.1]; exact c), cond_true]
  · rw [i_nlt.mpr (by rw [i_48.1]; omega), cond_false, i_gt.mpr (by rw [i_48.2.1]; omega), cond_true]
theorem dl_d1 (h : 48 ≤ b.toInt ∧ b.toInt ≤ 57) : d_isDigit b = some 1 := by
  unfold d_isDigit
  rw [i_nlt.mpr (by rw [i_48.1]; exact h.1), cond_false, i_ngt.mpr (by rw [i_48.2.1]; exact h.2), cond_false]
theorem dl_d0 (h : ¬ (48 ≤ b.toInt ∧ b.toInt ≤ 57)) : d_isDigit b = some 0 := by
  unfold d_isDigit
  by_cases c : b.toInt < 48
  · rw [i_lt.mpr (by rw [i_48.1]; exact c), cond_true]
  · rw [i_nlt.mpr (by rw [i_48.1]; omega), cond_false, i_gt.mpr (by rw [i_48.2.1]; omega), cond_true]
theorem cl_b1 (h : b.toInt = 9 ∨ b.toInt = 10 ∨ b.toInt = 13 ∨ b.toInt = 32) : e_Scanner_isBlank P F A J b = some 1 := by
  obtain ⟨-, -, -, -, e9, e10, e13, e32⟩ := i_48
  unfold e_Scanner_isBlank
  by_cases c9 : b.toInt = 9
  · rw [i_eq.mpr (by rw [e9]; exact c9), cond_true]
  · rw [i_neq.mpr (by rw [e9]; exact c9), cond_false]
    by_cases c10 : b.toInt = 10
    · rw [i_eq.mpr (by rw [e10]; exact c10), cond_true]
    · rw [i_neq.mpr (by rw [e10]; exact c10), cond_false]
      by_cases c13 : b.toInt = 13
      · rw [i_eq.mpr (by rw [e13]; exact c13), cond_true]
      · rw [i_neq.mpr (by rw [e13]; exact c13), cond_false, i_nne.mpr (by rw [e32]; omega), cond_false]
theorem cl_b0 (h : ¬ (b.toInt = 9 ∨ b.toInt = 10 ∨ b.toInt = 13 ∨ b.toInt = 32)) : e_Scanner_isBlank P F A J b = some 0 := by
  obtain ⟨-, -, -, -, e9, e10, e13, e32⟩ := i_48
  unfold e_Scanner_isBlank
  rw [i_neq.mpr (by rw [e9]; omega), cond_false, i_neq.mpr (by rw [e10]; omega), cond_false, i_neq.mpr (by rw [e13]; omega), cond_false, i_ne.mpr (by rw [e32]; omega), cond_true]
theorem byte_in (h0 : 0 ≤ x.toInt) (h1 : x.toInt < (Fm 4).toInt) (h2 : (Fm 4).toInt ≤ 2000) : d_byteAt Fm Am Jm x = some (Am 2 x.toInt.toNat &&& 255) := by
  unfold d_byteAt
  rw [i_nge.mpr h1, cond_false, m_ld_in h0 (by omega), Option.bind_some]
theorem byte_out (h1 : (Fm 4).toInt ≤ x.toInt) : d_byteAt Fm Am Jm x = some 0 := by
  unfold d_byteAt
  rw [i_ge.mpr h1, cond_true]
/-- a letter more: eight bits -/
theorem sh8 {y : Int64} {v : Int32} (h0 : 0 ≤ y.toInt) (h1 : 2 * (256 * y.toInt + 256) ≤ 18446744073709551616) (v0 : 0 ≤ v.toInt) (v1 : v.toInt < 256) : ((y <<< ((8 : Int32).toInt64 &&& 63)) ||| v.toInt64).toInt = 256 * y.toInt + v.toInt := by
  have e8 : ((8 : Int32).toInt64 &&& 63) = (8 : Int64) := by decide
  rw [e8]
  have yn : (y.toBitVec.toNat : Int) = y.toInt := by
    have q : y.toInt = y.toBitVec.toInt := rfl
    rw [BitVec.toInt_eq_toNat_cond] at q
    split at q
    · exact q.symm
    · next c =>
      have := y.toBitVec.isLt
      omega
  have vn : (v.toInt64.toBitVec.toNat : Int) = v.toInt := by
    have a : v.toInt64.toInt = v.toInt := Int32.toInt_toInt64 v
    have b : v.toInt64.toInt = v.toInt64.toBitVec.toInt := rfl
    rw [b, BitVec.toInt_eq_toNat_cond] at a
    split at a
    · exact a
    · next c =>
      have := v.toInt64.toBitVec.isLt
      omega
  have sh : (y <<< (8 : Int64)).toBitVec = y.toBitVec <<< 8 := by
    rw [Int64.toBitVec_shiftLeft]
    rfl
  have k : ((y <<< (8 : Int64)) ||| v.toInt64).toBitVec.toNat = 256 * y.toBitVec.toNat + v.toInt64.toBitVec.toNat := by
    rw [Int64.toBitVec_or, sh, BitVec.toNat_or, BitVec.toNat_shiftLeft, Nat.mod_eq_of_lt (by rw [Nat.shiftLeft_eq]; omega), ← Nat.shiftLeft_add_eq_or_of_lt (by omega), Nat.shiftLeft_eq]
    omega
  have r : ((y <<< (8 : Int64)) ||| v.toInt64).toInt = ((y <<< (8 : Int64)) ||| v.toInt64).toBitVec.toInt := rfl
  rw [r, BitVec.toInt_eq_toNat_cond, if_pos (by omega), k]
  omega
theorem ap27 {y : Int64} {v : Int32} (h0 : 0 ≤ y.toInt) (h1 : y.toInt < 1000000000000) (v0 : 97 ≤ v.toInt) (v1 : v.toInt ≤ 122) : ∃ z, d_appends y v = some z ∧ z.toInt = 27 * y.toInt + (v.toInt - 96) := by
  unfold d_appends
  rw [i_ne.mpr (by rw [i_0]; omega), cond_true]
  refine ⟨_, rfl, ?_⟩
  have e97 := i_48.2.2.1
  have s1 := i_sub (x := v) (y := 97) (by omega) (by omega)
  have s2 := i_add (x := v - 97) (y := 1) (by rw [i_1]; omega) (by rw [i_1]; omega)
  have t : (((v - 97) + 1).toInt64).toInt = v.toInt - 96 := by rw [Int32.toInt_toInt64, s2, s1, i_1, e97]; omega
  have l27 : (27 : Int64).toInt = 27 := by decide
  rw [Int64.toInt_add, Int64.toInt_mul, t, l27, Int.bmod_eq_of_le (n := 27 * y.toInt) (by omega) (by omega)]
  exact Int.bmod_eq_of_le (by omega) (by omega)
/-- n letters -/
def TNl (n : Nat) (x y : Int) : Prop := TNi x y ∧ 2 * x < 256 ^ n ∧ y < 27 ^ n ∧ (n = 0 ∨ 256 ^ (n - 1) ≤ x)
theorem TNl.nil : TNl 0 0 0 := ⟨.nil, by decide, by decide, .inl rfl⟩
theorem TNl.snoc {n : Nat} {x y c : Int} (h : TNl n x y) (c0 : 97 ≤ c) (c1 : c ≤ 122) : TNl (n + 1) (256 * x + c) (27 * y + (c - 96)) := by
  obtain ⟨a, b, d, e⟩ := h
  have p := a.pos
  refine ⟨a.snoc c0 c1, ?_, ?_, .inr ?_⟩
  · rw [Int.pow_succ]; omega
  · rw [Int.pow_succ]; omega
  · show 256 ^ n ≤ 256 * x + c
    rcases e with rfl | e
    · simp only [Int.pow_zero]; omega
    · cases n with
      | zero => simp only [Int.pow_zero]; omega
      | succ n =>
        rw [Int.pow_succ]
        have e : (256 : Int) ^ n ≤ x := e
        omega
end C1
