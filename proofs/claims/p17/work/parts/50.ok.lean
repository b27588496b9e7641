/-! answers: a run that comes to an end, and what holds of it -/
def ok {α : Type} (o : Option α) (Q : α → Prop) : Prop := ∃ a, o = some a ∧ Q a
section OK
variable {α β : Type} {Q : β → Prop}
theorem ok_some {b : β} (h : Q b) : ok (some b) Q := ⟨b, rfl, h⟩
theorem ok_bind {o : Option α} {f : α → Option β} (h : ok o fun a => ok (f a) Q) : ok (o.bind f) Q := by
  obtain ⟨a, rfl, h⟩ := h
  exact h
theorem ok_call {o : Option α} {f : α → Option β} {R : α → Prop} (h : ok o R) (k : ∀ a, R a → ok (f a) Q) : ok (o.bind f) Q := by
  obtain ⟨a, rfl, h⟩ := h
  exact k a h
theorem ok_cond {b : Bool} {x y : Option β} (h1 : b = true → ok x Q) (h2 : b = false → ok y Q) : ok (cond b x y) Q := by
  cases b with
  | true => exact h1 rfl
  | false => exact h2 rfl
theorem ok_mono {o : Option β} {R : β → Prop} (h : ok o R) (k : ∀ a, R a → Q a) : ok o Q := by
  obtain ⟨a, h1, h2⟩ := h
  exact ⟨a, h1, k a h2⟩
end OK
/-! comparisons of ints by their values -/
theorem i_lt {x y : Int32} : g_cnd .lt x y = true ↔ x.toInt < y.toInt := decide_eq_true_iff.trans Int32.lt_iff_toInt_lt
theorem i_nlt {x y : Int32} : g_cnd .lt x y = false ↔ y.toInt ≤ x.toInt := by rw [← Bool.not_eq_true, i_lt]; omega
theorem i_gt {x y : Int32} : g_cnd .gt x y = true ↔ y.toInt < x.toInt := decide_eq_true_iff.trans Int32.lt_iff_toInt_lt
theorem i_ngt {x y : Int32} : g_cnd .gt x y = false ↔ x.toInt ≤ y.toInt := by rw [← Bool.not_eq_true, i_gt]; omega
theorem i_le {x y : Int32} : g_cnd .le x y = true ↔ x.toInt ≤ y.toInt := decide_eq_true_iff.trans Int32.le_iff_toInt_le
theorem i_nle {x y : Int32} : g_cnd .le x y = false ↔ y.toInt < x.toInt := by rw [← Bool.not_eq_true, i_le]; omega
theorem i_ge {x y : Int32} : g_cnd .ge x y = true ↔ y.toInt ≤ x.toInt := decide_eq_true_iff.trans Int32.le_iff_toInt_le
theorem i_nge {x y : Int32} : g_cnd .ge x y = false ↔ x.toInt < y.toInt := by rw [← Bool.not_eq_true, i_ge]; omega
theorem i_eq {x y : Int32} : g_cnd .eq x y = true ↔ x.toInt = y.toInt := decide_eq_true_iff.trans Int32.toInt_inj.symm
theorem i_neq {x y : Int32} : g_cnd .eq x y = false ↔ x.toInt ≠ y.toInt := by rw [← Bool.not_eq_true, i_eq]
theorem i_ne {x y : Int32} : g_cnd .ne x y = true ↔ x.toInt ≠ y.toInt := decide_eq_true_iff.trans (not_congr Int32.toInt_inj.symm)
theorem i_nne {x y : Int32} : g_cnd .ne x y = false ↔ x.toInt = y.toInt := by rw [← Bool.not_eq_true, i_ne]; omega
theorem i_dec {x y : Int32} : decide (x = y) = true ↔ x.toInt = y.toInt := decide_eq_true_iff.trans Int32.toInt_inj.symm
theorem i_ndec {x y : Int32} : decide (x = y) = false ↔ x.toInt ≠ y.toInt := by rw [← Bool.not_eq_true, i_dec]
theorem i_rng (x : Int32) : -2147483648 ≤ x.toInt ∧ x.toInt < 2147483648 := ⟨Int32.le_toInt x, Int32.toInt_lt x⟩
theorem i_add {x y : Int32} (h1 : -2147483648 ≤ x.toInt + y.toInt) (h2 : x.toInt + y.toInt < 2147483648) : (x + y).toInt = x.toInt + y.toInt := by
  rw [Int32.toInt_add]
  exact Int.bmod_eq_of_le (by omega) (by omega)
theorem i_sub {x y : Int32} (h1 : -2147483648 ≤ x.toInt - y.toInt) (h2 : x.toInt - y.toInt < 2147483648) : (x - y).toInt = x.toInt - y.toInt := by
  rw [Int32.toInt_sub]
  exact Int.bmod_eq_of_le (by omega) (by omega)
theorem i_mul {x y : Int32} (h1 : -2147483648 ≤ x.toInt * y.toInt) (h2 : x.toInt * y.toInt < 2147483648) : (x * y).toInt = x.toInt * y.toInt := by
  rw [Int32.toInt_mul]
  exact Int.bmod_eq_of_le (by omega) (by omega)
theorem i_ext {x y : Int32} (h : x.toInt = y.toInt) : x = y := Int32.toInt_inj.mp h
theorem i_lit : (0 : Int32).toInt = 0 ∧ (1 : Int32).toInt = 1 ∧ (2 : Int32).toInt = 2 ∧ (6 : Int32).toInt = 6 ∧ (8 : Int32).toInt = 8 ∧ (100 : Int32).toInt = 100 ∧ (-1 : Int32).toInt = -1 ∧ (-2 : Int32).toInt = -2 := by decide
theorem i_in {n : Nat} {i : Int32} (h0 : 0 ≤ i.toInt) (h1 : i.toInt < (n : Int)) : ¬ (i < 0 ∨ n ≤ i.toNatClampNeg) := by
  rintro (h | h)
  · have := Int32.lt_iff_toInt_lt.mp h
    rw [i_lit.1] at this
    omega
  · have e : i.toNatClampNeg = i.toInt.toNat := rfl
    rw [e] at h
    omega
section OL
variable {β : Type} {Q : β → Prop}
theorem ok_ld0 {f : Nat → Int32} {n : Nat} {i : Int32} {g : Int32 → Option β} (h0 : 0 ≤ i.toInt) (h1 : i.toInt < (n : Int)) (k : ok (g (f i.toInt.toNat)) Q) : ok ((m_ld f n i).bind g) Q := by
  unfold m_ld
  rw [if_neg (i_in h0 h1)]
  exact k
theorem ok_ldJ {f : Nat → Int64} {n : Nat} {i : Int32} {g : Int64 → Option β} (h0 : 0 ≤ i.toInt) (h1 : i.toInt < (n : Int)) (k : ok (g (f i.toInt.toNat)) Q) : ok ((m_ldJ f n i).bind g) Q := by
  unfold m_ldJ
  rw [if_neg (i_in h0 h1)]
  exact k
theorem ok_st0 {A : Nat → Nat → Int32} {j n : Nat} {i x : Int32} {g : (Nat → Nat → Int32) → Option β} (h0 : 0 ≤ i.toInt) (h1 : i.toInt < (n : Int)) (k : ok (g (va_up A j (upd (A j) i.toInt.toNat x))) Q) : ok ((m_st A j n i x).bind g) Q := by
  unfold m_st
  rw [if_neg (i_in h0 h1)]
  exact k
theorem ok_stJ {J : Nat → Nat → Int64} {j n : Nat} {i : Int32} {x : Int64} {g : (Nat → Nat → Int64) → Option β} (h0 : 0 ≤ i.toInt) (h1 : i.toInt < (n : Int)) (k : ok (g (va_up J j (vp_updL (J j) i.toInt.toNat x))) Q) : ok ((m_stJ J j n i x).bind g) Q := by
  unfold m_stJ
  rw [if_neg (i_in h0 h1)]
  exact k
theorem ok_pf0 {F : Nat → Int32} {k : Nat} {x : Int32} {g : (Nat → Int32) → Option β} (h : ok (g (upd F k x)) Q) : ok ((m_pf F k x).bind g) Q := h
theorem ok_div0 {x y : Int32} {g : Int32 → Option β} (hy : y.toInt ≠ 0) (k : ok (g (x / y)) Q) : ok ((m_div x y).bind g) Q := by
  unfold m_div
  rw [if_neg (fun e => hy (by rw [e]; rfl))]
  exact k
theorem ok_rem0 {x y : Int32} {g : Int32 → Option β} (hy : y.toInt ≠ 0) (k : ok (g (x - x / y * y)) Q) : ok ((m_rem x y).bind g) Q := by
  unfold m_rem
  rw [if_neg (fun e => hy (by rw [e]; rfl))]
  exact k
theorem ok_zr0 {x : Int32} {g : Int32 → Option β} (hx : x.toInt = 0 ∨ x.toInt = 1) (k : ok (g x) Q) : ok ((m_zr x).bind g) Q := by
  unfold m_zr
  rw [if_pos (hx.elim (fun h => .inl (i_ext h)) (fun h => .inr (i_ext h)))]
  exact k
end OL
