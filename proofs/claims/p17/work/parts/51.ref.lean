/-! the reference's rows and fields by values: what holds of each at every time -/
def ai (A : Nat → Nat → Int32) (j : Nat) (i : Int) : Int := (A j i.toNat).toInt
/-- fields -/
def rF (k : Nat) (v : Int) : Prop := match k with
  | 2 => 0 ≤ v ∧ v ≤ 2000
  | 4 => 0 ≤ v ∧ v ≤ 2000
  | 10 => 0 ≤ v ∧ v ≤ 402
  | 11 => 0 ≤ v ∧ v ≤ 400
  | 12 => 0 ≤ v ∧ v ≤ 7
  | 13 => 0 ≤ v ∧ v ≤ 5
  | 15 => 0 ≤ v ∧ v ≤ 5
  | 18 => 0 ≤ v ∧ v ≤ 1
  | 19 => 0 ≤ v ∧ v ≤ 1
  | 20 => 0 ≤ v ∧ v ≤ 32
  | 49 => 0 ≤ v ∧ v ≤ 100
  | 56 => 0 ≤ v ∧ v ≤ 840
  | 60 => 0 ≤ v ∧ v ≤ 64
  | 63 => 0 ≤ v ∧ v ≤ 1
  | 74 => 0 ≤ v ∧ v ≤ 20
  | 77 => 0 ≤ v ∧ v ≤ 30
  | _ => True
/-- rows -/
def rA (j : Nat) (i : Int) (v : Int) : Prop := match j with
  | 5 => 0 ≤ v ∧ v ≤ 9999
  | 10 => 0 ≤ v ∧ v ≤ 7
  | 11 => 0 ≤ v ∧ v ≤ 8
  | 12 => 0 ≤ v ∧ v ≤ 12
  | 13 => -1 ≤ v ∧ v ≤ 7
  | 14 => -1 ≤ v ∧ v ≤ 7
  | 16 => 0 ≤ v ∧ v ≤ 1
  | 17 => 0 ≤ v ∧ v ≤ 6
  | 19 => 0 ≤ v ∧ v ≤ 6
  | 20 => -1 ≤ v ∧ v ≤ 7
  | 22 => 0 ≤ v ∧ v ≤ 6
  | 27 => -1 ≤ v ∧ v ≤ 5
  | 29 => 0 ≤ v ∧ v ≤ 6
  | 30 => -1 ≤ v ∧ v ≤ 7
  | 31 => -1 ≤ v ∧ v ≤ 5
  | 33 => 0 ≤ v ∧ v ≤ 8
  | 34 => 0 ≤ v ∧ v ≤ 100
  | 35 => 0 ≤ v ∧ v ≤ 100
  | 36 => 0 ≤ v ∧ v ≤ 1
  | 37 => 0 ≤ v ∧ v ≤ 840
  | 38 => 0 ≤ v ∧ v ≤ 840
  | 39 => 0 ≤ v ∧ v ≤ 840
  | 40 => 0 ≤ v ∧ v ≤ 840
  | 41 => 0 ≤ v ∧ v ≤ 9999
  | 42 => 0 ≤ v ∧ v ≤ 5
  | 56 => 0 ≤ v ∧ v ≤ 1
  | 58 => 0 ≤ v ∧ v ≤ 5
  | 59 => 0 ≤ v ∧ v ≤ 5
  | 61 => 0 ≤ v ∧ v ≤ 1
  | _ => True
def IFm (F : Nat → Int32) : Prop := ∀ k, rF k (F k).toInt
def IAm (A : Nat → Nat → Int32) : Prop := ∀ (j : Nat) (i : Int), 0 ≤ i → rA j i (ai A j i)
theorem IFm.put {F : Nat → Int32} {k : Nat} {x : Int32} (hF : IFm F) (hx : rF k x.toInt) : IFm (upd F k x) := by
  intro q
  unfold upd
  by_cases h : q = k
  · rw [if_pos h, h]; exact hx
  · rw [if_neg h]; exact hF q
theorem ai_same {A : Nat → Nat → Int32} {j : Nat} {i : Int} {x : Int32} : ai (va_up A j (upd (A j) i.toNat x)) j i = x.toInt := by
  unfold ai
  rw [c_up_same]
  unfold upd
  rw [if_pos rfl]
theorem ai_ne {A : Nat → Nat → Int32} {j : Nat} {i q : Int} {x : Int32} (hi : 0 ≤ i) (hq : 0 ≤ q) (h : q ≠ i) : ai (va_up A j (upd (A j) i.toNat x)) j q = ai A j q := by
  unfold ai
  rw [c_up_same]
  unfold upd
  rw [if_neg (by omega)]
theorem IAm.put {A : Nat → Nat → Int32} {j : Nat} {i : Int} {x : Int32} (hA : IAm A) (hi : 0 ≤ i) (hx : rA j i x.toInt) : IAm (va_up A j (upd (A j) i.toNat x)) := by
  intro q p hp
  by_cases h : q = j
  · subst h
    by_cases h2 : p = i
    · subst h2
      rw [ai_same]
      exact hx
    · rw [ai_ne hi hp h2]
      exact hA q p hp
  · unfold ai
    rw [c_up_ne h]
    exact hA q p hp
section OM
variable {β : Type} {Q : β → Prop}
theorem ok_ld {A : Nat → Nat → Int32} {j n : Nat} {i : Int32} {g : Int32 → Option β} (hA : IAm A) (h0 : 0 ≤ i.toInt) (h1 : i.toInt < (n : Int)) (k : ∀ v : Int32, v.toInt = ai A j i.toInt → rA j i.toInt v.toInt → ok (g v) Q) : ok ((m_ld (A j) n i).bind g) Q :=
  ok_ld0 h0 h1 (k _ rfl (hA j i.toInt h0))
theorem ok_st {A : Nat → Nat → Int32} {j n : Nat} {i x : Int32} {g : (Nat → Nat → Int32) → Option β} (hA : IAm A) (h0 : 0 ≤ i.toInt) (h1 : i.toInt < (n : Int)) (hx : rA j i.toInt x.toInt) (k : ∀ A', IAm A' → (∀ q, q ≠ j → A' q = A q) → ai A' j i.toInt = x.toInt → (∀ q, 0 ≤ q → q ≠ i.toInt → ai A' j q = ai A j q) → ok (g A') Q) : ok ((m_st A j n i x).bind g) Q :=
  ok_st0 h0 h1 (k _ (hA.put h0 hx) (fun _ h => c_up_ne h) ai_same (fun _ hq h => ai_ne h0 hq h))
theorem ok_pf {F : Nat → Int32} {k : Nat} {x : Int32} {g : (Nat → Int32) → Option β} (hF : IFm F) (hx : rF k x.toInt) (kk : ∀ F', IFm F' → F' k = x → (∀ q, q ≠ k → F' q = F q) → ok (g F') Q) : ok ((m_pf F k x).bind g) Q :=
  ok_pf0 (kk _ (hF.put hx) (if_pos rfl) (fun _ h => if_neg h))
end OM
theorem i_mulL {c : Int} {k x : Int32} (hk : k.toInt = c) (h1 : -2147483648 ≤ c * x.toInt) (h2 : c * x.toInt < 2147483648) : (k * x).toInt = c * x.toInt := by
  subst hk
  exact i_mul h1 h2
theorem i_mulR {c : Int} {k x : Int32} (hk : k.toInt = c) (h1 : -2147483648 ≤ x.toInt * c) (h2 : x.toInt * c < 2147483648) : (x * k).toInt = x.toInt * c := by
  subst hk
  exact i_mul h1 h2
section OM2
variable {β : Type} {Q : β → Prop}
theorem ok_ldJ1 {f : Nat → Int64} {n : Nat} {i : Int32} {g : Int64 → Option β} (h0 : 0 ≤ i.toInt) (h1 : i.toInt < (n : Int)) (k : ∀ v, ok (g v) Q) : ok ((m_ldJ f n i).bind g) Q := ok_ldJ h0 h1 (k _)
theorem ok_stJ1 {J : Nat → Nat → Int64} {j n : Nat} {i : Int32} {x : Int64} {g : (Nat → Nat → Int64) → Option β} (h0 : 0 ≤ i.toInt) (h1 : i.toInt < (n : Int)) (k : ∀ J', ok (g J') Q) : ok ((m_stJ J j n i x).bind g) Q := ok_stJ h0 h1 (k _)
theorem ok_div1 {x y : Int32} {g : Int32 → Option β} (hy : y.toInt ≠ 0) (k : ∀ v, v = x / y → ok (g v) Q) : ok ((m_div x y).bind g) Q := ok_div0 hy (k _ rfl)
theorem ok_rem1 {x y : Int32} {g : Int32 → Option β} (hy : y.toInt ≠ 0) (k : ∀ v, v = x - x / y * y → ok (g v) Q) : ok ((m_rem x y).bind g) Q := ok_rem0 hy (k _ rfl)
theorem ok_pfz {F : Nat → Int32} {k : Nat} {x : Int32} {g : (Nat → Int32) → Option β} (hF : IFm F) (h01 : x.toInt = 0 ∨ x.toInt = 1) (hx : rF k x.toInt) (kk : ∀ F', IFm F' → F' k = x → (∀ q, q ≠ k → F' q = F q) → ok (g F') Q) : ok ((m_pfz F k x).bind g) Q := by
  unfold m_pfz
  rw [if_pos (h01.elim (fun h => .inl (i_ext h)) (fun h => .inr (i_ext h)))]
  exact kk _ (hF.put hx) (if_pos rfl) (fun _ h => if_neg h)
end OM2
