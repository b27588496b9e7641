/-! the reference's tokens -/
def bAt (F : Nat → Int32) (A : Nat → Nat → Int32) (i : Int) : Int := if i < (F 4).toInt then (A 2 i.toNat &&& 255).toInt else 0
theorem bAt_lt (F : Nat → Int32) (A : Nat → Nat → Int32) (i : Int) : bAt F A i = 0 ∨ i < (F 4).toInt := by
  unfold bAt
  by_cases h : i < (F 4).toInt
  · exact .inr h
  · rw [if_neg h]; exact .inl rfl
theorem s_d_byteAt {F : Nat → Int32} {A : Nat → Nat → Int32} {J : Nat → Nat → Int64} {x1 : Int32} (hF : IFm F) (rx1 : 0 ≤ x1.toInt) : ok (d_byteAt F A J x1) (fun v => v.toInt = bAt F A x1.toInt ∧ (v.toInt = 0 ∨ x1.toInt < (F 4).toInt)) := by
  have r4 : 0 ≤ (F 4).toInt ∧ (F 4).toInt ≤ 2000 := hF 4
  unfold d_byteAt
  refine ok_cond (fun c => ?_) (fun c => ?_)
  · rw [i_ge] at c
    refine ok_some ⟨?_, .inl (by decide)⟩
    unfold bAt
    rw [if_neg (by omega)]; decide
  · rw [i_nge] at c
    refine ok_ld0 rx1 (by omega) ?_
    refine ok_some ⟨?_, .inr c⟩
    unfold bAt
    rw [if_pos c]
theorem bAt_fr {F F' : Nat → Int32} {A A' : Nat → Nat → Int32} (h4 : F' 4 = F 4) (h2 : A' 2 = A 2) : bAt F' A' = bAt F A := by
  funext i
  unfold bAt
  rw [h4, h2]
