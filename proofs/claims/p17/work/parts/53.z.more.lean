theorem NVm.mono {F : Nat → Int32} {A : Nat → Nat → Int32} {k k' : Int} (h : NVm F A k') (hk : k ≤ k') : NVm F A k := fun m m0 m1 => h m m0 (by omega)
/-- what is left of it at dawn -/
def WVm (F : Nat → Int32) (A : Nat → Nat → Int32) (k : Int) : Prop := ∀ m, 0 ≤ m → m < k → 0 ≤ ai A 48 (42 + m) → SVm F A (ai A 48 (42 + m)) (ai A 54 m)
section WV
variable {F F' : Nat → Int32} {A A' : Nat → Nat → Int32} {k k' i x : Int}
theorem NVm.toW (h : NVm F A k) : WVm F A k := fun m m0 m1 => (h m m0 m1).1
theorem WVm.st48 (h : WVm F A k) (o : ∀ q, q ≠ 48 → A' q = A q) (n : ∀ q, 0 ≤ q → q ≠ i → ai A' 48 q = ai A 48 q) (hi : i < 42 ∨ 42 + k ≤ i) : WVm F A' k := by
  intro m m0 m1
  rw [n (42 + m) (by omega) (by omega), ai_fr (o 54 (by decide))]
  exact fun q => (h m m0 m1 q).fr rfl (o 19 (by decide)) (o 22 (by decide))
theorem WVm.neg (h : WVm F A k) (o : ∀ q, q ≠ 48 → A' q = A q) (s : ai A' 48 i = x) (n : ∀ q, 0 ≤ q → q ≠ i → ai A' 48 q = ai A 48 q) (hx : x < 0) : WVm F A' k := by
  intro m m0 m1
  by_cases e : 42 + m = i
  · rw [e, s]
    exact fun q => absurd q (by omega)
  · rw [n (42 + m) (by omega) e, ai_fr (o 54 (by decide))]
    exact fun q => (h m m0 m1 q).fr rfl (o 19 (by decide)) (o 22 (by decide))
theorem RVm.stx {j : Nat} (h : RVm F A j k) (hj : 19 ≠ j ∧ 22 ≠ j) (o : ∀ q, q ≠ j → A' q = A q) (n : ∀ q, 0 ≤ q → q ≠ i → ai A' j q = ai A j q) (hi : ∀ m, 0 ≤ m → m < k → 42 + m ≠ i ∧ 48 + m ≠ i) : RVm F A' j k :=
  h.cg rfl (o 19 hj.1) (o 22 hj.2) (fun m h0 h1 => ⟨n _ (by omega) (hi m h0 h1).1, n _ (by omega) (hi m h0 h1).2⟩)
theorem RVm.ext {j : Nat} (h : RVm F A j k) (h1 : 0 ≤ ai A j (42 + k) → SVm F A (ai A j (42 + k)) (ai A j (48 + k))) : RVm F A j (k + 1) := by
  intro m m0 m1
  by_cases e : m = k
  · subst e; exact h1
  · exact h m m0 (by omega)
theorem RVm.mono {j : Nat} (h : RVm F A j k') (hk : k ≤ k') : RVm F A j k := fun m m0 m1 => h m m0 (by omega)
end WV
