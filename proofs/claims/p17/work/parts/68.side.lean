/-! what holds while the reference reads -/
/-- a side's share of a row -/
def sgm (j : Nat) : Int := match j with
  | 11 => 1 | 12 => 1 | 17 => 1 | 19 => 1 | 29 => 1 | 33 => 1 | 41 => 1
  | 13 => 12 | 14 => 12 | 15 => 12 | 16 => 12
  | 18 => 6 | 20 => 6 | 21 => 6 | 22 => 6 | 30 => 6 | 31 => 6 | 32 => 6 | 34 => 6 | 35 => 6
  | 23 => 36 | 24 => 36 | 25 => 36 | 26 => 36 | 27 => 36 | 28 => 36
  | 36 => 50 | 37 => 50 | 38 => 50 | 39 => 50 | 40 => 50
  | 42 => 420 | 43 => 420
  | _ => 0
def LSm (l : Int) (A A' : Nat → Nat → Int32) : Prop := ∀ j i, sgm j * l ≤ i → i < sgm j * l + sgm j → ai A' j i = ai A j i
section LS
variable {l i : Int} {A A' A1 : Nat → Nat → Int32} {j : Nat}
theorem LSm.rfl' (l : Int) (A : Nat → Nat → Int32) : LSm l A A := fun _ _ _ _ => rfl
theorem LSm.tr (h : LSm l A A1) (h' : LSm l A1 A') : LSm l A A' := fun j i a b => (h' j i a b).trans (h j i a b)
theorem LSm.st (h : LSm l A A1) (hl : 0 ≤ l) (s : Int) (hs : sgm j = s) (o : ∀ q, q ≠ j → A' q = A1 q) (n : ∀ q, 0 ≤ q → q ≠ i → ai A' j q = ai A1 j q) (hi : 0 ≤ s ∧ (i < s * l ∨ s * l + s ≤ i)) (hp : 0 ≤ s * l) : LSm l A A' := fun q p a b => by
  by_cases e : q = j
  · subst e
    rw [hs] at a b
    rw [n p (by omega) (by omega)]
    exact h q p (by rw [hs]; exact a) (by rw [hs]; exact b)
  · rw [ai_fr (o q e)]
    exact h q p a b
theorem LSm.fr (h : LSm l A A1) (W : List Nat) (o : ∀ q, q ∉ W → A' q = A1 q) (hW : ∀ q, q ∈ W → sgm q = 0) : LSm l A A' := fun q p a b => by
  by_cases e : q ∈ W
  · rw [hW q e] at a b
    omega
  · rw [ai_fr (o q e)]
    exact h q p a b
end LS
def NMm (F : Nat → Int32) (A : Nat → Nat → Int32) : Prop := ∀ q, 0 ≤ q → q < (F 20).toInt → (ai A 9 q = 0 → ai A 10 q < ai A 11 (F 19).toInt) ∧ (ai A 9 q = 1 → ai A 10 q < ai A 17 (F 19).toInt) ∧ (ai A 9 q = 2 → ai A 10 q < ai A 19 (F 19).toInt) ∧ (ai A 9 q = 3 → ai A 10 q < ai A 29 (F 19).toInt)
section NM
variable {F F' : Nat → Int32} {A A' : Nat → Nat → Int32}
theorem NMm.fr (h : NMm F A) (h19 : F' 19 = F 19) (h20 : F' 20 = F 20) (r9 : A' 9 = A 9) (r10 : A' 10 = A 10) (g1 : ai A 11 (F 19).toInt ≤ ai A' 11 (F 19).toInt) (g2 : ai A 17 (F 19).toInt ≤ ai A' 17 (F 19).toInt) (g3 : ai A 19 (F 19).toInt ≤ ai A' 19 (F 19).toInt) (g4 : ai A 29 (F 19).toInt ≤ ai A' 29 (F 19).toInt) : NMm F' A' := by
  intro q h0 h1
  rw [h20] at h1
  obtain ⟨a, b, c, d⟩ := h q h0 h1
  rw [h19, ai_fr r9, ai_fr r10]
  exact ⟨fun e => by have := a e; omega, fun e => by have := b e; omega, fun e => by have := c e; omega, fun e => by have := d e; omega⟩
theorem NMm.fr0 (h : NMm F A) (h19 : F' 19 = F 19) (h20 : F' 20 = F 20) (r : ∀ q, q = 9 ∨ q = 10 ∨ q = 11 ∨ q = 17 ∨ q = 19 ∨ q = 29 → A' q = A q) : NMm F' A' :=
  h.fr h19 h20 (r 9 (by omega)) (r 10 (by omega)) (by rw [ai_fr (r 11 (by omega))]; omega) (by rw [ai_fr (r 17 (by omega))]; omega) (by rw [ai_fr (r 19 (by omega))]; omega) (by rw [ai_fr (r 29 (by omega))]; omega)
end NM
