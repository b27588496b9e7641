/-! what holds of the reference's men in a night -/
def SVm (F : Nat → Int32) (A : Nat → Nat → Int32) (t s : Int) : Prop := 0 ≤ t ∧ t < ai A 19 (F 18).toInt ∧ 0 ≤ s ∧ s < ai A 22 (6 * (F 18).toInt + t)
def NVm (F : Nat → Int32) (A : Nat → Nat → Int32) (k : Int) : Prop := ∀ m, 0 ≤ m → m < k → (0 ≤ ai A 48 (42 + m) → SVm F A (ai A 48 (42 + m)) (ai A 54 m)) ∧ (ai A 50 m = 1 → 0 ≤ ai A 48 (42 + m)) ∧ (ai A 50 m = 2 → SVm F A (ai A 48 (42 + m)) (ai A 53 m))
def RVm (F : Nat → Int32) (A : Nat → Nat → Int32) (j : Nat) (k : Int) : Prop := ∀ m, 0 ≤ m → m < k → 0 ≤ ai A j (42 + m) → SVm F A (ai A j (42 + m)) (ai A j (48 + m))
section NV
variable {F F' : Nat → Int32} {A A' : Nat → Nat → Int32} {k i x t s : Int}
theorem SVm.fr (h : SVm F A t s) (hF : F' 18 = F 18) (h19 : A' 19 = A 19) (h22 : A' 22 = A 22) : SVm F' A' t s := by
  unfold SVm
  rw [hF, ai_fr h19, ai_fr h22]
  exact h
theorem NVm.cg (h : NVm F A k) (hF : F' 18 = F 18) (h19 : A' 19 = A 19) (h22 : A' 22 = A 22) (e48 : ∀ m, 0 ≤ m → m < k → ai A' 48 (42 + m) = ai A 48 (42 + m)) (e50 : A' 50 = A 50) (e53 : A' 53 = A 53) (e54 : A' 54 = A 54) : NVm F' A' k := by
  intro m h0 h1
  rw [e48 m h0 h1, ai_fr e50, ai_fr e53, ai_fr e54]
  obtain ⟨a, b, c⟩ := h m h0 h1
  exact ⟨fun q => (a q).fr hF h19 h22, b, fun q => (c q).fr hF h19 h22⟩
theorem NVm.st48 (h : NVm F A k) (o : ∀ q, q ≠ 48 → A' q = A q) (n : ∀ q, 0 ≤ q → q ≠ i → ai A' 48 q = ai A 48 q) (hi : i < 42 ∨ 42 + k ≤ i) : NVm F A' k :=
  h.cg rfl (o 19 (by decide)) (o 22 (by decide)) (fun m h0 h1 => n _ (by omega) (by omega)) (o 50 (by decide)) (o 53 (by decide)) (o 54 (by decide))
theorem NVm.sto {j : Nat} (h : NVm F A k) (o : ∀ q, q ≠ j → A' q = A q) (hj : 19 ≠ j ∧ 22 ≠ j ∧ 48 ≠ j ∧ 50 ≠ j ∧ 53 ≠ j ∧ 54 ≠ j) : NVm F A' k :=
  h.cg rfl (o 19 hj.1) (o 22 hj.2.1) (fun m _ _ => by rw [ai_fr (o 48 hj.2.2.1)]) (o 50 hj.2.2.2.1) (o 53 hj.2.2.2.2.1) (o 54 hj.2.2.2.2.2)
theorem NVm.st50 (h : NVm F A k) (o : ∀ q, q ≠ 50 → A' q = A q) (sx : ai A' 50 i = x) (n : ∀ q, 0 ≤ q → q ≠ i → ai A' 50 q = ai A 50 q) (h1 : i < k → x = 1 → 0 ≤ ai A 48 (42 + i)) (h2 : i < k → x = 2 → SVm F A (ai A 48 (42 + i)) (ai A 53 i)) : NVm F A' k := by
  intro m m0 m1
  obtain ⟨a, b, c⟩ := h m m0 m1
  rw [ai_fr (o 48 (by decide)), ai_fr (o 53 (by decide)), ai_fr (o 54 (by decide))]
  have fr : ∀ {t s : Int}, SVm F A t s → SVm F A' t s := fun w => w.fr rfl (o 19 (by decide)) (o 22 (by decide))
  by_cases e : m = i
  · subst e
    rw [sx]
    exact ⟨fun q => fr (a q), fun q => h1 m1 q, fun q => fr (h2 m1 q)⟩
  · rw [n m m0 e]
    exact ⟨fun q => fr (a q), b, fun q => fr (c q)⟩
theorem NVm.st53 (h : NVm F A k) (o : ∀ q, q ≠ 53 → A' q = A q) (n : ∀ q, 0 ≤ q → q ≠ i → ai A' 53 q = ai A 53 q) (hs : i < k → ai A 50 i ≠ 2) : NVm F A' k := by
  intro m m0 m1
  obtain ⟨a, b, c⟩ := h m m0 m1
  rw [ai_fr (o 48 (by decide)), ai_fr (o 50 (by decide)), ai_fr (o 54 (by decide))]
  have fr : ∀ {t s : Int}, SVm F A t s → SVm F A' t s := fun w => w.fr rfl (o 19 (by decide)) (o 22 (by decide))
  by_cases e : m = i
  · subst e
    exact ⟨fun q => fr (a q), b, fun q => absurd q (hs m1)⟩
  · rw [n m m0 e]
    exact ⟨fun q => fr (a q), b, fun q => fr (c q)⟩
theorem NVm.st54 (h : NVm F A k) (o : ∀ q, q ≠ 54 → A' q = A q) (sx : ai A' 54 i = x) (n : ∀ q, 0 ≤ q → q ≠ i → ai A' 54 q = ai A 54 q) (hs : i < k → 0 ≤ ai A 48 (42 + i) → SVm F A (ai A 48 (42 + i)) x) : NVm F A' k := by
  intro m m0 m1
  obtain ⟨a, b, c⟩ := h m m0 m1
  rw [ai_fr (o 48 (by decide)), ai_fr (o 50 (by decide)), ai_fr (o 53 (by decide))]
  have fr : ∀ {t s : Int}, SVm F A t s → SVm F A' t s := fun w => w.fr rfl (o 19 (by decide)) (o 22 (by decide))
  by_cases e : m = i
  · subst e
    rw [sx]
    exact ⟨fun q => fr (hs m1 q), b, fun q => fr (c q)⟩
  · rw [n m m0 e]
    exact ⟨fun q => fr (a q), b, fun q => fr (c q)⟩
theorem NVm.ext (h : NVm F A k) (h1 : 0 ≤ ai A 48 (42 + k) → SVm F A (ai A 48 (42 + k)) (ai A 54 k)) (h2 : ai A 50 k = 1 → 0 ≤ ai A 48 (42 + k)) (h3 : ai A 50 k ≠ 2) : NVm F A (k + 1) := by
  intro m m0 m1
  by_cases e : m = k
  · subst e
    exact ⟨h1, h2, fun q => absurd q h3⟩
  · exact h m m0 (by omega)
theorem RVm.cg {j : Nat} (h : RVm F A j k) (hF : F' 18 = F 18) (h19 : A' 19 = A 19) (h22 : A' 22 = A 22) (e : ∀ m, 0 ≤ m → m < k → ai A' j (42 + m) = ai A j (42 + m) ∧ ai A' j (48 + m) = ai A j (48 + m)) : RVm F' A' j k := by
  intro m h0 h1
  rw [(e m h0 h1).1, (e m h0 h1).2]
  exact fun q => (h m h0 h1 q).fr hF h19 h22
theorem RVm.sto {j q0 : Nat} (h : RVm F A j k) (o : ∀ q, q ≠ q0 → A' q = A q) (hj : 19 ≠ q0 ∧ 22 ≠ q0) (hq : j ≠ q0) : RVm F A' j k :=
  h.cg rfl (o 19 hj.1) (o 22 hj.2) (fun m _ _ => by rw [ai_fr (o j hq)]; exact ⟨rfl, rfl⟩)
theorem RVm.st {j : Nat} (h : RVm F A j k) (hj : 19 ≠ j ∧ 22 ≠ j) (o : ∀ q, q ≠ j → A' q = A q) (n : ∀ q, 0 ≤ q → q ≠ i → ai A' j q = ai A j q) (hi : i < 42 ∨ 54 ≤ i) (hk : k ≤ 6) : RVm F A' j k :=
  h.cg rfl (o 19 hj.1) (o 22 hj.2) (fun m h0 h1 => ⟨n _ (by omega) (by omega), n _ (by omega) (by omega)⟩)
end NV
