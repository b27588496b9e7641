/-! what holds of the live side of the reference -/
/-- how many values a run of codes leaves -/
def dpm (A : Nat → Nat → Int32) (u : Int) : Nat → Int
  | 0 => 0
  | k + 1 => if ai A 42 (u + k) < 2 then dpm A u k + 1 else dpm A u k - 1
def WFm (A : Nat → Nat → Int32) (u v : Int) : Prop := 0 ≤ u ∧ u ≤ v ∧ v ≤ u + 400 ∧ v ≤ 840 ∧ (∀ k : Nat, u + k < v → 2 ≤ ai A 42 (u + k) → 2 ≤ dpm A u k) ∧ (∀ c, u ≤ c → c < v → ai A 42 c = 1 → 0 ≤ ai A 43 c ∧ ai A 43 c ≤ 5)
def LWm (A : Nat → Nat → Int32) (b : Int) : Prop := (ai A 36 b = 1 → WFm A (ai A 37 b) (ai A 38 b) ∧ WFm A (ai A 38 b) (ai A 39 b)) ∧ WFm A (ai A 39 b) (ai A 40 b)
def VMs (F : Nat → Int32) (A : Nat → Nat → Int32) : Prop :=
  (∀ d, 0 ≤ d → d < ai A 12 (F 18).toInt → 0 ≤ ai A 13 (12 * (F 18).toInt + d) ∧ 0 ≤ ai A 14 (12 * (F 18).toInt + d)) ∧
  (∀ m, 0 ≤ m → m < ai A 29 (F 18).toInt → 0 ≤ ai A 30 (6 * (F 18).toInt + m)) ∧
  (∀ t, 0 ≤ t → t < ai A 19 (F 18).toInt → 0 ≤ ai A 20 (6 * (F 18).toInt + t)) ∧
  (∀ t s, 0 ≤ t → t < ai A 19 (F 18).toInt → 0 ≤ s → s < ai A 22 (6 * (F 18).toInt + t) → ai A 28 (6 * (6 * (F 18).toInt + t) + s) ≤ 5) ∧
  (∀ m, 0 ≤ m → m < ai A 29 (F 18).toInt → ∀ b, ai A 34 (6 * (F 18).toInt + m) ≤ b → b < ai A 35 (6 * (F 18).toInt + m) → LWm A b)
theorem ai_fr {A A' : Nat → Nat → Int32} {j : Nat} (h : A' j = A j) : ai A' j = ai A j := by
  funext i
  unfold ai
  rw [h]
theorem dpm_fr {A A' : Nat → Nat → Int32} (h : A' 42 = A 42) (u : Int) : ∀ k, dpm A' u k = dpm A u k
  | 0 => rfl
  | k + 1 => by
    unfold dpm
    rw [dpm_fr h u k, ai_fr h]
theorem WFm.fr {A A' : Nat → Nat → Int32} (h : A' 42 = A 42) (h' : A' 43 = A 43) {u v : Int} (w : WFm A u v) : WFm A' u v := by
  unfold WFm
  simp only [ai_fr h, ai_fr h', dpm_fr h]
  exact w
theorem LWm.fr {A A' : Nat → Nat → Int32} (h : ∀ q, 8 ≤ q → q ≤ 43 → A' q = A q) {b : Int} (w : LWm A b) : LWm A' b := by
  unfold LWm
  rw [ai_fr (h 36 (by decide) (by decide)), ai_fr (h 37 (by decide) (by decide)), ai_fr (h 38 (by decide) (by decide)), ai_fr (h 39 (by decide) (by decide)), ai_fr (h 40 (by decide) (by decide))]
  have e1 := h 42 (by decide) (by decide)
  have e2 := h 43 (by decide) (by decide)
  exact ⟨fun h => ⟨(w.1 h).1.fr e1 e2, (w.1 h).2.fr e1 e2⟩, w.2.fr e1 e2⟩
theorem VMs.fr {F F' : Nat → Int32} {A A' : Nat → Nat → Int32} (v : VMs F A) (hF : F' 18 = F 18) (h : ∀ q, 8 ≤ q → q ≤ 43 → A' q = A q) : VMs F' A' := by
  unfold VMs
  rw [hF, ai_fr (h 12 (by decide) (by decide)), ai_fr (h 13 (by decide) (by decide)), ai_fr (h 14 (by decide) (by decide)), ai_fr (h 29 (by decide) (by decide)), ai_fr (h 30 (by decide) (by decide)), ai_fr (h 19 (by decide) (by decide)), ai_fr (h 20 (by decide) (by decide)), ai_fr (h 22 (by decide) (by decide)), ai_fr (h 28 (by decide) (by decide)), ai_fr (h 34 (by decide) (by decide)), ai_fr (h 35 (by decide) (by decide))]
  exact ⟨v.1, v.2.1, v.2.2.1, v.2.2.2.1, fun m h0 h1 b h2 h3 => (v.2.2.2.2 m h0 h1 b h2 h3).fr h⟩
theorem dpm_step {A : Nat → Nat → Int32} {u c : Int} (h : u ≤ c) : dpm A u (c + 1 - u).toNat = if ai A 42 c < 2 then dpm A u (c - u).toNat + 1 else dpm A u (c - u).toNat - 1 := by
  have e : (c + 1 - u).toNat = (c - u).toNat + 1 := by omega
  rw [e]
  show (if ai A 42 (u + ((c - u).toNat : Int)) < 2 then _ else _) = _
  rw [show u + ((c - u).toNat : Int) = c by omega]
theorem dpm_le (A : Nat → Nat → Int32) (u : Int) : ∀ k : Nat, dpm A u k ≤ k
  | 0 => by show (0 : Int) ≤ 0; omega
  | k + 1 => by
    have ih := dpm_le A u k
    show (if ai A 42 (u + (k : Int)) < 2 then dpm A u k + 1 else dpm A u k - 1) ≤ _
    split <;> omega
theorem dpm_nn {A : Nat → Nat → Int32} {u v : Int} (w : WFm A u v) : ∀ k : Nat, u + k ≤ v → 0 ≤ dpm A u k
  | 0, _ => Int.le_refl 0
  | k + 1, h => by
    have ih := dpm_nn w k (by omega)
    have h2 := w.2.2.2.2.1 k (by omega)
    show 0 ≤ (if ai A 42 (u + (k : Int)) < 2 then dpm A u k + 1 else dpm A u k - 1)
    split
    next => omega
    next hc => have := h2 (by omega); omega
