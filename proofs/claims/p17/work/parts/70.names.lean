/-! names and counts while reading -/
def CTm (F : Nat → Int32) (A : Nat → Nat → Int32) : Prop := (F 20).toInt = ai A 11 (F 19).toInt + ai A 17 (F 19).toInt + ai A 19 (F 19).toInt + ai A 29 (F 19).toInt
def NCm (F : Nat → Int32) (A : Nat → Nat → Int32) : Prop := NMm F A ∧ CTm F A
section NC
variable {F F' : Nat → Int32} {A A' A1 : Nat → Nat → Int32}
theorem NCm.fr0 (h : NCm F A) (h19 : F' 19 = F 19) (h20 : F' 20 = F 20) (r : ∀ q, q = 9 ∨ q = 10 ∨ q = 11 ∨ q = 17 ∨ q = 19 ∨ q = 29 → A' q = A q) : NCm F' A' := by
  refine ⟨h.1.fr0 h19 h20 r, ?_⟩
  unfold CTm
  rw [h19, h20, ai_fr (r 11 (by omega)), ai_fr (r 17 (by omega)), ai_fr (r 19 (by omega)), ai_fr (r 29 (by omega))]
  exact h.2
theorem NMm.add (h : NMm F A) (h19 : F' 19 = F 19) (f20 : (F' 20).toInt = (F 20).toInt + 1) (ot : ∀ q, 0 ≤ q → q ≠ (F 20).toInt → ai A' 9 q = ai A 9 q ∧ ai A' 10 q = ai A 10 q) (g1 : ai A 11 (F 19).toInt ≤ ai A' 11 (F 19).toInt) (g2 : ai A 17 (F 19).toInt ≤ ai A' 17 (F 19).toInt) (g3 : ai A 19 (F 19).toInt ≤ ai A' 19 (F 19).toInt) (g4 : ai A 29 (F 19).toInt ≤ ai A' 29 (F 19).toInt)
    (nw : (ai A' 9 (F 20).toInt = 0 → ai A' 10 (F 20).toInt < ai A' 11 (F 19).toInt) ∧ (ai A' 9 (F 20).toInt = 1 → ai A' 10 (F 20).toInt < ai A' 17 (F 19).toInt) ∧ (ai A' 9 (F 20).toInt = 2 → ai A' 10 (F 20).toInt < ai A' 19 (F 19).toInt) ∧ (ai A' 9 (F 20).toInt = 3 → ai A' 10 (F 20).toInt < ai A' 29 (F 19).toInt)) : NMm F' A' := by
  intro q h0 h1
  rw [h19]
  by_cases e : q = (F 20).toInt
  · subst e
    exact nw
  · obtain ⟨a, b, c, d⟩ := h q h0 (by omega)
    rw [(ot q h0 e).1, (ot q h0 e).2]
    exact ⟨fun e => by have := a e; omega, fun e => by have := b e; omega, fun e => by have := c e; omega, fun e => by have := d e; omega⟩
/-- a name is noted, and its count goes up: A1 behind the note, A' behind the count -/
theorem NCm.add {r : Nat} {c x : Int} (h : NCm F A) (hc : (r = 11 ∧ c = 0) ∨ (r = 17 ∧ c = 1) ∨ (r = 19 ∧ c = 2) ∨ (r = 29 ∧ c = 3)) (h19 : F' 19 = F 19)
    (nt : (F' 20).toInt = (F 20).toInt + 1 ∧ ai A1 9 (F 20).toInt = c ∧ ai A1 10 (F 20).toInt = x ∧ (∀ q, 0 ≤ q → q ≠ (F 20).toInt → ai A1 9 q = ai A 9 q ∧ ai A1 10 q = ai A 10 q))
    (o1 : ∀ q, q ∉ ([9, 10] : List Nat) → A1 q = A q) (o : ∀ q, q ≠ r → A' q = A1 q) (hx : x = ai A r (F 19).toInt) (z : ai A' r (F 19).toInt = ai A r (F 19).toInt + 1) : NCm F' A' := by
  obtain ⟨f20, n9, n10, ot⟩ := nt
  have k9 : A' 9 = A1 9 := o 9 (by omega)
  have k10 : A' 10 = A1 10 := o 10 (by omega)
  have ot' : ∀ q, 0 ≤ q → q ≠ (F 20).toInt → ai A' 9 q = ai A 9 q ∧ ai A' 10 q = ai A 10 q := fun q a b => by rw [ai_fr k9, ai_fr k10]; exact ot q a b
  have same : ∀ q, q ≠ r → q ∉ ([9, 10] : List Nat) → ai A' q = ai A q := fun q a b => (ai_fr (o q a)).trans (ai_fr (o1 q b))
  rw [← ai_fr k9] at n9
  rw [← ai_fr k10] at n10
  rcases hc with ⟨rfl, rfl⟩ | ⟨rfl, rfl⟩ | ⟨rfl, rfl⟩ | ⟨rfl, rfl⟩
  · have s2 := same 17 (by decide) (by decide)
    have s3 := same 19 (by decide) (by decide)
    have s4 := same 29 (by decide) (by decide)
    refine ⟨h.1.add h19 f20 ot' (by omega) (by rw [s2]; omega) (by rw [s3]; omega) (by rw [s4]; omega) ⟨fun _ => by omega, fun e => by omega, fun e => by omega, fun e => by omega⟩, ?_⟩
    have k := h.2
    unfold CTm at k ⊢
    rw [h19, s2, s3, s4]
    omega
  · have s2 := same 11 (by decide) (by decide)
    have s3 := same 19 (by decide) (by decide)
    have s4 := same 29 (by decide) (by decide)
    refine ⟨h.1.add h19 f20 ot' (by rw [s2]; omega) (by omega) (by rw [s3]; omega) (by rw [s4]; omega) ⟨fun e => by omega, fun _ => by omega, fun e => by omega, fun e => by omega⟩, ?_⟩
    have k := h.2
    unfold CTm at k ⊢
    rw [h19, s2, s3, s4]
    omega
  · have s2 := same 11 (by decide) (by decide)
    have s3 := same 17 (by decide) (by decide)
    have s4 := same 29 (by decide) (by decide)
    refine ⟨h.1.add h19 f20 ot' (by rw [s2]; omega) (by rw [s3]; omega) (by omega) (by rw [s4]; omega) ⟨fun e => by omega, fun e => by omega, fun _ => by omega, fun e => by omega⟩, ?_⟩
    have k := h.2
    unfold CTm at k ⊢
    rw [h19, s2, s3, s4]
    omega
  · have s2 := same 11 (by decide) (by decide)
    have s3 := same 17 (by decide) (by decide)
    have s4 := same 19 (by decide) (by decide)
    refine ⟨h.1.add h19 f20 ot' (by rw [s2]; omega) (by rw [s3]; omega) (by rw [s4]; omega) (by omega) ⟨fun e => by omega, fun e => by omega, fun e => by omega, fun _ => by omega⟩, ?_⟩
    have k := h.2
    unfold CTm at k ⊢
    rw [h19, s2, s3, s4]
    omega
end NC
/-! what a side must be, where its text has no fault -/
def XDm (A : Nat → Nat → Int32) (s : Int) : Prop := ∀ d, 0 ≤ d → d < ai A 12 s → 0 ≤ ai A 13 (12 * s + d) ∧ 0 ≤ ai A 14 (12 * s + d)
def XTm (A : Nat → Nat → Int32) (s : Int) : Prop := ∀ t, 0 ≤ t → t < ai A 19 s → 0 ≤ ai A 20 (6 * s + t)
def XUm (A : Nat → Nat → Int32) (s : Int) : Prop := ∀ t q, 0 ≤ t → t < ai A 19 s → 0 ≤ q → q < ai A 22 (6 * s + t) → ai A 28 (6 * (6 * s + t) + q) ≤ 5
def XMm (A : Nat → Nat → Int32) (s : Int) : Prop := ∀ m, 0 ≤ m → m < ai A 29 s → 0 ≤ ai A 30 (6 * s + m) ∧ (0 ≤ ai A 31 (6 * s + m) → ai A 31 (6 * s + m) < ai A 19 s ∧ 0 ≤ ai A 32 (6 * s + m) ∧ ai A 32 (6 * s + m) < ai A 22 (6 * s + ai A 31 (6 * s + m)))
section X
variable {A A' : Nat → Nat → Int32} {s d : Int}
theorem XDm.up (h : XDm A s) (z : ai A' 12 s = ai A 12 s + 1) (r13 : ∀ i, 0 ≤ i → i ≠ 12 * s + d → ai A' 13 i = ai A 13 i) (r14 : ∀ i, 0 ≤ i → i ≠ 12 * s + d → ai A' 14 i = ai A 14 i) (h13 : 0 ≤ ai A' 13 (12 * s + d)) (h14 : 0 ≤ ai A' 14 (12 * s + d)) (hd : d = ai A 12 s) (hs : 0 ≤ s) : XDm A' s := by
  intro q h0 h1
  by_cases e : q = d
  · rw [e]; exact ⟨h13, h14⟩
  · rw [r13 _ (by omega) (by omega), r14 _ (by omega) (by omega)]
    exact h q h0 (by omega)
theorem XTm.up (h : XTm A s) (z : ai A' 19 s = ai A 19 s + 1) (r20 : ∀ i, 0 ≤ i → i ≠ 6 * s + d → ai A' 20 i = ai A 20 i) (h20 : 0 ≤ ai A' 20 (6 * s + d)) (hd : d = ai A 19 s) (hs : 0 ≤ s) : XTm A' s := by
  intro q h0 h1
  by_cases e : q = d
  · rw [e]; exact h20
  · rw [r20 _ (by omega) (by omega)]
    exact h q h0 (by omega)
theorem XUm.up (h : XUm A s) (z : ai A' 19 s = ai A 19 s + 1) (r22 : ∀ i, 0 ≤ i → i ≠ 6 * s + d → ai A' 22 i = ai A 22 i) (h22 : ai A' 22 (6 * s + d) = 0) (r28 : A' 28 = A 28) (hd : d = ai A 19 s) (hs : 0 ≤ s) : XUm A' s := by
  intro t q t0 t1 q0 q1
  rw [ai_fr r28]
  by_cases e : t = d
  · rw [e, h22] at q1; omega
  · rw [r22 _ (by omega) (by omega)] at q1
    exact h t q t0 (by omega) q0 q1
/-- a new task leaves the men as they were -/
theorem XMm.up (h : XMm A s) (z : ai A' 19 s = ai A 19 s + 1) (r22 : ∀ i, 0 ≤ i → i ≠ 6 * s + d → ai A' 22 i = ai A 22 i) (k : ∀ q, q = 29 ∨ q = 30 ∨ q = 31 ∨ q = 32 → A' q = A q) (hd : d = ai A 19 s) (hs : 0 ≤ s) : XMm A' s := by
  intro m m0 m1
  rw [ai_fr (k 29 (by omega))] at m1
  obtain ⟨a, b⟩ := h m m0 m1
  rw [ai_fr (k 30 (by omega)), ai_fr (k 31 (by omega)), ai_fr (k 32 (by omega))]
  refine ⟨a, fun e => ?_⟩
  obtain ⟨b1, b2, b3⟩ := b e
  rw [r22 _ (by omega) (by omega)]
  exact ⟨by omega, b2, b3⟩
/-- a new step -/
theorem XUm.sp {t : Int} (h : XUm A s) (r19 : A' 19 = A 19) (z : ai A' 22 (6 * s + t) = ai A 22 (6 * s + t) + 1) (r22 : ∀ i, 0 ≤ i → i ≠ 6 * s + t → ai A' 22 i = ai A 22 i) (r28 : ∀ i, 0 ≤ i → i ≠ 6 * (6 * s + t) + d → ai A' 28 i = ai A 28 i) (h28 : ai A' 28 (6 * (6 * s + t) + d) ≤ 5) (hd : d = ai A 22 (6 * s + t)) (g : ∀ q, 0 ≤ q → ai A 22 q ≤ 6) (hd5 : 0 ≤ d ∧ d ≤ 5) (hs : 0 ≤ s) : XUm A' s := by
  intro u q u0 u1 q0 q1
  rw [ai_fr r19] at u1
  by_cases e : u = t
  · subst e
    by_cases e2 : q = d
    · rw [e2]; exact h28
    · rw [r28 _ (by omega) (by omega)]
      exact h u q u0 u1 q0 (by omega)
  · rw [r22 _ (by omega) (by omega)] at q1
    have := g (6 * s + u) (by omega)
    rw [r28 _ (by omega) (by omega)]
    exact h u q u0 u1 q0 q1
theorem XMm.sp {t : Int} (h : XMm A s) (r19 : A' 19 = A 19) (z : ai A' 22 (6 * s + t) = ai A 22 (6 * s + t) + 1) (r22 : ∀ i, 0 ≤ i → i ≠ 6 * s + t → ai A' 22 i = ai A 22 i) (k : ∀ q, q = 29 ∨ q = 30 ∨ q = 31 ∨ q = 32 → A' q = A q) (hs : 0 ≤ s) : XMm A' s := by
  intro m m0 m1
  rw [ai_fr (k 29 (by omega))] at m1
  obtain ⟨a, b⟩ := h m m0 m1
  rw [ai_fr (k 30 (by omega)), ai_fr (k 31 (by omega)), ai_fr (k 32 (by omega)), ai_fr r19]
  refine ⟨a, fun e => ?_⟩
  obtain ⟨b1, b2, b3⟩ := b e
  refine ⟨b1, b2, ?_⟩
  by_cases e2 : ai A 31 (6 * s + m) = t
  · rw [e2] at b3 ⊢; omega
  · rw [r22 _ (by omega) (by omega)]; exact b3
/-- a new man -/
theorem XMm.mn (h : XMm A s) (z : ai A' 29 s = ai A 29 s + 1) (r19 : A' 19 = A 19) (r22 : A' 22 = A 22) (r30 : ∀ i, 0 ≤ i → i ≠ 6 * s + d → ai A' 30 i = ai A 30 i) (r31 : ∀ i, 0 ≤ i → i ≠ 6 * s + d → ai A' 31 i = ai A 31 i) (r32 : ∀ i, 0 ≤ i → i ≠ 6 * s + d → ai A' 32 i = ai A 32 i) (n : 0 ≤ ai A' 30 (6 * s + d) ∧ (0 ≤ ai A' 31 (6 * s + d) → ai A' 31 (6 * s + d) < ai A 19 s ∧ 0 ≤ ai A' 32 (6 * s + d) ∧ ai A' 32 (6 * s + d) < ai A 22 (6 * s + ai A' 31 (6 * s + d)))) (hd : d = ai A 29 s) (hs : 0 ≤ s) : XMm A' s := by
  intro m m0 m1
  rw [ai_fr r19, ai_fr r22]
  by_cases e : m = d
  · rw [e]; exact n
  · rw [r30 _ (by omega) (by omega), r31 _ (by omega) (by omega), r32 _ (by omega) (by omega)]
    exact h m m0 (by omega)
end X
