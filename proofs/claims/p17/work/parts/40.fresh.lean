/-! a fresh object: shapes of cells, the fields that the constructors leave (printed by wip/fresh.py) -/
def x_ve : Value → Value → Bool
  | .int a, .int b => decide (a = b)
  | .ref a, .ref b => decide (a = b)
  | _, _ => false
theorem x_ve_eq {v w : Value} (h : x_ve v w = true) : v = w := by
  unfold x_ve at h
  split at h
  · rw [of_decide_eq_true h]
  · rw [of_decide_eq_true h]
  · cases h
def x_vs : List Value → List Value → Bool
  | [], [] => true
  | v :: l, w :: m => x_vs l m && x_ve v w
  | _, _ => false
theorem x_vs_eq : ∀ {l m : List Value}, x_vs l m = true → l = m
  | [], [], _ => rfl
  | v :: l, w :: m, h => by
    have h : (x_vs l m && x_ve v w) = true := h
    rw [Bool.and_eq_true] at h
    rw [x_vs_eq h.1, x_ve_eq h.2]
  | [], _ :: _, h => absurd (show false = true from h) Bool.false_ne_true
  | _ :: _, [], h => absurd (show false = true from h) Bool.false_ne_true
def x_rI (x : gE) : Nat → Int32 := match x with
  | .inl (_, _, .inl g) => g
  | _ => fun _ => 0
def x_rJ (x : gE) : Nat → Int64 := match x with
  | .inl (_, _, .inr (.inl g)) => g
  | _ => fun _ => 0
def x_rR (x : gE) : Nat → Option Nat := match x with
  | .inl (_, _, .inr (.inr (.inr (.inr g)))) => g
  | _ => fun _ => none
/-- a cell of that shape: fields all told, rows by type and length alone -/
def x_se (x e : gE) : Bool := match e with
  | .inr (c, l) => (match x with | .inr (c', l') => decide (c' = c) && x_vs l' l | _ => false)
  | .inl (t, n, .inl _) => (match x with | .inl (t', n', .inl _) => decide (t' = t) && decide (n' = n) | _ => false)
  | .inl (t, n, .inr (.inl _)) => (match x with | .inl (t', n', .inr (.inl _)) => decide (t' = t) && decide (n' = n) | _ => false)
  | .inl (t, n, .inr (.inr (.inr (.inr _)))) => (match x with | .inl (t', n', .inr (.inr (.inr (.inr _)))) => decide (t' = t) && decide (n' = n) | _ => false)
  | _ => false
def x_put (e x : gE) : gE := match e with
  | .inl (t, n, .inl _) => .inl (t, n, .inl (x_rI x))
  | .inl (t, n, .inr (.inl _)) => .inl (t, n, .inr (.inl (x_rJ x)))
  | .inl (t, n, .inr (.inr (.inr (.inr _)))) => .inl (t, n, .inr (.inr (.inr (.inr (x_rR x)))))
  | e => e
theorem x_se_put {x e : gE} (h : x_se x e = true) : x = x_put e x := by
  unfold x_se at h
  split at h
  · split at h
    · rw [Bool.and_eq_true] at h
      have h1 := of_decide_eq_true h.1
      have h2 := x_vs_eq h.2
      subst h1; subst h2; rfl
    · cases h
  · split at h
    · rw [Bool.and_eq_true] at h
      have h1 := of_decide_eq_true h.1
      have h2 := of_decide_eq_true h.2
      subst h1; subst h2; rfl
    · cases h
  · split at h
    · rw [Bool.and_eq_true] at h
      have h1 := of_decide_eq_true h.1
      have h2 := of_decide_eq_true h.2
      subst h1; subst h2; rfl
    · cases h
  · split at h
    · rw [Bool.and_eq_true] at h
      have h1 := of_decide_eq_true h.1
      have h2 := of_decide_eq_true h.2
      subst h1; subst h2; rfl
    · cases h
  · cases h
def x_ses : List gE → List gE → Bool
  | [], [] => true
  | x :: l, e :: m => x_ses l m && x_se x e
  | _, _ => false
theorem x_ses_put : ∀ {l m : List gE}, x_ses l m = true → l = List.zipWith x_put m l
  | [], [], _ => rfl
  | x :: l, e :: m, h => by
    have h : (x_ses l m && x_se x e) = true := h
    rw [Bool.and_eq_true] at h
    show x :: l = x_put e x :: List.zipWith x_put m l
    rw [← x_se_put h.2, ← x_ses_put h.1]
  | [], _ :: _, h => absurd (show false = true from h) Bool.false_ne_true
  | _ :: _, [], h => absurd (show false = true from h) Bool.false_ne_true
def x_d (l : List gE) (o : Nat) : gE := l.getD o (.inr (0, []))
def x_F : Nat → Nat → Int32 := fun r => bif Nat.beq r 0 then (fun k => bif Nat.beq k 11 then (-1) else 0) else bif Nat.beq r 27 then (fun k => bif Nat.beq k 18 then 480 else 0) else bif Nat.beq r 28 then (fun k => bif Nat.beq k 18 then 480 else 0) else bif Nat.beq r 32 then (fun k => bif Nat.beq k 6 then (-1) else 0) else bif Nat.beq r 36 then (fun k => bif Nat.beq k 101 then (-1) else 0) else fun _ => 0
def x_P : Nat → Nat → Nat := fun r => bif Nat.beq r 0 then (fun k => bif Nat.beq k 8 then 27 else bif Nat.beq k 9 then 28 else 0) else bif Nat.beq r 32 then (fun k => bif Nat.beq k 4 then 27 else bif Nat.beq k 9 then 34816 else 0) else bif Nat.beq r 36 then (fun k => bif Nat.beq k 8 then 27 else bif Nat.beq k 9 then 33 else 0) else bif Nat.beq r 37 then (fun k => bif Nat.beq k 5 then 28 else bif Nat.beq k 6 then 3 else 0) else fun _ => 0
theorem x_l0 {l : List gE} {r : Nat} {p : Nat → Nat} {f : Nat → Int32} (h : x_ses l (c_lay0 r p f (fun _ _ => 0) (fun _ _ => 0)) = true) : l = c_lay0 r p f (fun o => x_rI (x_d l o)) (fun o => x_rJ (x_d l o)) := by
  have h1 := x_ses_put h
  obtain _ | ⟨x0, l⟩ := l
  · exact absurd (show false = true from h) Bool.false_ne_true
  obtain _ | ⟨y, l⟩ := l
  · exact h1
  · exact absurd (show false = true from h) Bool.false_ne_true
theorem x_l1 {l : List gE} {r : Nat} {p : Nat → Nat} {f : Nat → Int32} (h : x_ses l (c_lay1 r p f (fun _ _ => 0) (fun _ _ => 0)) = true) : l = c_lay1 r p f (fun o => x_rI (x_d l o)) (fun o => x_rJ (x_d l o)) := by
  have h1 := x_ses_put h
  obtain _ | ⟨x0, l⟩ := l
  · exact absurd (show false = true from h) Bool.false_ne_true
  obtain _ | ⟨x1, l⟩ := l
  · exact absurd (show false = true from h) Bool.false_ne_true
  obtain _ | ⟨y, l⟩ := l
  · exact h1
  · exact absurd (show false = true from h) Bool.false_ne_true
theorem x_l2 {l : List gE} {r : Nat} {p : Nat → Nat} {f : Nat → Int32} (h : x_ses l (c_lay2 r p f (fun _ _ => 0) (fun _ _ => 0)) = true) : l = c_lay2 r p f (fun o => x_rI (x_d l o)) (fun o => x_rJ (x_d l o)) := by
  have h1 := x_ses_put h
  obtain _ | ⟨x0, l⟩ := l
  · exact absurd (show false = true from h) Bool.false_ne_true
  obtain _ | ⟨x1, l⟩ := l
  · exact absurd (show false = true from h) Bool.false_ne_true
  obtain _ | ⟨x2, l⟩ := l
  · exact absurd (show false = true from h) Bool.false_ne_true
  obtain _ | ⟨x3, l⟩ := l
  · exact absurd (show false = true from h) Bool.false_ne_true
  obtain _ | ⟨x4, l⟩ := l
  · exact absurd (show false = true from h) Bool.false_ne_true
  obtain _ | ⟨x5, l⟩ := l
  · exact absurd (show false = true from h) Bool.false_ne_true
  obtain _ | ⟨x6, l⟩ := l
  · exact absurd (show false = true from h) Bool.false_ne_true
  obtain _ | ⟨x7, l⟩ := l
  · exact absurd (show false = true from h) Bool.false_ne_true
  obtain _ | ⟨y, l⟩ := l
  · exact h1
  · exact absurd (show false = true from h) Bool.false_ne_true
theorem x_l4 {l : List gE} {r : Nat} {p : Nat → Nat} {f : Nat → Int32} (h : x_ses l (c_lay4 r p f (fun _ _ => 0) (fun _ _ => 0)) = true) : l = c_lay4 r p f (fun o => x_rI (x_d l o)) (fun o => x_rJ (x_d l o)) := by
  have h1 := x_ses_put h
  obtain _ | ⟨x0, l⟩ := l
  · exact absurd (show false = true from h) Bool.false_ne_true
  obtain _ | ⟨x1, l⟩ := l
  · exact absurd (show false = true from h) Bool.false_ne_true
  obtain _ | ⟨x2, l⟩ := l
  · exact absurd (show false = true from h) Bool.false_ne_true
  obtain _ | ⟨y, l⟩ := l
  · exact h1
  · exact absurd (show false = true from h) Bool.false_ne_true
theorem x_l6 {l : List gE} {r : Nat} {p : Nat → Nat} {f : Nat → Int32} (h : x_ses l (c_lay6 r p f (fun _ _ => 0) (fun _ _ => 0)) = true) : l = c_lay6 r p f (fun o => x_rI (x_d l o)) (fun o => x_rJ (x_d l o)) := by
  have h1 := x_ses_put h
  obtain _ | ⟨x0, l⟩ := l
  · exact absurd (show false = true from h) Bool.false_ne_true
  obtain _ | ⟨x1, l⟩ := l
  · exact absurd (show false = true from h) Bool.false_ne_true
  obtain _ | ⟨x2, l⟩ := l
  · exact absurd (show false = true from h) Bool.false_ne_true
  obtain _ | ⟨x3, l⟩ := l
  · exact absurd (show false = true from h) Bool.false_ne_true
  obtain _ | ⟨x4, l⟩ := l
  · exact absurd (show false = true from h) Bool.false_ne_true
  obtain _ | ⟨x5, l⟩ := l
  · exact absurd (show false = true from h) Bool.false_ne_true
  obtain _ | ⟨x6, l⟩ := l
  · exact absurd (show false = true from h) Bool.false_ne_true
  obtain _ | ⟨x7, l⟩ := l
  · exact absurd (show false = true from h) Bool.false_ne_true
  obtain _ | ⟨x8, l⟩ := l
  · exact absurd (show false = true from h) Bool.false_ne_true
  obtain _ | ⟨x9, l⟩ := l
  · exact absurd (show false = true from h) Bool.false_ne_true
  obtain _ | ⟨x10, l⟩ := l
  · exact absurd (show false = true from h) Bool.false_ne_true
  obtain _ | ⟨x11, l⟩ := l
  · exact absurd (show false = true from h) Bool.false_ne_true
  obtain _ | ⟨x12, l⟩ := l
  · exact absurd (show false = true from h) Bool.false_ne_true
  obtain _ | ⟨x13, l⟩ := l
  · exact absurd (show false = true from h) Bool.false_ne_true
  obtain _ | ⟨x14, l⟩ := l
  · exact absurd (show false = true from h) Bool.false_ne_true
  obtain _ | ⟨x15, l⟩ := l
  · exact absurd (show false = true from h) Bool.false_ne_true
  obtain _ | ⟨x16, l⟩ := l
  · exact absurd (show false = true from h) Bool.false_ne_true
  obtain _ | ⟨x17, l⟩ := l
  · exact absurd (show false = true from h) Bool.false_ne_true
  obtain _ | ⟨y, l⟩ := l
  · exact h1
  · exact absurd (show false = true from h) Bool.false_ne_true
theorem x_l7 {l : List gE} {r : Nat} {p : Nat → Nat} {f : Nat → Int32} (h : x_ses l (c_lay7 r p f (fun _ _ => 0) (fun _ _ => 0)) = true) : l = c_lay7 r p f (fun o => x_rI (x_d l o)) (fun o => x_rJ (x_d l o)) := by
  have h1 := x_ses_put h
  obtain _ | ⟨x0, l⟩ := l
  · exact absurd (show false = true from h) Bool.false_ne_true
  obtain _ | ⟨y, l⟩ := l
  · exact h1
  · exact absurd (show false = true from h) Bool.false_ne_true
theorem x_l8 {l : List gE} {r : Nat} {p : Nat → Nat} {f : Nat → Int32} (h : x_ses l (c_lay8 r p f (fun _ _ => 0) (fun _ _ => 0)) = true) : l = c_lay8 r p f (fun o => x_rI (x_d l o)) (fun o => x_rJ (x_d l o)) := by
  have h1 := x_ses_put h
  obtain _ | ⟨x0, l⟩ := l
  · exact absurd (show false = true from h) Bool.false_ne_true
  obtain _ | ⟨y, l⟩ := l
  · exact h1
  · exact absurd (show false = true from h) Bool.false_ne_true
theorem x_l9 {l : List gE} {r : Nat} {p : Nat → Nat} {f : Nat → Int32} (h : x_ses l (c_lay9 r p f (fun _ _ => 0) (fun _ _ => 0)) = true) : l = c_lay9 r p f (fun o => x_rI (x_d l o)) (fun o => x_rJ (x_d l o)) := by
  have h1 := x_ses_put h
  obtain _ | ⟨x0, l⟩ := l
  · exact absurd (show false = true from h) Bool.false_ne_true
  obtain _ | ⟨y, l⟩ := l
  · exact h1
  · exact absurd (show false = true from h) Bool.false_ne_true
theorem x_l10 {l : List gE} {r : Nat} {p : Nat → Nat} {f : Nat → Int32} (h : x_ses l (c_lay10 r p f (fun _ _ => 0) (fun _ _ => 0)) = true) : l = c_lay10 r p f (fun o => x_rI (x_d l o)) (fun o => x_rJ (x_d l o)) := by
  have h1 := x_ses_put h
  obtain _ | ⟨x0, l⟩ := l
  · exact absurd (show false = true from h) Bool.false_ne_true
  obtain _ | ⟨x1, l⟩ := l
  · exact absurd (show false = true from h) Bool.false_ne_true
  obtain _ | ⟨x2, l⟩ := l
  · exact absurd (show false = true from h) Bool.false_ne_true
  obtain _ | ⟨x3, l⟩ := l
  · exact absurd (show false = true from h) Bool.false_ne_true
  obtain _ | ⟨x4, l⟩ := l
  · exact absurd (show false = true from h) Bool.false_ne_true
  obtain _ | ⟨x5, l⟩ := l
  · exact absurd (show false = true from h) Bool.false_ne_true
  obtain _ | ⟨x6, l⟩ := l
  · exact absurd (show false = true from h) Bool.false_ne_true
  obtain _ | ⟨x7, l⟩ := l
  · exact absurd (show false = true from h) Bool.false_ne_true
  obtain _ | ⟨x8, l⟩ := l
  · exact absurd (show false = true from h) Bool.false_ne_true
  obtain _ | ⟨x9, l⟩ := l
  · exact absurd (show false = true from h) Bool.false_ne_true
  obtain _ | ⟨y, l⟩ := l
  · exact h1
  · exact absurd (show false = true from h) Bool.false_ne_true
theorem x_l11 {l : List gE} {r : Nat} {p : Nat → Nat} {f : Nat → Int32} (h : x_ses l (c_lay11 r p f (fun _ _ => 0) (fun _ _ => 0)) = true) : l = c_lay11 r p f (fun o => x_rI (x_d l o)) (fun o => x_rJ (x_d l o)) := by
  have h1 := x_ses_put h
  obtain _ | ⟨x0, l⟩ := l
  · exact absurd (show false = true from h) Bool.false_ne_true
  obtain _ | ⟨x1, l⟩ := l
  · exact absurd (show false = true from h) Bool.false_ne_true
  obtain _ | ⟨x2, l⟩ := l
  · exact absurd (show false = true from h) Bool.false_ne_true
  obtain _ | ⟨x3, l⟩ := l
  · exact absurd (show false = true from h) Bool.false_ne_true
  obtain _ | ⟨x4, l⟩ := l
  · exact absurd (show false = true from h) Bool.false_ne_true
  obtain _ | ⟨x5, l⟩ := l
  · exact absurd (show false = true from h) Bool.false_ne_true
  obtain _ | ⟨x6, l⟩ := l
  · exact absurd (show false = true from h) Bool.false_ne_true
  obtain _ | ⟨x7, l⟩ := l
  · exact absurd (show false = true from h) Bool.false_ne_true
  obtain _ | ⟨x8, l⟩ := l
  · exact absurd (show false = true from h) Bool.false_ne_true
  obtain _ | ⟨x9, l⟩ := l
  · exact absurd (show false = true from h) Bool.false_ne_true
  obtain _ | ⟨x10, l⟩ := l
  · exact absurd (show false = true from h) Bool.false_ne_true
  obtain _ | ⟨y, l⟩ := l
  · exact h1
  · exact absurd (show false = true from h) Bool.false_ne_true
/-! 277 cells, 8315 slots; with the reference 340 cells, 20126 slots; constructors 98, 138 -/
