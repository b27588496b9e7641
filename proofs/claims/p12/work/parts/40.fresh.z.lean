section Qz34
/-! a fresh object: shapes of cells, the fields that the constructors leave (printed by wip/fresh.py) -/
def x_ve : Value → Value → Bool
  | .int a, .int b => decide (a = b)
  | .ref a, .ref b => decide (a = b)
  | _, _ => false
theorem x_ve_eq {v w : Value} (h : x_ve v w = true) : v = w := by
  unfold x_ve at h
  split at h
  · rw [of_decide_eq_true h]
  · rw [of_decide_eq_true h]
  · cases h
def x_vs : List Value → List Value → Bool
  | [], [] => true
  | v :: l, w :: m => x_vs l m && x_ve v w
  | _, _ => false
theorem x_vs_eq : ∀ {l m : List Value}, x_vs l m = true → l = m
  | [], [], _ => rfl
  | v :: l, w :: m, h => by
    have h : (x_vs l m && x_ve v w) = true := h
    rw [Bool.and_eq_true] at h
    rw [x_vs_eq h.1, x_ve_eq h.2]
  | [], _ :: _, h => absurd (show false = true from h) Bool.false_ne_true
  | _ :: _, [], h => absurd (show false = true from h) Bool.false_ne_true
def x_rI (x : gE) : Nat → Int32 := match x with
  | .inl (_, _, .inl g) => g
  | _ => fun _ => 0
def x_rJ (x : gE) : Nat → Int64 := match x with
  | .inl (_, _, .inr (.inl g)) => g
  | _ => fun _ => 0
def x_rR (x : gE) : Nat → Option Nat := match x with
  | .inl (_, _, .inr (.inr (.inr (.inr g)))) => g
  | _ => fun _ => none
/-- a cell of that shape: fields all told, rows by type and length alone -/
def x_se (x e : gE) : Bool := match e with
  | .inr (c, l) => (match x with | .inr (c', l') => decide (c' = c) && x_vs l' l | _ => false)
  | .inl (t, n, .inl _) => (match x with | .inl (t', n', .inl _) => decide (t' = t) && decide (n' = n) | _ => false)
  | .inl (t, n, .inr (.inl _)) => (match x with | .inl (t', n', .inr (.inl _)) => decide (t' = t) && decide (n' = n) | _ => false)
  | .inl (t, n, .inr (.inr (.inr (.inr _)))) => (match x with | .inl (t', n', .inr (.inr (.inr (.inr _)))) => decide (t' = t) && decide (n' = n) | _ => false)
  | _ => false
def x_put (e x : gE) : gE := match e with
  | .inl (t, n, .inl _) => .inl (t, n, .inl (x_rI x))
  | .inl (t, n, .inr (.inl _)) => .inl (t, n, .inr (.inl (x_rJ x)))
  | .inl (t, n, .inr (.inr (.inr (.inr _)))) => .inl (t, n, .inr (.inr (.inr (.inr (x_rR x)))))
  | e => e
theorem x_se_put {x e : gE} (h : x_se x e = true) : x = x_put e x := by
  unfold x_se at h
  split at h
  · split at h
    · rw [Bool.and_eq_true] at h
      have h1 := of_decide_eq_true h.1
      have h2 := x_vs_eq h.2
      subst h1; subst h2; rfl
    · cases h
  · split at h
    · rw [Bool.and_eq_true] at h
      have h1 := of_decide_eq_true h.1
      have h2 := of_decide_eq_true h.2
      subst h1; subst h2; rfl
    · cases h
  · split at h
    · rw [Bool.and_eq_true] at h
      have h1 := of_decide_eq_true h.1
      have h2 := of_decide_eq_true h.2
      subst h1; subst h2; rfl
    · cases h
  · split at h
    · rw [Bool.and_eq_true] at h
      have h1 := of_decide_eq_true h.1
      have h2 := of_decide_eq_true h.2
      subst h1; subst h2; rfl
    · cases h
  · cases h
def x_ses : List gE → List gE → Bool
  | [], [] => true
  | x :: l, e :: m => x_ses l m && x_se x e
  | _, _ => false
theorem x_ses_put : ∀ {l m : List gE}, x_ses l m = true → l = List.zipWith x_put m l
  | [], [], _ => rfl
  | x :: l, e :: m, h => by
    have h : (x_ses l m && x_se x e) = true := h
    rw [Bool.and_eq_true] at h
    show x :: l = x_put e x :: List.zipWith x_put m l
    rw [← x_se_put h.2, ← x_ses_put h.1]
  | [], _ :: _, h => absurd (show false = true from h) Bool.false_ne_true
  | _ :: _, [], h => absurd (show false = true from h) Bool.false_ne_true
def x_d (l : List gE) (o : Nat) : gE := l.getD o (.inr (0, []))
def x_F : Nat → Nat → Int32 := fun r => bif Nat.beq r 0 then (fun k => bif Nat.beq k 11 then (-1) else 0) else bif Nat.beq r 27 then (fun k => bif Nat.beq k 18 then 480 else 0) else bif Nat.beq r 28 then (fun k => bif Nat.beq k 18 then 480 else 0) else bif Nat.beq r 32 then (fun k => bif Nat.beq k 6 then (-1) else 0) else bif Nat.beq r 36 then (fun k => bif Nat.beq k 101 then (-1) else 0) else fun _ => 0
def x_P : Nat → Nat → Nat := fun r => bif Nat.beq r 0 then (fun k => bif Nat.beq k 8 then 27 else bif Nat.beq k 9 then 28 else 0) else bif Nat.beq r 32 then (fun k => bif Nat.beq k 4 then 27 else bif Nat.beq k 9 then 34816 else 0) else bif Nat.beq r 36 then (fun k => bif Nat.beq k 8 then 27 else bif Nat.beq k 9 then 33 else 0) else bif Nat.beq r 37 then (fun k => bif Nat.beq k 5 then 28 else bif Nat.beq k 6 then 3 else 0) else fun _ => 0
theorem x_l0 {l : List gE} {r : Nat} {p : Nat → Nat} {f : Nat → Int32} (h : x_ses l (c_lay0 r p f (fun _ _ => 0) (fun _ _ => 0)) = true) : l = c_lay0 r p f (fun o => x_rI (x_d l o)) (fun o => x_rJ (x_d l o)) := by
  have h1 := x_ses_put h
  obtain _ | ⟨x0, l⟩ := l
  · exact absurd (show false = true from h) Bool.false_ne_true
  obtain _ | ⟨y, l⟩ := l
  · exact h1
  · exact absurd (show false = true from h) Bool.false_ne_true
theorem x_l1 {l : List gE} {r : Nat} {p : Nat → Nat} {f : Nat → Int32} (h : x_ses l (c_lay1 r p f (fun _ _ => 0) (fun _ _ => 0)) = true) : l = c_lay1 r p f (fun o => x_rI (x_d l o)) (fun o => x_rJ (x_d l o)) := by
  have h1 := x_ses_put h
  obtain _ | ⟨x0, l⟩ := l
  · exact absurd (show false = true from h) Bool.false_ne_true
  obtain _ | ⟨x1, l⟩ := l
  · exact absurd (show false = true from h) Bool.false_ne_true
  obtain _ | ⟨y, l⟩ := l
  · exact h1
  · exact absurd (show false = true from h) Bool.false_ne_true
theorem x_l2 {l : List gE} {r : Nat} {p : Nat → Nat} {f : Nat → Int32} (h : x_ses l (c_lay2 r p f (fun _ _ => 0) (fun _ _ => 0)) = true) : l = c_lay2 r p f (fun o => x_rI (x_d l o)) (fun o => x_rJ (x_d l o)) := by
  have h1 := x_ses_put h
  obtain _ | ⟨x0, l⟩ := l
  · exact absurd (show false = true from h) Bool.false_ne_true
  obtain _ | ⟨x1, l⟩ := l
  · exact absurd (show false = true from h) Bool.false_ne_true
  obtain _ | ⟨x2, l⟩ := l
  · exact absurd (show false = true from h) Bool.false_ne_true
  obtain _ | ⟨x3, l⟩ := l
  · exact absurd (show false = true from h) Bool.false_ne_true
  obtain _ | ⟨x4, l⟩ := l
  · exact absurd (show false = true from h) Bool.false_ne_true
  obtain _ | ⟨x5, l⟩ := l
  · exact absurd (show false = true from h) Bool.false_ne_true
  obtain _ | ⟨x6, l⟩ := l
  · exact absurd (show false = true from h) Bool.false_ne_true
  obtain _ | ⟨x7, l⟩ := l
  · exact absurd (show false = true from h) Bool.false_ne_true
  obtain _ | ⟨y, l⟩ := l
  · exact h1
  · exact absurd (show false = true from h) Bool.false_ne_true
theorem x_l4 {l : List gE} {r : Nat} {p : Nat → Nat} {f : Nat → Int32} (h : x_ses l (c_lay4 r p f (fun _ _ => 0) (fun _ _ => 0)) = true) : l = c_lay4 r p f (fun o => x_rI (x_d l o)) (fun o => x_rJ (x_d l o)) := by
  have h1 := x_ses_put h
  obtain _ | ⟨x0, l⟩ := l
  · exact absurd (show false = true from h) Bool.false_ne_true
  obtain _ | ⟨x1, l⟩ := l
  · exact absurd (show false = true from h) Bool.false_ne_true
  obtain _ | ⟨x2, l⟩ := l
  · exact absurd (show false = true from h) Bool.false_ne_true
  obtain _ | ⟨y, l⟩ := l
  · exact h1
  · exact absurd (show false = true from h) Bool.false_ne_true
theorem x_l6 {l : List gE} {r : Nat} {p : Nat → Nat} {f : Nat → Int32} (h : x_ses l (c_lay6 r p f (fun _ _ => 0) (fun _ _ => 0)) = true) : l = c_lay6 r p f (fun o => x_rI (x_d l o)) (fun o => x_rJ (x_d l o)) := by
  have h1 := x_ses_put h
  obtain _ | ⟨x0, l⟩ := l
  · exact absurd (show false = true from h) Bool.false_ne_true
  obtain _ | ⟨x1, l⟩ := l
  · exact absurd (show false = true from h) Bool.false_ne_true
  obtain _ | ⟨x2, l⟩ := l
  · exact absurd (show false = true from h) Bool.false_ne_true
  obtain _ | ⟨x3, l⟩ := l
  · exact absurd (show false = true from h) Bool.false_ne_true
  obtain _ | ⟨x4, l⟩ := l
  · exact absurd (show false = true from h) Bool.false_ne_true
  obtain _ | ⟨x5, l⟩ := l
  · exact absurd (show false = true from h) Bool.false_ne_true
  obtain _ | ⟨x6, l⟩ := l
  · exact absurd (show false = true from h) Bool.false_ne_true
  obtain _ | ⟨x7, l⟩ := l
  · exact absurd (show false = true from h) Bool.false_ne_true
  obtain _ | ⟨x8, l⟩ := l
  · exact absurd (show false = true from h) Bool.false_ne_true
  obtain _ | ⟨x9, l⟩ := l
  · exact absurd (show false = true from h) Bool.false_ne_true
  obtain _ | ⟨x10, l⟩ := l
  · exact absurd (show false = true from h) Bool.false_ne_true
  obtain _ | ⟨x11, l⟩ := l
  · exact absurd (show false = true from h) Bool.false_ne_true
  obtain _ | ⟨x12, l⟩ := l
  · exact absurd (show false = true from h) Bool.false_ne_true
  obtain _ | ⟨x13, l⟩ := l
  · exact absurd (show false = true from h) Bool.false_ne_true
  obtain _ | ⟨x14, l⟩ := l
  · exact absurd (show false = true from h) Bool.false_ne_true
  obtain _ | ⟨x15, l⟩ := l
  · exact absurd (show false = true from h) Bool.false_ne_true
  obtain _ | ⟨x16, l⟩ := l
  · exact absurd (show false = true from h) Bool.false_ne_true
  obtain _ | ⟨x17, l⟩ := l
  · exact absurd (show false = true from h) Bool.false_ne_true
  obtain _ | ⟨y, l⟩ := l
  · exact h1
  · exact absurd (show false = true from h) Bool.false_ne_true
theorem x_l7 {l : List gE} {r : Nat} {p : Nat → Nat} {f : Nat → Int32} (h : x_ses l (c_lay7 r p f (fun _ _ => 0) (fun _ _ => 0)) = true) : l = c_lay7 r p f (fun o => x_rI (x_d l o)) (fun o => x_rJ (x_d l o)) := by
  have h1 := x_ses_put h
  obtain _ | ⟨x0, l⟩ := l
  · exact absurd (show false = true from h) Bool.false_ne_true
  obtain _ | ⟨y, l⟩ := l
  · exact h1
  · exact absurd (show false = true from h) Bool.false_ne_true
theorem x_l8 {l : List gE} {r : Nat} {p : Nat → Nat} {f : Nat → Int32} (h : x_ses l (c_lay8 r p f (fun _ _ => 0) (fun _ _ => 0)) = true) : l = c_lay8 r p f (fun o => x_rI (x_d l o)) (fun o => x_rJ (x_d l o)) := by
  have h1 := x_ses_put h
  obtain _ | ⟨x0, l⟩ := l
  · exact absurd (show false = true from h) Bool.false_ne_true
  obtain _ | ⟨y, l⟩ := l
  · exact h1
  · exact absurd (show false = true from h) Bool.false_ne_true
theorem x_l9 {l : List gE} {r : Nat} {p : Nat → Nat} {f : Nat → Int32} (h : x_ses l (c_lay9 r p f (fun _ _ => 0) (fun _ _ => 0)) = true) : l = c_lay9 r p f (fun o => x_rI (x_d l o)) (fun o => x_rJ (x_d l o)) := by
  have h1 := x_ses_put h
  obtain _ | ⟨x0, l⟩ := l
  · exact absurd (show false = true from h) Bool.false_ne_true
  obtain _ | ⟨y, l⟩ := l
  · exact h1
  · exact absurd (show false = true from h) Bool.false_ne_true
theorem x_l10 {l : List gE} {r : Nat} {p : Nat → Nat} {f : Nat → Int32} (h : x_ses l (c_lay10 r p f (fun _ _ => 0) (fun _ _ => 0)) = true) : l = c_lay10 r p f (fun o => x_rI (x_d l o)) (fun o => x_rJ (x_d l o)) := by
  have h1 := x_ses_put h
  obtain _ | ⟨x0, l⟩ := l
  · exact absurd (show false = true from h) Bool.false_ne_true
  obtain _ | ⟨x1, l⟩ := l
  · exact absurd (show false = true from h) Bool.false_ne_true
  obtain _ | ⟨x2, l⟩ := l
  · exact absurd (show false = true from h) Bool.false_ne_true
  obtain _ | ⟨x3, l⟩ := l
  · exact absurd (show false = true from h) Bool.false_ne_true
  obtain _ | ⟨x4, l⟩ := l
  · exact absurd (show false = true from h) Bool.false_ne_true
  obtain _ | ⟨x5, l⟩ := l
  · exact absurd (show false = true from h) Bool.false_ne_true
  obtain _ | ⟨x6, l⟩ := l
  · exact absurd (show false = true from h) Bool.false_ne_true
  obtain _ | ⟨x7, l⟩ := l
  · exact absurd (show false = true from h) Bool.false_ne_true
  obtain _ | ⟨x8, l⟩ := l
  · exact absurd (show false = true from h) Bool.false_ne_true
  obtain _ | ⟨x9, l⟩ := l
  · exact absurd (show false = true from h) Bool.false_ne_true
  obtain _ | ⟨y, l⟩ := l
  · exact h1
  · exact absurd (show false = true from h) Bool.false_ne_true
theorem x_l11 {l : List gE} {r : Nat} {p : Nat → Nat} {f : Nat → Int32} (h : x_ses l (c_lay11 r p f (fun _ _ => 0) (fun _ _ => 0)) = true) : l = c_lay11 r p f (fun o => x_rI (x_d l o)) (fun o => x_rJ (x_d l o)) := by
  have h1 := x_ses_put h
  obtain _ | ⟨x0, l⟩ := l
  · exact absurd (show false = true from h) Bool.false_ne_true
  obtain _ | ⟨x1, l⟩ := l
  · exact absurd (show false = true from h) Bool.false_ne_true
  obtain _ | ⟨x2, l⟩ := l
  · exact absurd (show false = true from h) Bool.false_ne_true
  obtain _ | ⟨x3, l⟩ := l
  · exact absurd (show false = true from h) Bool.false_ne_true
  obtain _ | ⟨x4, l⟩ := l
  · exact absurd (show false = true from h) Bool.false_ne_true
  obtain _ | ⟨x5, l⟩ := l
  · exact absurd (show false = true from h) Bool.false_ne_true
  obtain _ | ⟨x6, l⟩ := l
  · exact absurd (show false = true from h) Bool.false_ne_true
  obtain _ | ⟨x7, l⟩ := l
  · exact absurd (show false = true from h) Bool.false_ne_true
  obtain _ | ⟨x8, l⟩ := l
  · exact absurd (show false = true from h) Bool.false_ne_true
  obtain _ | ⟨x9, l⟩ := l
  · exact absurd (show false = true from h) Bool.false_ne_true
  obtain _ | ⟨x10, l⟩ := l
  · exact absurd (show false = true from h) Bool.false_ne_true
  obtain _ | ⟨y, l⟩ := l
  · exact h1
  · exact absurd (show false = true from h) Bool.false_ne_true
/-! 277 cells, 8315 slots; with the reference 340 cells, 20126 slots; constructors 98, 138 -/
end Qz34
section Qz35
/-! runs that don't look at the script, for the kernel: what is found at one script holds at each -/
/-- a number is brought to its digits before it goes on -/
def n_fz {α : Type} (n : Nat) (k : Nat → α) : α := Nat.rec (motive := fun _ => α) (k 0) (fun m _ => k (m + 1)) n
theorem n_fz_eq {α : Type} (n : Nat) (k : Nat → α) : n_fz n k = k n := by cases n <;> rfl
/-- an instruction that looks at the script -/
def n_trap (I : Instr) (st : List Value) : Bool := match I with
  | .iaload => (match st with | .int _ :: .float _ :: _ => true | _ => false)
  | .arraylength => (match st with | .float j :: _ => decide (j = 0) | _ => false)
  | _ => false
theorem n_mem {t t' : gT} (h1 : t.1 = t'.1) (h2 : t.2.1 = t'.2.1) {I : Instr} {r : List Nat} {st : List Value} {h : gH} (hn : n_trap I st = false) : g_mem t I r st h = g_mem t' I r st h := by
  unfold g_mem
  split <;> try rfl
  · rw [h1]
  · split
    · rfl
    · cases hn
    · rfl
  · split
    · rfl
    · cases hn
    · rfl
  · rw [h2]
theorem n_step {t t' : gT} (h1 : t.1 = t'.1) (h2 : t.2.1 = t'.2.1) {tb : List (List Int32)} {lg : Nat → Nat} {df : Nat → List Value} {nL : Nat} {I : Instr} {r : List Nat} {pc : Nat} {loc : List (Nat × Value)} {st : List Value} {h : gH} (hn : n_trap I st = false) : g_step t tb lg df nL I r pc loc st h = g_step t' tb lg df nL I r pc loc st h := by
  unfold g_step
  rw [n_mem h1 h2 hn]
def n_look : List (Nat × Instr × List Nat) → Nat → Option (Instr × List Nat)
  | [], _ => none
  | q :: l, pc => bif Nat.beq q.1 pc then some q.2 else n_look l pc
theorem n_look_eq (pc : Nat) : ∀ cd : List (Nat × Instr × List Nat), g_look cd pc = n_look cd pc
  | [] => rfl
  | q :: l => by
    have ih := n_look_eq pc l
    unfold g_look at ih ⊢
    unfold n_look
    by_cases h : q.1 = pc
    · rw [List.find?_cons_of_pos (by simpa using h), show Nat.beq q.1 pc = true from by rw [h]; exact Nat.beq_refl pc]
      rfl
    · rw [List.find?_cons_of_neg (by simpa using h), show Nat.beq q.1 pc = false from by
        cases hb : Nat.beq q.1 pc with
        | false => rfl
        | true => exact absurd (Nat.eq_of_beq_eq_true hb) h]
      exact ih
def k_cs : List (List (Nat × Instr × List Nat)) := [k_c0, k_c1, k_c2, k_c3, k_c4, k_c5, k_c6, k_c7, k_c8, k_c9, k_c10, k_c11, k_c12, k_c13, k_c14, k_c15, k_c16, k_c17, k_c18, k_c19, k_c20, k_c21, k_c22, k_c23, k_c24, k_c25, k_c26, k_c27, k_c28, k_c29, k_c30, k_c31, k_c32, k_c33, k_c34, k_c35, k_c36, k_c37, k_c38, k_c39, k_c40, k_c41, k_c42, k_c43, k_c44, k_c45, k_c46, k_c47, k_c48, k_c49, k_c50, k_c51, k_c52, k_c53, k_c54, k_c55, k_c56, k_c57, k_c58, k_c59, k_c60, k_c61, k_c62, k_c63, k_c64, k_c65, k_c66, k_c67, k_c68, k_c69, k_c70, k_c71, k_c72, k_c73, k_c74, k_c75, k_c76, k_c77, k_c78, k_c79, k_c80, k_c81, k_c82, k_c83, k_c84, k_c85, k_c86, k_c87, k_c88, k_c89, k_c90, k_c91, k_c92, k_c93, k_c94, k_c95, k_c96, k_c97, k_c98, k_c99, k_c100, k_c101, k_c102, k_c103, k_c104, k_c105, k_c106, k_c107, k_c108, k_c109, k_c110, k_c111, k_c112, k_c113, k_c114, k_c115, k_c116, k_c117, k_c118, k_c119, k_c120, k_c121, k_c122, k_c123, k_c124, k_c125, k_c126, k_c127, k_c128, k_c129, k_c130, k_c131, k_c132, k_c133, k_c134, k_c135, k_c136, k_c137, k_c138, k_c139, k_c140, k_c141, k_c142, k_c143, k_c144, k_c145, k_c146, k_c147, k_c148, k_c149, k_c150, k_c151, k_c152, k_c153, k_c154, k_c155, k_c156, k_c157, k_c158, k_c159, k_c160, k_c161, k_c162, k_c163, k_c164, k_c165, k_c166, k_c167, k_c168, k_c169, k_c170, k_c171, k_c172, k_c173, k_c174, k_c175, k_c176, k_c177, k_c178, k_c179, k_c180, k_c181, k_c182, k_c183, k_c184, k_c185, k_c186, k_c187, k_c188, k_c189, k_c190, k_c191, k_c192, k_c193, k_c194, k_c195, k_c196, k_c197, k_c198, k_c199, k_c200, k_c201, k_c202, k_c203, k_c204, k_c205, k_c206, k_c207, k_c208, k_c209, k_c210, k_c211, k_c212, k_c213, k_c214, k_c215, k_c216, k_c217, k_c218, k_c219, k_c220, k_c221, k_c222, k_c223, k_c224, k_c225, k_c226, k_c227, k_c228, k_c229, k_c230, k_c231, k_c232, k_c233, k_c234, k_c235, k_c236, k_c237, k_c238, k_c239, k_c240, k_c241, k_c242, k_c243, k_c244, k_c245, k_c246, k_c247, k_c248, k_c249, k_c250, k_c251, k_c252, k_c253, k_c254, k_c255, k_c256, k_c257, k_c258, k_c259, k_c260, k_c261, k_c262, k_c263, k_c264, k_c265, k_c266, k_c267, k_c268, k_c269, k_c270, k_c271]
def n_cd (M : Nat) : List (Nat × Instr × List Nat) := k_cs.getD M k_c0
set_option maxRecDepth 100000 in
theorem n_cs : k_ms.map (fun m => m.2) = k_cs.map g_look := rfl
theorem n_getD {α β : Type} (g : α → β) (a : α) : ∀ (l : List α) (n : Nat), (l.map g).getD n (g a) = g (l.getD n a)
  | [], _ => rfl
  | _ :: _, 0 => rfl
  | _ :: l, n + 1 => n_getD g a l n
theorem n_cd_eq (M pc : Nat) : (k_mt M).2 pc = n_look (n_cd M) pc := by
  rw [← n_look_eq]
  have h1 : (k_mt M).2 = (k_ms.map (fun m => m.2)).getD M (k_m0.2) := (n_getD (fun m : gM => m.2) k_m0 k_ms M).symm
  rw [h1, n_cs]
  exact congrFun (n_getD g_look k_c0 k_cs M) pc
/-- what fill does with a row of ints -/
def n_fill (as : List Value) (h : gH) : Option (Option Value × gH) := match as with
  | [.ref a, .int x] => (match g_get h a with
    | some (.inl (0, n, .inl f)) => if n < 2 ^ 31 then some (none, g_set h a (.inl (0, n, .inl fun i => if i < n then x else f i))) else none
    | _ => none)
  | _ => none
def n_exec (t : gT) (lg : Nat → Nat) : Nat → Nat → Nat → Nat → List (Nat × Value) → List Value → gH → Option (Option Value × gH)
  | 0, _, _, _, _, _, _ => none
  | n + 1, d, M, pc, loc, st, h => n_fz pc fun pc => match n_look (n_cd M) pc with
    | none => none
    | some (I, r) => match n_trap I st with
      | true => none
      | false => match g_step t k_tb lg k_df (k_mt M).1.2.2.1 I r pc loc st h with
        | some (pc', loc', st', h') => n_exec t lg n d M pc' loc' st' h'
        | none => match g_ret (k_mt M).1.2.2.2 I st with
          | some v => some (v, h)
          | none => match g_inv k_tb.length k_mt I r st h, d with
            | some (M', as, rest), d' + 1 => match (bif Nat.beq M' 268 then n_fill as h else n_exec t lg n d' M' 0 (lv_args 0 as) [] h) with
              | some (v, h1) => n_exec t lg n (d' + 1) M (pc + 3) loc (v.toList ++ rest) h1
              | none => none
            | _, _ => none
theorem g_set_set {h : gH} {k : Nat} {e e' : gE} : g_set (g_set h k e) k e' = g_set h k e' := by
  unfold g_set
  refine Prod.ext rfl ?_
  funext q
  simp only [va_up]
  by_cases hq : q = k / 1024
  · rw [if_pos hq, if_pos hq, if_pos trivial, List.set_set]
  · rw [if_neg hq, if_neg hq, if_neg hq]
theorem g_set_get {h : gH} {k : Nat} {e : gE} (hg : g_get h k = some e) : g_set h k e = h := by
  unfold g_set
  refine Prod.ext rfl ?_
  funext q
  simp only [va_up]
  by_cases hq : q = k / 1024
  · rw [if_pos hq, hq]
    refine List.ext_getElem? fun i => ?_
    rw [List.getElem?_set]
    split
    next hi =>
      subst hi
      have hl := (List.getElem?_eq_some_iff.mp hg).1
      rw [if_pos hl]
      exact hg.symm
    next => rfl
  · rw [if_neg hq]
section NF
variable {t : gT} {lg : Nat → Nat} {d : Nat}
theorem n_fill_5 {h : gH} {a n : Nat} {f : Nat → Int32} {x : Int32} (hg : g_get h a = some (.inl (0, n, .inl f))) (hn : n < 2 ^ 31) : ∀ (m k : Nat), n - k = m → k ≤ n →
    k_run t lg d 268 5 [(0, .ref a), (1, .int x), (2, .int (nI k)), (3, .int (nI n))] [] (g_set h a (.inl (0, n, .inl fun j => if j < k then x else f j))) (none, g_set h a (.inl (0, n, .inl fun j => if j < n then x else f j))) := by
  intro m
  induction m with
  | zero =>
    intro k h1 h2
    have hkn : k = n := by omega
    subst hkn
    refine k_runB (pc' := 7) (loc' := [(0, .ref a), (1, .int x), (2, .int (nI k)), (3, .int (nI k))]) (st' := [.int (nI k), .int (nI k)]) 2 rfl ?_
    refine k_ic rfl (fun _ => ?_) (fun hc => ?_)
    · exact k_vret rfl rfl
    · exact absurd (nI_le (Nat.le_refl k) hn) (of_decide_eq_false hc)
  | succ m ih =>
    intro k h1 h2
    refine k_runB (pc' := 7) (loc' := [(0, .ref a), (1, .int x), (2, .int (nI k)), (3, .int (nI n))]) (st' := [.int (nI n), .int (nI k)]) 2 rfl ?_
    refine k_ic rfl (fun hc => ?_) (fun _ => ?_)
    · exact absurd (of_decide_eq_true hc) (nI_ge (by omega) hn)
    · refine k_runB (pc' := 13) (loc' := [(0, .ref a), (1, .int x), (2, .int (nI k)), (3, .int (nI n))]) (st' := [.int x, .int (nI k), .ref a]) 3 rfl ?_
      refine k_iast (n := n) (f := fun j => if j < k then x else f j) (h' := g_set h a (.inl (0, n, .inl fun j => if j < k + 1 then x else f j))) rfl (g_get_set_same hg) (nI_in (by omega) hn) ?_ ?_
      · rw [g_set_set, nI_clamp (by omega)]
        congr 5
        funext j
        by_cases hj : j = k
        · subst hj
          simp [upd]
        · simp only [upd, if_neg hj]
          by_cases hjk : j < k
          · rw [if_pos hjk, if_pos (by omega)]
          · rw [if_neg hjk, if_neg (by omega)]
      · refine k_runB (pc' := 5) (loc' := [(0, .ref a), (1, .int x), (2, .int (nI k + 1)), (3, .int (nI n))]) (st' := []) 2 rfl ?_
        rw [nI_1]
        exact ih (k + 1) (by omega) (by omega)
theorem n_fill_0 {h : gH} {a n : Nat} {f : Nat → Int32} {x : Int32} (hg : g_get h a = some (.inl (0, n, .inl f))) (hn : n < 2 ^ 31) : k_run t lg d 268 0 [(0, .ref a), (1, .int x)] [] h (none, g_set h a (.inl (0, n, .inl fun j => if j < n then x else f j))) := by
  refine k_runB (pc' := 3) (loc' := [(0, .ref a), (1, .int x), (2, .int 0)]) (st' := [.ref a]) 3 rfl ?_
  refine k_memS rfl rfl rfl rfl (st' := [.int (nI n)]) (h' := h) ?_ ?_
  · unfold g_mem
    simp only [hg]
    rfl
  refine k_runB (pc' := 5) (loc' := [(0, .ref a), (1, .int x), (2, .int 0), (3, .int (nI n))]) (st' := []) 1 rfl ?_
  have hh := n_fill_5 (t := t) (lg := lg) (d := d) (x := x) hg hn n 0 (by omega) (by omega)
  have e : g_set h a (.inl (0, n, .inl fun j => if j < 0 then x else f j)) = h := by
    have e1 : (fun j => if j < 0 then x else f j) = f := by
      funext j
      rw [if_neg (by omega)]
    rw [e1]
    exact g_set_get hg
  rw [e] at hh
  exact hh
theorem n_fill_ok {as : List Value} {h : gH} {z : Option Value × gH} (hz : n_fill as h = some z) : k_run t lg d 268 0 (lv_args 0 as) [] h z := by
  unfold n_fill at hz
  split at hz
  · split at hz
    next hg =>
      split at hz
      next hn => cases hz; exact n_fill_0 hg hn
      next => cases hz
    next => cases hz
  · cases hz
end NF
theorem n_run {t t' : gT} {lg : Nat → Nat} (h1 : t.1 = t'.1) (h2 : t.2.1 = t'.2.1) : ∀ (n d M pc : Nat) (loc : List (Nat × Value)) (st : List Value) (h : gH) (z : Option Value × gH), n_exec t lg n d M pc loc st h = some z → k_run t' lg d M pc loc st h z := by
  intro n
  induction n with
  | zero => intro d M pc loc st h z hz; cases hz
  | succ n ih =>
    intro d M pc loc st h z hz
    unfold n_exec at hz
    rw [n_fz_eq] at hz
    split at hz
    · cases hz
    next I r hI =>
      rw [← n_cd_eq] at hI
      split at hz
      · cases hz
      next hn =>
        rw [n_step h1 h2 hn] at hz
        split at hz
        next pc' loc' st' h' hs => exact k_runS hI hs (ih _ _ _ _ _ _ _ hz)
        next hs =>
          split at hz
          next v hv => cases hz; exact k_runR hI hs hv
          next hv =>
            split at hz
            next M' as rest d' hi =>
              split at hz
              next v h1 he =>
                refine k_runC hI hs hv hi ?_ (ih _ _ _ _ _ _ _ hz)
                cases hb : Nat.beq M' 268 with
                | true =>
                  rw [hb] at he
                  rw [Nat.eq_of_beq_eq_true hb]
                  exact n_fill_ok he
                | false =>
                  rw [hb] at he
                  exact ih _ _ _ _ _ _ _ he
              next => cases hz
            next => cases hz
end Qz35
section Qz36
/-! behind its end a row holds nothing -/
def q_nn : gE → Prop
  | .inl (_, n, .inl g) => ∀ i, n ≤ i → g i = 0
  | .inl (_, n, .inr (.inl g)) => ∀ i, n ≤ i → g i = 0
  | .inl (_, n, .inr (.inr (.inr (.inr g)))) => ∀ i, n ≤ i → g i = none
  | _ => True
def q_N (h : gH) : Prop := ∀ (r : Nat) (e : gE), e ∈ h.2 r → q_nn e
theorem q_get {h : gH} {k : Nat} {e : gE} (hq : q_N h) (hg : g_get h k = some e) : q_nn e := hq _ _ (List.mem_of_getElem? hg)
theorem q_set {h : gH} {k : Nat} {e : gE} (hq : q_N h) (he : q_nn e) : q_N (g_set h k e) := by
  intro r x hx
  unfold g_set at hx
  simp only [va_up] at hx
  split at hx
  · rcases List.mem_or_eq_of_mem_set hx with h1 | h1
    · exact hq _ _ h1
    · rw [h1]; exact he
  · exact hq _ _ hx
theorem q_push {lg : Nat → Nat} {h h' : gH} {n k : Nat} {e : gE} (hq : q_N h) (he : q_nn e) (hp : g_push lg h n e = some (k, h')) : q_N h' := by
  unfold g_push at hp
  split at hp
  · cases hp
    intro r x hx
    simp only [va_up] at hx
    split at hx
    · rcases List.mem_append.mp hx with h1 | h1
      · exact hq _ _ h1
      · rw [List.mem_singleton.mp h1]; exact he
    · exact hq _ _ hx
  · cases hp
theorem q_ast {h : gH} {a n b t : Nat} {f : Nat → Option Nat} {i : Int32} {P : Prop} (hq : q_N h) (hg : g_get h a = some (.inl (t, n, .inr (.inr (.inr (.inr f)))))) (hi : ¬ (i < 0 ∨ n ≤ i.toNatClampNeg ∨ P)) : q_N (g_set h a (.inl (t, n, .inr (.inr (.inr (.inr (va_up f i.toNatClampNeg (some b)))))))) := by
  refine q_set hq ?_
  intro j hj
  have h1 : ∀ i, n ≤ i → f i = none := q_get hq hg
  have h2 : ¬ j = i.toNatClampNeg := fun e => hi (.inr (.inl (e ▸ hj)))
  show (if j = i.toNatClampNeg then some b else f j) = none
  rw [if_neg h2]
  exact h1 j hj
theorem q_ist {h : gH} {a n t : Nat} {f : Nat → Int32} {i x : Int32} (hq : q_N h) (hg : g_get h a = some (.inl (t, n, .inl f))) (hi : ¬ (i < 0 ∨ n ≤ i.toNatClampNeg)) : q_N (g_set h a (.inl (t, n, .inl (upd f i.toNatClampNeg x)))) := by
  refine q_set hq ?_
  intro j hj
  have h1 : ∀ i, n ≤ i → f i = 0 := q_get hq hg
  have h2 : ¬ j = i.toNatClampNeg := fun e => hi (.inr (e ▸ hj))
  show (if j = i.toNatClampNeg then x else f j) = 0
  rw [if_neg h2]
  exact h1 j hj
theorem q_lst {h : gH} {a n t : Nat} {f : Nat → Int64} {i : Int32} {x : Int64} (hq : q_N h) (hg : g_get h a = some (.inl (t, n, .inr (.inl f)))) (hi : ¬ (i < 0 ∨ n ≤ i.toNatClampNeg)) : q_N (g_set h a (.inl (t, n, .inr (.inl (vp_updL f i.toNatClampNeg x))))) := by
  refine q_set hq ?_
  intro j hj
  have h1 : ∀ i, n ≤ i → f i = 0 := q_get hq hg
  have h2 : ¬ j = i.toNatClampNeg := fun e => hi (.inr (e ▸ hj))
  show (if j = i.toNatClampNeg then x else f j) = 0
  rw [if_neg h2]
  exact h1 j hj
theorem q_acp {h : gH} {a n1 t : Nat} {f g : Nat → Int32} {sp dp n : Nat} (hq : q_N h) (hg : g_get h a = some (.inl (t, n1, .inl g))) (hi : ¬ n1 < dp + n) : q_N (g_set h a (.inl (t, n1, .inl (va_cpy f g sp dp n)))) := by
  refine q_set hq ?_
  intro j hj
  have h1 : ∀ i, n1 ≤ i → g i = 0 := q_get hq hg
  show (if dp ≤ j ∧ j < dp + n then f (sp + (j - dp)) else g j) = 0
  rw [if_neg (by omega)]
  exact h1 j hj
set_option maxHeartbeats 4000000 in
theorem q_mem {t : gT} {I : Instr} {r : List Nat} {st st' : List Value} {h h' : gH} (hS : g_mem t I r st h = some (st', h')) (hq : q_N h) : q_N h' := by
  unfold g_mem at hS
  repeat' split at hS
  all_goals first
    | (cases hS; done)
    | (cases hS; exact hq)
    | (cases hS; exact q_ist hq (by assumption) (by assumption))
    | (cases hS; exact q_lst hq (by assumption) (by assumption))
    | (cases hS; exact q_ast hq (by assumption) (by assumption))
    | (cases hS; exact q_set hq trivial)
    | (obtain ⟨v, hv, e⟩ := Option.map_eq_some_iff.mp hS; cases e; exact hq)
theorem q_nat {I : Instr} {r : List Nat} {st st' : List Value} {h h' : gH} (hS : g_nat I r st h = some (st', h')) (hq : q_N h) : q_N h' := by
  unfold g_nat at hS
  repeat' split at hS
  all_goals first
    | (cases hS; done)
    | (cases hS; exact hq)
    | (cases hS; exact q_acp hq (by assumption) (fun h => (‹¬ (_ ∨ _ ∨ _ ∨ _ ∨ _ ∨ _)›) (.inr (.inr (.inr (.inr (.inl h)))))))
theorem q_new {lg : Nat → Nat} {df : Nat → List Value} {I : Instr} {r : List Nat} {st st' : List Value} {h h' : gH} (hS : g_new lg df I r st h = some (st', h')) (hq : q_N h) : q_N h' := by
  have key : ∀ {n : Nat} {e : gE} {q : List Value}, (g_push lg h n e).map (fun z => ((Value.ref z.1 :: q : List Value), z.2)) = some (st', h') → q_nn e → q_N h' := by
    intro n e q hq' he
    cases hp : g_push lg h n e with
    | none => rw [hp] at hq'; cases hq'
    | some z => rw [hp] at hq'; cases hq'; exact q_push hq he hp
  unfold g_new at hS
  repeat' split at hS
  all_goals first
    | (cases hS; done)
    | exact key hS trivial
    | exact key hS (fun _ _ => rfl)
theorem q_step {t : gT} {tb : List (List Int32)} {lg : Nat → Nat} {df : Nat → List Value} {nL : Nat} {I : Instr} {r : List Nat} {pc pc' : Nat} {loc loc' : List (Nat × Value)} {st st' : List Value} {h h' : gH} (hS : g_step t tb lg df nL I r pc loc st h = some (pc', loc', st', h')) (hq : q_N h) : q_N h' := by
  unfold g_step at hS
  split at hS
  · cases hS; exact hq
  · split at hS
    · cases hS; exact hq
    · split at hS
      · cases hS; exact hq
      · split at hS
        next hm => cases hS; exact q_mem hm hq
        · split at hS
          next hm => cases hS; exact q_new hm hq
          · split at hS
            · cases hS; exact hq
            · split at hS
              next hm => cases hS; exact q_nat hm hq
              · cases hS
theorem q_exec {t : gT} {tb : List (List Int32)} {lg : Nat → Nat} {df : Nat → List Value} {mt : Nat → gM} : ∀ (n d M pc : Nat) (loc : List (Nat × Value)) (st : List Value) (h : gH) (v : Option Value) (h' : gH), g_exec t tb lg df mt n d M pc loc st h = some (v, h') → q_N h → q_N h' := by
  intro n
  induction n with
  | zero => intro d M pc loc st h v h' he; cases he
  | succ n ih =>
    intro d M pc loc st h v h' he hq
    unfold g_exec at he
    split at he
    · cases he
    · split at he
      next hs => exact ih _ _ _ _ _ _ _ _ he (q_step hs hq)
      · split at he
        · cases he; exact hq
        · split at he
          · split at he
            next hc => exact ih _ _ _ _ _ _ _ _ he (ih _ _ _ _ _ _ _ _ hc hq)
            · cases he
          · cases he
theorem q_run {t : gT} {lg : Nat → Nat} {d M pc : Nat} {loc : List (Nat × Value)} {st : List Value} {h h' : gH} {v : Option Value} (hr : k_run t lg d M pc loc st h (v, h')) (hq : q_N h) : q_N h' := by
  obtain ⟨n, hn⟩ := hr
  exact q_exec _ _ _ _ _ _ _ _ _ hn hq
end Qz36
