section Qz37
/-! the heap behind the class's constructor (printed by wip/fresh.py) -/
theorem x_fn {g : Nat → Option Nat} {n b : Nat} (h1 : ∀ i, i < n → g i = some ((b + i) * 1024)) (h2 : ∀ i, n ≤ i → g i = none) : g = fun i => if i < n then some ((b + i) * 1024) else none := by
  funext i
  by_cases hi : i < n
  · rw [if_pos hi]; exact h1 i hi
  · rw [if_neg hi]; exact h2 i (by omega)
theorem x_l3 {l : List gE} {r : Nat} {p : Nat → Nat} {f : Nat → Int32} (h : x_ses l (c_lay3 r p f (fun _ _ => 0) (fun _ _ => 0)) = true) (hv : ∀ i, i < 20 → x_rR (x_d l 1) i = some ((5 + i) * 1024)) (hq : ∀ e, e ∈ l → q_nn e) : l = c_lay3 r p f (fun o => x_rI (x_d l o)) (fun o => x_rJ (x_d l o)) := by
  have h1 := x_ses_put h
  obtain _ | ⟨x0, l⟩ := l
  · exact absurd (show false = true from h) Bool.false_ne_true
  obtain _ | ⟨x1, l⟩ := l
  · exact absurd (show false = true from h) Bool.false_ne_true
  obtain _ | ⟨y, l⟩ := l
  · have e0 : x0 = x_put _ x0 := (List.cons.inj h1).1
    have e1 : x1 = .inl (4, 20, .inr (.inr (.inr (.inr (x_rR x1))))) := (List.cons.inj (List.cons.inj h1).2).1
    have q1 : q_nn x1 := hq x1 (List.mem_cons_of_mem _ List.mem_cons_self)
    rw [e1] at q1
    have q2 := x_fn (g := x_rR x1) hv q1
    rw [q2] at e1
    rw [e1]
    exact congrArg (fun z => z :: [_]) e0
  · exact absurd (show false = true from h) Bool.false_ne_true
theorem x_l5 {l : List gE} {r : Nat} {p : Nat → Nat} {f : Nat → Int32} (h : x_ses l (c_lay5 r p f (fun _ _ => 0) (fun _ _ => 0)) = true) (hv : ∀ i, i < 3 → x_rR (x_d l 0) i = some ((29 + i) * 1024)) (hq : ∀ e, e ∈ l → q_nn e) : l = c_lay5 r p f (fun o => x_rI (x_d l o)) (fun o => x_rJ (x_d l o)) := by
  have h1 := x_ses_put h
  obtain _ | ⟨x1, l⟩ := l
  · exact absurd (show false = true from h) Bool.false_ne_true
  obtain _ | ⟨y, l⟩ := l
  · have e1 : x1 = .inl (4, 3, .inr (.inr (.inr (.inr (x_rR x1))))) := (List.cons.inj h1).1
    have q1 : q_nn x1 := hq x1 List.mem_cons_self
    rw [e1] at q1
    have q2 := x_fn (g := x_rR x1) hv q1
    rw [q2] at e1
    rw [e1]
    rfl
  · exact absurd (show false = true from h) Bool.false_ne_true
theorem x_ses_d : ∀ {l m : List gE}, x_ses l m = true → ∀ o, o < m.length → x_se (x_d l o) (x_d m o) = true ∧ x_d l o ∈ l
  | [], [], _, o, ho => absurd ho (Nat.not_lt_zero _)
  | x :: l, e :: m, h, 0, _ => by
    have h : (x_ses l m && x_se x e) = true := h
    rw [Bool.and_eq_true] at h
    exact ⟨h.2, List.mem_cons_self⟩
  | x :: l, e :: m, h, o + 1, ho => by
    have h : (x_ses l m && x_se x e) = true := h
    rw [Bool.and_eq_true] at h
    obtain ⟨h1, h2⟩ := x_ses_d h.1 o (Nat.lt_of_succ_lt_succ ho)
    exact ⟨h1, List.mem_cons_of_mem _ h2⟩
  | [], _ :: _, h, _, _ => absurd (show false = true from h) Bool.false_ne_true
  | _ :: _, [], h, _, _ => absurd (show false = true from h) Bool.false_ne_true
def x_isI (e : gE) (n : Nat) : Bool := match e with
  | .inl (_, n', .inl _) => decide (n' = n)
  | _ => false
theorem x_isI0 {x e : gE} {n : Nat} (hs : x_se x e = true) (hi : x_isI e n = true) (hq : q_nn x) : ∀ i, n ≤ i → x_rI x i = 0 := by
  unfold x_isI at hi
  split at hi
  next t n' g =>
    have hn := of_decide_eq_true hi
    subst hn
    have e1 : x = .inl (t, n', .inl (x_rI x)) := x_se_put hs
    rw [e1] at hq
    exact hq
  next => cases hi
theorem y_A0 (o i : Nat) (hi : 2 ≤ i) : y_A o i = 0 := by
  unfold y_A
  cases Nat.beq o 41 with
  | true => simp only [cond_true, upd]; rw [if_neg (by omega)]
  | false =>
    simp only [cond_false]
theorem y_Lok : y_L.all (fun q => x_isI (x_d (m_cells y_F y_A (fun _ _ => 0)) q.1) q.2 && decide (q.1 < 63 ∧ 2 ≤ q.2)) = true := by decide +kernel
theorem m_congr {F : Nat → Int32} {A A' : Nat → Nat → Int32} {J : Nat → Nat → Int64} (h : ∀ q : Nat × Nat, q ∈ y_L → A q.1 = A' q.1) : m_cells F A J = m_cells F A' J := by
  have e1 : A 1 = A' 1 := h (1, 2000) (by decide)
  have e2 : A 2 = A' 2 := h (2, 2000) (by decide)
  have e3 : A 3 = A' 3 := h (3, 403) (by decide)
  have e4 : A 4 = A' 4 := h (4, 403) (by decide)
  have e5 : A 5 = A' 5 := h (5, 403) (by decide)
  have e9 : A 9 = A' 9 := h (9, 32) (by decide)
  have e10 : A 10 = A' 10 := h (10, 32) (by decide)
  have e11 : A 11 = A' 11 := h (11, 2) (by decide)
  have e12 : A 12 = A' 12 := h (12, 2) (by decide)
  have e13 : A 13 = A' 13 := h (13, 24) (by decide)
  have e14 : A 14 = A' 14 := h (14, 24) (by decide)
  have e15 : A 15 = A' 15 := h (15, 24) (by decide)
  have e16 : A 16 = A' 16 := h (16, 24) (by decide)
  have e17 : A 17 = A' 17 := h (17, 2) (by decide)
  have e18 : A 18 = A' 18 := h (18, 12) (by decide)
  have e19 : A 19 = A' 19 := h (19, 2) (by decide)
  have e20 : A 20 = A' 20 := h (20, 12) (by decide)
  have e21 : A 21 = A' 21 := h (21, 12) (by decide)
  have e22 : A 22 = A' 22 := h (22, 12) (by decide)
  have e23 : A 23 = A' 23 := h (23, 72) (by decide)
  have e24 : A 24 = A' 24 := h (24, 72) (by decide)
  have e25 : A 25 = A' 25 := h (25, 72) (by decide)
  have e26 : A 26 = A' 26 := h (26, 72) (by decide)
  have e27 : A 27 = A' 27 := h (27, 72) (by decide)
  have e28 : A 28 = A' 28 := h (28, 72) (by decide)
  have e29 : A 29 = A' 29 := h (29, 2) (by decide)
  have e30 : A 30 = A' 30 := h (30, 12) (by decide)
  have e31 : A 31 = A' 31 := h (31, 12) (by decide)
  have e32 : A 32 = A' 32 := h (32, 12) (by decide)
  have e33 : A 33 = A' 33 := h (33, 2) (by decide)
  have e34 : A 34 = A' 34 := h (34, 12) (by decide)
  have e35 : A 35 = A' 35 := h (35, 12) (by decide)
  have e36 : A 36 = A' 36 := h (36, 100) (by decide)
  have e37 : A 37 = A' 37 := h (37, 100) (by decide)
  have e38 : A 38 = A' 38 := h (38, 100) (by decide)
  have e39 : A 39 = A' 39 := h (39, 100) (by decide)
  have e40 : A 40 = A' 40 := h (40, 100) (by decide)
  have e41 : A 41 = A' 41 := h (41, 2) (by decide)
  have e42 : A 42 = A' 42 := h (42, 840) (by decide)
  have e43 : A 43 = A' 43 := h (43, 840) (by decide)
  have e44 : A 44 = A' 44 := h (44, 64) (by decide)
  have e45 : A 45 = A' 45 := h (45, 6) (by decide)
  have e46 : A 46 = A' 46 := h (46, 400) (by decide)
  have e47 : A 47 = A' 47 := h (47, 100) (by decide)
  have e48 : A 48 = A' 48 := h (48, 100) (by decide)
  have e49 : A 49 = A' 49 := h (49, 64) (by decide)
  have e50 : A 50 = A' 50 := h (50, 6) (by decide)
  have e51 : A 51 = A' 51 := h (51, 6) (by decide)
  have e52 : A 52 = A' 52 := h (52, 6) (by decide)
  have e53 : A 53 = A' 53 := h (53, 6) (by decide)
  have e54 : A 54 = A' 54 := h (54, 6) (by decide)
  have e55 : A 55 = A' 55 := h (55, 6) (by decide)
  have e56 : A 56 = A' 56 := h (56, 6) (by decide)
  have e57 : A 57 = A' 57 := h (57, 2000) (by decide)
  have e58 : A 58 = A' 58 := h (58, 30) (by decide)
  have e59 : A 59 = A' 59 := h (59, 30) (by decide)
  have e60 : A 60 = A' 60 := h (60, 30) (by decide)
  have e61 : A 61 = A' 61 := h (61, 3) (by decide)
  have e62 : A 62 = A' 62 := h (62, 300) (by decide)
  unfold m_cells
  rw [e1, e2, e3, e4, e5, e9, e10, e11, e12, e13, e14, e15, e16, e17, e18, e19, e20, e21, e22, e23, e24, e25, e26, e27, e28, e29, e30, e31, e32, e33, e34, e35, e36, e37, e38, e39, e40, e41, e42, e43, e44, e45, e46, e47, e48, e49, e50, e51, e52, e53, e54, e55, e56, e57, e58, e59, e60, e61, e62]
theorem x_lm0 {l : List gE} (h : x_ses l (m_cells y_F y_A (fun _ _ => 0)) = true) : l = m_cells y_F (fun o => x_rI (x_d l o)) (fun o => x_rJ (x_d l o)) := by
  have h1 := x_ses_put h
  obtain _ | ⟨x0, l⟩ := l
  · exact absurd (show false = true from h) Bool.false_ne_true
  obtain _ | ⟨x1, l⟩ := l
  · exact absurd (show false = true from h) Bool.false_ne_true
  obtain _ | ⟨x2, l⟩ := l
  · exact absurd (show false = true from h) Bool.false_ne_true
  obtain _ | ⟨x3, l⟩ := l
  · exact absurd (show false = true from h) Bool.false_ne_true
  obtain _ | ⟨x4, l⟩ := l
  · exact absurd (show false = true from h) Bool.false_ne_true
  obtain _ | ⟨x5, l⟩ := l
  · exact absurd (show false = true from h) Bool.false_ne_true
  obtain _ | ⟨x6, l⟩ := l
  · exact absurd (show false = true from h) Bool.false_ne_true
  obtain _ | ⟨x7, l⟩ := l
  · exact absurd (show false = true from h) Bool.false_ne_true
  obtain _ | ⟨x8, l⟩ := l
  · exact absurd (show false = true from h) Bool.false_ne_true
  obtain _ | ⟨x9, l⟩ := l
  · exact absurd (show false = true from h) Bool.false_ne_true
  obtain _ | ⟨x10, l⟩ := l
  · exact absurd (show false = true from h) Bool.false_ne_true
  obtain _ | ⟨x11, l⟩ := l
  · exact absurd (show false = true from h) Bool.false_ne_true
  obtain _ | ⟨x12, l⟩ := l
  · exact absurd (show false = true from h) Bool.false_ne_true
  obtain _ | ⟨x13, l⟩ := l
  · exact absurd (show false = true from h) Bool.false_ne_true
  obtain _ | ⟨x14, l⟩ := l
  · exact absurd (show false = true from h) Bool.false_ne_true
  obtain _ | ⟨x15, l⟩ := l
  · exact absurd (show false = true from h) Bool.false_ne_true
  obtain _ | ⟨x16, l⟩ := l
  · exact absurd (show false = true from h) Bool.false_ne_true
  obtain _ | ⟨x17, l⟩ := l
  · exact absurd (show false = true from h) Bool.false_ne_true
  obtain _ | ⟨x18, l⟩ := l
  · exact absurd (show false = true from h) Bool.false_ne_true
  obtain _ | ⟨x19, l⟩ := l
  · exact absurd (show false = true from h) Bool.false_ne_true
  obtain _ | ⟨x20, l⟩ := l
  · exact absurd (show false = true from h) Bool.false_ne_true
  obtain _ | ⟨x21, l⟩ := l
  · exact absurd (show false = true from h) Bool.false_ne_true
  obtain _ | ⟨x22, l⟩ := l
  · exact absurd (show false = true from h) Bool.false_ne_true
  obtain _ | ⟨x23, l⟩ := l
  · exact absurd (show false = true from h) Bool.false_ne_true
  obtain _ | ⟨x24, l⟩ := l
  · exact absurd (show false = true from h) Bool.false_ne_true
  obtain _ | ⟨x25, l⟩ := l
  · exact absurd (show false = true from h) Bool.false_ne_true
  obtain _ | ⟨x26, l⟩ := l
  · exact absurd (show false = true from h) Bool.false_ne_true
  obtain _ | ⟨x27, l⟩ := l
  · exact absurd (show false = true from h) Bool.false_ne_true
  obtain _ | ⟨x28, l⟩ := l
  · exact absurd (show false = true from h) Bool.false_ne_true
  obtain _ | ⟨x29, l⟩ := l
  · exact absurd (show false = true from h) Bool.false_ne_true
  obtain _ | ⟨x30, l⟩ := l
  · exact absurd (show false = true from h) Bool.false_ne_true
  obtain _ | ⟨x31, l⟩ := l
  · exact absurd (show false = true from h) Bool.false_ne_true
  obtain _ | ⟨x32, l⟩ := l
  · exact absurd (show false = true from h) Bool.false_ne_true
  obtain _ | ⟨x33, l⟩ := l
  · exact absurd (show false = true from h) Bool.false_ne_true
  obtain _ | ⟨x34, l⟩ := l
  · exact absurd (show false = true from h) Bool.false_ne_true
  obtain _ | ⟨x35, l⟩ := l
  · exact absurd (show false = true from h) Bool.false_ne_true
  obtain _ | ⟨x36, l⟩ := l
  · exact absurd (show false = true from h) Bool.false_ne_true
  obtain _ | ⟨x37, l⟩ := l
  · exact absurd (show false = true from h) Bool.false_ne_true
  obtain _ | ⟨x38, l⟩ := l
  · exact absurd (show false = true from h) Bool.false_ne_true
  obtain _ | ⟨x39, l⟩ := l
  · exact absurd (show false = true from h) Bool.false_ne_true
  obtain _ | ⟨x40, l⟩ := l
  · exact absurd (show false = true from h) Bool.false_ne_true
  obtain _ | ⟨x41, l⟩ := l
  · exact absurd (show false = true from h) Bool.false_ne_true
  obtain _ | ⟨x42, l⟩ := l
  · exact absurd (show false = true from h) Bool.false_ne_true
  obtain _ | ⟨x43, l⟩ := l
  · exact absurd (show false = true from h) Bool.false_ne_true
  obtain _ | ⟨x44, l⟩ := l
  · exact absurd (show false = true from h) Bool.false_ne_true
  obtain _ | ⟨x45, l⟩ := l
  · exact absurd (show false = true from h) Bool.false_ne_true
  obtain _ | ⟨x46, l⟩ := l
  · exact absurd (show false = true from h) Bool.false_ne_true
  obtain _ | ⟨x47, l⟩ := l
  · exact absurd (show false = true from h) Bool.false_ne_true
  obtain _ | ⟨x48, l⟩ := l
  · exact absurd (show false = true from h) Bool.false_ne_true
  obtain _ | ⟨x49, l⟩ := l
  · exact absurd (show false = true from h) Bool.false_ne_true
  obtain _ | ⟨x50, l⟩ := l
  · exact absurd (show false = true from h) Bool.false_ne_true
  obtain _ | ⟨x51, l⟩ := l
  · exact absurd (show false = true from h) Bool.false_ne_true
  obtain _ | ⟨x52, l⟩ := l
  · exact absurd (show false = true from h) Bool.false_ne_true
  obtain _ | ⟨x53, l⟩ := l
  · exact absurd (show false = true from h) Bool.false_ne_true
  obtain _ | ⟨x54, l⟩ := l
  · exact absurd (show false = true from h) Bool.false_ne_true
  obtain _ | ⟨x55, l⟩ := l
  · exact absurd (show false = true from h) Bool.false_ne_true
  obtain _ | ⟨x56, l⟩ := l
  · exact absurd (show false = true from h) Bool.false_ne_true
  obtain _ | ⟨x57, l⟩ := l
  · exact absurd (show false = true from h) Bool.false_ne_true
  obtain _ | ⟨x58, l⟩ := l
  · exact absurd (show false = true from h) Bool.false_ne_true
  obtain _ | ⟨x59, l⟩ := l
  · exact absurd (show false = true from h) Bool.false_ne_true
  obtain _ | ⟨x60, l⟩ := l
  · exact absurd (show false = true from h) Bool.false_ne_true
  obtain _ | ⟨x61, l⟩ := l
  · exact absurd (show false = true from h) Bool.false_ne_true
  obtain _ | ⟨x62, l⟩ := l
  · exact absurd (show false = true from h) Bool.false_ne_true
  obtain _ | ⟨y, l⟩ := l
  · exact h1
  · exact absurd (show false = true from h) Bool.false_ne_true
theorem x_lm {l : List gE} (h : x_ses l (m_cells y_F y_A (fun _ _ => 0)) = true) (hA : ∀ q : Nat × Nat, q ∈ y_L → ∀ i, i < q.2 → x_rI (x_d l q.1) i = y_A q.1 i) (hq : ∀ e, e ∈ l → q_nn e) : l = m_cells y_F y_A (fun o => x_rJ (x_d l o)) := by
  refine (x_lm0 h).trans (m_congr ?_)
  intro q hm
  have hk := List.all_eq_true.mp y_Lok q hm
  rw [Bool.and_eq_true] at hk
  have hk2 := of_decide_eq_true hk.2
  obtain ⟨h1, h2⟩ := x_ses_d h q.1 hk2.1
  funext i
  by_cases hi : i < q.2
  · exact hA q hm i hi
  · rw [y_A0 _ _ (by omega)]
    exact x_isI0 h1 hk.1 (hq _ h2) i (by omega)
theorem x_q0 : q_N x_h0 := by
  intro r e he
  unfold x_h0 at he
  simp only [va_up] at he
  split at he
  · rw [List.mem_singleton.mp he]; exact trivial
  · cases he
theorem x_q1 {f : Nat → List gE} (hq : ∀ r e, e ∈ f r → q_nn e) : q_N (x_h1 f) := by
  intro r e he
  unfold x_h1 at he
  simp only [va_up] at he
  split at he
  · rw [List.mem_singleton.mp he]; exact trivial
  · exact hq _ _ he
def x_sp (f : Nat → List gE) : Prop := f 39 = [] ∧ (∀ r, r ∈ x_rs → x_sh f r = true) ∧ x_sh f 4 = true ∧ x_sh f 26 = true ∧ (∀ i, i < 20 → x_rR (x_d (f 4) 1) i = some ((5 + i) * 1024)) ∧ (∀ i, i < 3 → x_rR (x_d (f 26) 0) i = some ((29 + i) * 1024)) ∧ (∀ r e, e ∈ f r → q_nn e) ∧ f 40 = m_cells y_F y_A (fun o => x_rJ (x_d (f 40) o))
theorem x_all {n : Nat} {g : Nat → Option Nat} {v : Nat → Option Nat} (h : (List.range n).all (fun i => g i == v i) = true) : ∀ i, i < n → g i = v i := by
  intro i hi
  have := List.all_eq_true.mp h i (List.mem_range.mpr hi)
  exact eq_of_beq this
theorem x_ex1 {o : Option (Option Value × gH)} (hk : x_k1 o = true) : ∃ f : Nat → List gE, o = some (none, ((277, 8315), f)) ∧ f 40 = [] := by
  unfold x_k1 at hk
  split at hk
  next h =>
    obtain ⟨c, f⟩ := h
    simp only [Bool.and_eq_true] at hk
    obtain ⟨k1, k2⟩ := hk
    have k1 : c = _ := of_decide_eq_true k1
    subst k1
    exact ⟨f, rfl, List.isEmpty_iff.mp k2⟩
  next => cases hk
theorem x_ex2 {o : Option (Option Value × gH)} (hk : x_k2 o = true) (hq : ∀ h, o = some (none, h) → q_N h) : ∃ f : Nat → List gE, o = some (none, ((340, 20126), f)) ∧ x_sp f := by
  unfold x_k2 at hk
  split at hk
  next h =>
    have hq := hq h rfl
    obtain ⟨c, f⟩ := h
    simp only [Bool.and_eq_true] at hk
    obtain ⟨⟨⟨⟨⟨⟨⟨⟨k1, k2⟩, k4⟩, k5⟩, k6⟩, k7⟩, k8⟩, k9⟩, k10⟩ := hk
    have k1 : c = _ := of_decide_eq_true k1
    subst k1
    refine ⟨f, rfl, List.isEmpty_iff.mp k2, fun r hr => List.all_eq_true.mp k4 r hr, k5, k6, x_all k7, x_all k8, hq, ?_⟩
    refine x_lm k9 (fun q hm i hi => ?_) (hq 40)
    exact of_decide_eq_true (List.all_eq_true.mp (List.all_eq_true.mp k10 q hm) i (List.mem_range.mpr hi))
  next => cases hk
theorem x_ex : ∃ f1 f : Nat → List gE, x_r1 = some (none, ((277, 8315), f1)) ∧ f1 40 = [] ∧ n_exec x_t c_lg 4000 40 138 0 [(0, .ref 40960)] [] (x_h1 f1) = some (none, ((340, 20126), f)) ∧ x_sp f := by
  have hk := x_ok
  rw [Bool.and_eq_true] at hk
  obtain ⟨f1, e1, e2⟩ := x_ex1 hk.1
  have hk2 := hk.2
  rw [e1] at hk2
  have q1 : q_N ((277, 8315), f1) := q_run (n_run (t' := x_t) rfl rfl _ _ _ _ _ _ _ _ e1) x_q0
  obtain ⟨f, e3, e4⟩ := x_ex2 hk2 (fun h hh => q_run (n_run (t' := x_t) rfl rfl _ _ _ _ _ _ _ _ hh) (x_q1 q1))
  exact ⟨f1, f, e1, e2, e3, e4⟩
noncomputable def x_f1 : Nat → List gE := Classical.choose x_ex
noncomputable def x_f : Nat → List gE := Classical.choose (Classical.choose_spec x_ex)
theorem x_f_1 : x_r1 = some (none, ((277, 8315), x_f1)) := (Classical.choose_spec (Classical.choose_spec x_ex)).1
theorem x_f_2 : x_f1 40 = [] := (Classical.choose_spec (Classical.choose_spec x_ex)).2.1
theorem x_f_3 : n_exec x_t c_lg 4000 40 138 0 [(0, .ref 40960)] [] (x_h1 x_f1) = some (none, ((340, 20126), x_f)) := (Classical.choose_spec (Classical.choose_spec x_ex)).2.2.1
theorem x_f_4 : x_sp x_f := (Classical.choose_spec (Classical.choose_spec x_ex)).2.2.2
/-- a heap of that shape holds a fresh object of the class -/
theorem x_heap {f : Nat → List gE} (hf : x_sp f) {c : Nat × Nat} : ((c, f) : gH) = c_h c f x_P x_F (fun r o => x_rI (x_d (f r) o)) (fun r o => x_rJ (x_d (f r) o)) := by
  obtain ⟨-, h1, h4, h5, h6, h7, h8, -⟩ := hf
  refine Prod.ext rfl ?_
  funext r
  show f r = c_lay (c_kind r) r (x_P r) (x_F r) (fun o => x_rI (x_d (f r) o)) (fun o => x_rJ (x_d (f r) o)) (f r)
  by_cases hr : 38 ≤ r
  · have hk : c_kind r = 99 := by
      unfold c_kind
      rw [List.getD_eq_getElem?_getD, List.getElem?_eq_none (show c_kds.length ≤ r from hr)]
      rfl
    rw [hk]
    rfl
  · match r, hr with
    | 0, _ => exact x_l0 (r := 0) (p := x_P 0) (f := x_F 0) (h1 0 (by decide))
    | 1, _ => exact x_l1 (r := 1) (p := x_P 1) (f := x_F 1) (h1 1 (by decide))
    | 2, _ => exact x_l2 (r := 2) (p := x_P 2) (f := x_F 2) (h1 2 (by decide))
    | 3, _ => exact x_l2 (r := 3) (p := x_P 3) (f := x_F 3) (h1 3 (by decide))
    | 4, _ => exact x_l3 (r := 4) (p := x_P 4) (f := x_F 4) h4 h6 (h8 4)
    | 5, _ => exact x_l2 (r := 5) (p := x_P 5) (f := x_F 5) (h1 5 (by decide))
    | 6, _ => exact x_l2 (r := 6) (p := x_P 6) (f := x_F 6) (h1 6 (by decide))
    | 7, _ => exact x_l2 (r := 7) (p := x_P 7) (f := x_F 7) (h1 7 (by decide))
    | 8, _ => exact x_l2 (r := 8) (p := x_P 8) (f := x_F 8) (h1 8 (by decide))
    | 9, _ => exact x_l2 (r := 9) (p := x_P 9) (f := x_F 9) (h1 9 (by decide))
    | 10, _ => exact x_l2 (r := 10) (p := x_P 10) (f := x_F 10) (h1 10 (by decide))
    | 11, _ => exact x_l2 (r := 11) (p := x_P 11) (f := x_F 11) (h1 11 (by decide))
    | 12, _ => exact x_l2 (r := 12) (p := x_P 12) (f := x_F 12) (h1 12 (by decide))
    | 13, _ => exact x_l2 (r := 13) (p := x_P 13) (f := x_F 13) (h1 13 (by decide))
    | 14, _ => exact x_l2 (r := 14) (p := x_P 14) (f := x_F 14) (h1 14 (by decide))
    | 15, _ => exact x_l2 (r := 15) (p := x_P 15) (f := x_F 15) (h1 15 (by decide))
    | 16, _ => exact x_l2 (r := 16) (p := x_P 16) (f := x_F 16) (h1 16 (by decide))
    | 17, _ => exact x_l2 (r := 17) (p := x_P 17) (f := x_F 17) (h1 17 (by decide))
    | 18, _ => exact x_l2 (r := 18) (p := x_P 18) (f := x_F 18) (h1 18 (by decide))
    | 19, _ => exact x_l2 (r := 19) (p := x_P 19) (f := x_F 19) (h1 19 (by decide))
    | 20, _ => exact x_l2 (r := 20) (p := x_P 20) (f := x_F 20) (h1 20 (by decide))
    | 21, _ => exact x_l2 (r := 21) (p := x_P 21) (f := x_F 21) (h1 21 (by decide))
    | 22, _ => exact x_l2 (r := 22) (p := x_P 22) (f := x_F 22) (h1 22 (by decide))
    | 23, _ => exact x_l2 (r := 23) (p := x_P 23) (f := x_F 23) (h1 23 (by decide))
    | 24, _ => exact x_l2 (r := 24) (p := x_P 24) (f := x_F 24) (h1 24 (by decide))
    | 25, _ => exact x_l4 (r := 25) (p := x_P 25) (f := x_F 25) (h1 25 (by decide))
    | 26, _ => exact x_l5 (r := 26) (p := x_P 26) (f := x_F 26) h5 h7 (h8 26)
    | 27, _ => exact x_l6 (r := 27) (p := x_P 27) (f := x_F 27) (h1 27 (by decide))
    | 28, _ => exact x_l6 (r := 28) (p := x_P 28) (f := x_F 28) (h1 28 (by decide))
    | 29, _ => exact x_l2 (r := 29) (p := x_P 29) (f := x_F 29) (h1 29 (by decide))
    | 30, _ => exact x_l2 (r := 30) (p := x_P 30) (f := x_F 30) (h1 30 (by decide))
    | 31, _ => exact x_l2 (r := 31) (p := x_P 31) (f := x_F 31) (h1 31 (by decide))
    | 32, _ => exact x_l7 (r := 32) (p := x_P 32) (f := x_F 32) (h1 32 (by decide))
    | 33, _ => exact x_l2 (r := 33) (p := x_P 33) (f := x_F 33) (h1 33 (by decide))
    | 34, _ => exact x_l8 (r := 34) (p := x_P 34) (f := x_F 34) (h1 34 (by decide))
    | 35, _ => exact x_l9 (r := 35) (p := x_P 35) (f := x_F 35) (h1 35 (by decide))
    | 36, _ => exact x_l10 (r := 36) (p := x_P 36) (f := x_F 36) (h1 36 (by decide))
    | 37, _ => exact x_l11 (r := 37) (p := x_P 37) (f := x_F 37) (h1 37 (by decide))
    | n + 38, hr => exact absurd (Nat.le_add_left _ _) hr
end Qz37
section Qz38
/-! answers: a run that comes to an end, and what holds of it -/
def ok {α : Type} (o : Option α) (Q : α → Prop) : Prop := ∃ a, o = some a ∧ Q a
section OK
variable {α β : Type} {Q : β → Prop}
theorem ok_some {b : β} (h : Q b) : ok (some b) Q := ⟨b, rfl, h⟩
theorem ok_bind {o : Option α} {f : α → Option β} (h : ok o fun a => ok (f a) Q) : ok (o.bind f) Q := by
  obtain ⟨a, rfl, h⟩ := h
  exact h
theorem ok_call {o : Option α} {f : α → Option β} {R : α → Prop} (h : ok o R) (k : ∀ a, R a → ok (f a) Q) : ok (o.bind f) Q := by
  obtain ⟨a, rfl, h⟩ := h
  exact k a h
theorem ok_cond {b : Bool} {x y : Option β} (h1 : b = true → ok x Q) (h2 : b = false → ok y Q) : ok (cond b x y) Q := by
  cases b with
  | true => exact h1 rfl
  | false => exact h2 rfl
theorem ok_mono {o : Option β} {R : β → Prop} (h : ok o R) (k : ∀ a, R a → Q a) : ok o Q := by
  obtain ⟨a, h1, h2⟩ := h
  exact ⟨a, h1, k a h2⟩
end OK
/-! comparisons of ints by their values -/
theorem i_lt {x y : Int32} : g_cnd .lt x y = true ↔ x.toInt < y.toInt := decide_eq_true_iff.trans Int32.lt_iff_toInt_lt
theorem i_nlt {x y : Int32} : g_cnd .lt x y = false ↔ y.toInt ≤ x.toInt := by rw [← Bool.not_eq_true, i_lt]; omega
theorem i_gt {x y : Int32} : g_cnd .gt x y = true ↔ y.toInt < x.toInt := decide_eq_true_iff.trans Int32.lt_iff_toInt_lt
theorem i_ngt {x y : Int32} : g_cnd .gt x y = false ↔ x.toInt ≤ y.toInt := by rw [← Bool.not_eq_true, i_gt]; omega
theorem i_le {x y : Int32} : g_cnd .le x y = true ↔ x.toInt ≤ y.toInt := decide_eq_true_iff.trans Int32.le_iff_toInt_le
theorem i_nle {x y : Int32} : g_cnd .le x y = false ↔ y.toInt < x.toInt := by rw [← Bool.not_eq_true, i_le]; omega
theorem i_ge {x y : Int32} : g_cnd .ge x y = true ↔ y.toInt ≤ x.toInt := decide_eq_true_iff.trans Int32.le_iff_toInt_le
theorem i_nge {x y : Int32} : g_cnd .ge x y = false ↔ x.toInt < y.toInt := by rw [← Bool.not_eq_true, i_ge]; omega
theorem i_eq {x y : Int32} : g_cnd .eq x y = true ↔ x.toInt = y.toInt := decide_eq_true_iff.trans Int32.toInt_inj.symm
theorem i_neq {x y : Int32} : g_cnd .eq x y = false ↔ x.toInt ≠ y.toInt := by rw [← Bool.not_eq_true, i_eq]
theorem i_ne {x y : Int32} : g_cnd .ne x y = true ↔ x.toInt ≠ y.toInt := decide_eq_true_iff.trans (not_congr Int32.toInt_inj.symm)
theorem i_nne {x y : Int32} : g_cnd .ne x y = false ↔ x.toInt = y.toInt := by rw [← Bool.not_eq_true, i_ne]; omega
theorem i_dec {x y : Int32} : decide (x = y) = true ↔ x.toInt = y.toInt := decide_eq_true_iff.trans Int32.toInt_inj.symm
theorem i_ndec {x y : Int32} : decide (x = y) = false ↔ x.toInt ≠ y.toInt := by rw [← Bool.not_eq_true, i_dec]
theorem i_rng (x : Int32) : -2147483648 ≤ x.toInt ∧ x.toInt < 2147483648 := ⟨Int32.le_toInt x, Int32.toInt_lt x⟩
theorem i_add {x y : Int32} (h1 : -2147483648 ≤ x.toInt + y.toInt) (h2 : x.toInt + y.toInt < 2147483648) : (x + y).toInt = x.toInt + y.toInt := by
  rw [Int32.toInt_add]
  exact Int.bmod_eq_of_le (by omega) (by omega)
theorem i_sub {x y : Int32} (h1 : -2147483648 ≤ x.toInt - y.toInt) (h2 : x.toInt - y.toInt < 2147483648) : (x - y).toInt = x.toInt - y.toInt := by
  rw [Int32.toInt_sub]
  exact Int.bmod_eq_of_le (by omega) (by omega)
theorem i_mul {x y : Int32} (h1 : -2147483648 ≤ x.toInt * y.toInt) (h2 : x.toInt * y.toInt < 2147483648) : (x * y).toInt = x.toInt * y.toInt := by
  rw [Int32.toInt_mul]
  exact Int.bmod_eq_of_le (by omega) (by omega)
theorem i_ext {x y : Int32} (h : x.toInt = y.toInt) : x = y := Int32.toInt_inj.mp h
theorem i_lit : (0 : Int32).toInt = 0 ∧ (1 : Int32).toInt = 1 ∧ (2 : Int32).toInt = 2 ∧ (6 : Int32).toInt = 6 ∧ (8 : Int32).toInt = 8 ∧ (100 : Int32).toInt = 100 ∧ (-1 : Int32).toInt = -1 ∧ (-2 : Int32).toInt = -2 := by decide
theorem i_in {n : Nat} {i : Int32} (h0 : 0 ≤ i.toInt) (h1 : i.toInt < (n : Int)) : ¬ (i < 0 ∨ n ≤ i.toNatClampNeg) := by
  rintro (h | h)
  · have := Int32.lt_iff_toInt_lt.mp h
    rw [i_lit.1] at this
    omega
  · have e : i.toNatClampNeg = i.toInt.toNat := rfl
    rw [e] at h
    omega
section OL
variable {β : Type} {Q : β → Prop}
theorem ok_ld0 {f : Nat → Int32} {n : Nat} {i : Int32} {g : Int32 → Option β} (h0 : 0 ≤ i.toInt) (h1 : i.toInt < (n : Int)) (k : ok (g (f i.toInt.toNat)) Q) : ok ((m_ld f n i).bind g) Q := by
  unfold m_ld
  rw [if_neg (i_in h0 h1)]
  exact k
theorem ok_ldJ {f : Nat → Int64} {n : Nat} {i : Int32} {g : Int64 → Option β} (h0 : 0 ≤ i.toInt) (h1 : i.toInt < (n : Int)) (k : ok (g (f i.toInt.toNat)) Q) : ok ((m_ldJ f n i).bind g) Q := by
  unfold m_ldJ
  rw [if_neg (i_in h0 h1)]
  exact k
theorem ok_st0 {A : Nat → Nat → Int32} {j n : Nat} {i x : Int32} {g : (Nat → Nat → Int32) → Option β} (h0 : 0 ≤ i.toInt) (h1 : i.toInt < (n : Int)) (k : ok (g (va_up A j (upd (A j) i.toInt.toNat x))) Q) : ok ((m_st A j n i x).bind g) Q := by
  unfold m_st
  rw [if_neg (i_in h0 h1)]
  exact k
theorem ok_stJ {J : Nat → Nat → Int64} {j n : Nat} {i : Int32} {x : Int64} {g : (Nat → Nat → Int64) → Option β} (h0 : 0 ≤ i.toInt) (h1 : i.toInt < (n : Int)) (k : ok (g (va_up J j (vp_updL (J j) i.toInt.toNat x))) Q) : ok ((m_stJ J j n i x).bind g) Q := by
  unfold m_stJ
  rw [if_neg (i_in h0 h1)]
  exact k
theorem ok_pf0 {F : Nat → Int32} {k : Nat} {x : Int32} {g : (Nat → Int32) → Option β} (h : ok (g (upd F k x)) Q) : ok ((m_pf F k x).bind g) Q := h
theorem ok_div0 {x y : Int32} {g : Int32 → Option β} (hy : y.toInt ≠ 0) (k : ok (g (x / y)) Q) : ok ((m_div x y).bind g) Q := by
  unfold m_div
  rw [if_neg (fun e => hy (by rw [e]; rfl))]
  exact k
theorem ok_rem0 {x y : Int32} {g : Int32 → Option β} (hy : y.toInt ≠ 0) (k : ok (g (x - x / y * y)) Q) : ok ((m_rem x y).bind g) Q := by
  unfold m_rem
  rw [if_neg (fun e => hy (by rw [e]; rfl))]
  exact k
theorem ok_zr0 {x : Int32} {g : Int32 → Option β} (hx : x.toInt = 0 ∨ x.toInt = 1) (k : ok (g x) Q) : ok ((m_zr x).bind g) Q := by
  unfold m_zr
  rw [if_pos (hx.elim (fun h => .inl (i_ext h)) (fun h => .inr (i_ext h)))]
  exact k
end OL
end Qz38
section Qz39
/-! the reference's rows and fields by values: what holds of each at every time -/
def ai (A : Nat → Nat → Int32) (j : Nat) (i : Int) : Int := (A j i.toNat).toInt
/-- fields -/
def rF (k : Nat) (v : Int) : Prop := match k with
  | 2 => 0 ≤ v ∧ v ≤ 2000
  | 4 => 0 ≤ v ∧ v ≤ 2000
  | 10 => 0 ≤ v ∧ v ≤ 402
  | 11 => 0 ≤ v ∧ v ≤ 400
  | 12 => 0 ≤ v ∧ v ≤ 7
  | 13 => 0 ≤ v ∧ v ≤ 5
  | 15 => 0 ≤ v ∧ v ≤ 5
  | 18 => 0 ≤ v ∧ v ≤ 1
  | 19 => 0 ≤ v ∧ v ≤ 1
  | 20 => 0 ≤ v ∧ v ≤ 32
  | 49 => 0 ≤ v ∧ v ≤ 100
  | 56 => 0 ≤ v ∧ v ≤ 840
  | 60 => 0 ≤ v ∧ v ≤ 64
  | 63 => 0 ≤ v ∧ v ≤ 1
  | 74 => 0 ≤ v ∧ v ≤ 20
  | 77 => 0 ≤ v ∧ v ≤ 30
  | _ => True
/-- rows -/
def rA (j : Nat) (i : Int) (v : Int) : Prop := match j with
  | 5 => 0 ≤ v ∧ v ≤ 9999
  | 10 => 0 ≤ v ∧ v ≤ 7
  | 11 => 0 ≤ v ∧ v ≤ 8
  | 12 => 0 ≤ v ∧ v ≤ 12
  | 13 => -1 ≤ v ∧ v ≤ 7
  | 14 => -1 ≤ v ∧ v ≤ 7
  | 16 => 0 ≤ v ∧ v ≤ 1
  | 17 => 0 ≤ v ∧ v ≤ 6
  | 19 => 0 ≤ v ∧ v ≤ 6
  | 20 => -1 ≤ v ∧ v ≤ 7
  | 22 => 0 ≤ v ∧ v ≤ 6
  | 27 => -1 ≤ v ∧ v ≤ 5
  | 29 => 0 ≤ v ∧ v ≤ 6
  | 30 => -1 ≤ v ∧ v ≤ 7
  | 31 => -1 ≤ v ∧ v ≤ 5
  | 33 => 0 ≤ v ∧ v ≤ 8
  | 34 => 0 ≤ v ∧ v ≤ 100
  | 35 => 0 ≤ v ∧ v ≤ 100
  | 36 => 0 ≤ v ∧ v ≤ 1
  | 37 => 0 ≤ v ∧ v ≤ 840
  | 38 => 0 ≤ v ∧ v ≤ 840
  | 39 => 0 ≤ v ∧ v ≤ 840
  | 40 => 0 ≤ v ∧ v ≤ 840
  | 41 => 0 ≤ v ∧ v ≤ 9999
  | 42 => 0 ≤ v ∧ v ≤ 5
  | 56 => 0 ≤ v ∧ v ≤ 1
  | 58 => 0 ≤ v ∧ v ≤ 5
  | 59 => 0 ≤ v ∧ v ≤ 5
  | 61 => 0 ≤ v ∧ v ≤ 1
  | _ => True
def IFm (F : Nat → Int32) : Prop := ∀ k, rF k (F k).toInt
def IAm (A : Nat → Nat → Int32) : Prop := ∀ (j : Nat) (i : Int), 0 ≤ i → rA j i (ai A j i)
theorem IFm.put {F : Nat → Int32} {k : Nat} {x : Int32} (hF : IFm F) (hx : rF k x.toInt) : IFm (upd F k x) := by
  intro q
  unfold upd
  by_cases h : q = k
  · rw [if_pos h, h]; exact hx
  · rw [if_neg h]; exact hF q
theorem ai_same {A : Nat → Nat → Int32} {j : Nat} {i : Int} {x : Int32} : ai (va_up A j (upd (A j) i.toNat x)) j i = x.toInt := by
  unfold ai
  rw [c_up_same]
  unfold upd
  rw [if_pos rfl]
theorem ai_ne {A : Nat → Nat → Int32} {j : Nat} {i q : Int} {x : Int32} (hi : 0 ≤ i) (hq : 0 ≤ q) (h : q ≠ i) : ai (va_up A j (upd (A j) i.toNat x)) j q = ai A j q := by
  unfold ai
  rw [c_up_same]
  unfold upd
  rw [if_neg (by omega)]
theorem IAm.put {A : Nat → Nat → Int32} {j : Nat} {i : Int} {x : Int32} (hA : IAm A) (hi : 0 ≤ i) (hx : rA j i x.toInt) : IAm (va_up A j (upd (A j) i.toNat x)) := by
  intro q p hp
  by_cases h : q = j
  · subst h
    by_cases h2 : p = i
    · subst h2
      rw [ai_same]
      exact hx
    · rw [ai_ne hi hp h2]
      exact hA q p hp
  · unfold ai
    rw [c_up_ne h]
    exact hA q p hp
section OM
variable {β : Type} {Q : β → Prop}
theorem ok_ld {A : Nat → Nat → Int32} {j n : Nat} {i : Int32} {g : Int32 → Option β} (hA : IAm A) (h0 : 0 ≤ i.toInt) (h1 : i.toInt < (n : Int)) (k : ∀ v : Int32, v.toInt = ai A j i.toInt → rA j i.toInt v.toInt → ok (g v) Q) : ok ((m_ld (A j) n i).bind g) Q :=
  ok_ld0 h0 h1 (k _ rfl (hA j i.toInt h0))
theorem ok_st {A : Nat → Nat → Int32} {j n : Nat} {i x : Int32} {g : (Nat → Nat → Int32) → Option β} (hA : IAm A) (h0 : 0 ≤ i.toInt) (h1 : i.toInt < (n : Int)) (hx : rA j i.toInt x.toInt) (k : ∀ A', IAm A' → (∀ q, q ≠ j → A' q = A q) → ai A' j i.toInt = x.toInt → (∀ q, 0 ≤ q → q ≠ i.toInt → ai A' j q = ai A j q) → ok (g A') Q) : ok ((m_st A j n i x).bind g) Q :=
  ok_st0 h0 h1 (k _ (hA.put h0 hx) (fun _ h => c_up_ne h) ai_same (fun _ hq h => ai_ne h0 hq h))
theorem ok_pf {F : Nat → Int32} {k : Nat} {x : Int32} {g : (Nat → Int32) → Option β} (hF : IFm F) (hx : rF k x.toInt) (kk : ∀ F', IFm F' → F' k = x → (∀ q, q ≠ k → F' q = F q) → ok (g F') Q) : ok ((m_pf F k x).bind g) Q :=
  ok_pf0 (kk _ (hF.put hx) (if_pos rfl) (fun _ h => if_neg h))
end OM
theorem i_mulL {c : Int} {k x : Int32} (hk : k.toInt = c) (h1 : -2147483648 ≤ c * x.toInt) (h2 : c * x.toInt < 2147483648) : (k * x).toInt = c * x.toInt := by
  subst hk
  exact i_mul h1 h2
theorem i_mulR {c : Int} {k x : Int32} (hk : k.toInt = c) (h1 : -2147483648 ≤ x.toInt * c) (h2 : x.toInt * c < 2147483648) : (x * k).toInt = x.toInt * c := by
  subst hk
  exact i_mul h1 h2
section OM2
variable {β : Type} {Q : β → Prop}
theorem ok_ldJ1 {f : Nat → Int64} {n : Nat} {i : Int32} {g : Int64 → Option β} (h0 : 0 ≤ i.toInt) (h1 : i.toInt < (n : Int)) (k : ∀ v, ok (g v) Q) : ok ((m_ldJ f n i).bind g) Q := ok_ldJ h0 h1 (k _)
theorem ok_stJ1 {J : Nat → Nat → Int64} {j n : Nat} {i : Int32} {x : Int64} {g : (Nat → Nat → Int64) → Option β} (h0 : 0 ≤ i.toInt) (h1 : i.toInt < (n : Int)) (k : ∀ J', ok (g J') Q) : ok ((m_stJ J j n i x).bind g) Q := ok_stJ h0 h1 (k _)
theorem ok_div1 {x y : Int32} {g : Int32 → Option β} (hy : y.toInt ≠ 0) (k : ∀ v, v = x / y → ok (g v) Q) : ok ((m_div x y).bind g) Q := ok_div0 hy (k _ rfl)
theorem ok_rem1 {x y : Int32} {g : Int32 → Option β} (hy : y.toInt ≠ 0) (k : ∀ v, v = x - x / y * y → ok (g v) Q) : ok ((m_rem x y).bind g) Q := ok_rem0 hy (k _ rfl)
theorem ok_pfz {F : Nat → Int32} {k : Nat} {x : Int32} {g : (Nat → Int32) → Option β} (hF : IFm F) (h01 : x.toInt = 0 ∨ x.toInt = 1) (hx : rF k x.toInt) (kk : ∀ F', IFm F' → F' k = x → (∀ q, q ≠ k → F' q = F q) → ok (g F') Q) : ok ((m_pfz F k x).bind g) Q := by
  unfold m_pfz
  rw [if_pos (h01.elim (fun h => .inl (i_ext h)) (fun h => .inr (i_ext h)))]
  exact kk _ (hF.put hx) (if_pos rfl) (fun _ h => if_neg h)
end OM2
end Qz39
section Qz40
/-! what holds of the live side of the reference -/
/-- how many values a run of codes leaves -/
def dpm (A : Nat → Nat → Int32) (u : Int) : Nat → Int
  | 0 => 0
  | k + 1 => if ai A 42 (u + k) < 2 then dpm A u k + 1 else dpm A u k - 1
def WFm (A : Nat → Nat → Int32) (u v : Int) : Prop := 0 ≤ u ∧ u ≤ v ∧ v ≤ u + 400 ∧ v ≤ 840 ∧ (∀ k : Nat, u + k < v → 2 ≤ ai A 42 (u + k) → 2 ≤ dpm A u k) ∧ (∀ c, u ≤ c → c < v → ai A 42 c = 1 → 0 ≤ ai A 43 c ∧ ai A 43 c ≤ 5)
def LWm (A : Nat → Nat → Int32) (b : Int) : Prop := (ai A 36 b = 1 → WFm A (ai A 37 b) (ai A 38 b) ∧ WFm A (ai A 38 b) (ai A 39 b)) ∧ WFm A (ai A 39 b) (ai A 40 b)
def VMs (F : Nat → Int32) (A : Nat → Nat → Int32) : Prop :=
  (∀ d, 0 ≤ d → d < ai A 12 (F 18).toInt → 0 ≤ ai A 13 (12 * (F 18).toInt + d) ∧ 0 ≤ ai A 14 (12 * (F 18).toInt + d)) ∧
  (∀ m, 0 ≤ m → m < ai A 29 (F 18).toInt → 0 ≤ ai A 30 (6 * (F 18).toInt + m)) ∧
  (∀ t, 0 ≤ t → t < ai A 19 (F 18).toInt → 0 ≤ ai A 20 (6 * (F 18).toInt + t)) ∧
  (∀ t s, 0 ≤ t → t < ai A 19 (F 18).toInt → 0 ≤ s → s < ai A 22 (6 * (F 18).toInt + t) → ai A 28 (6 * (6 * (F 18).toInt + t) + s) ≤ 5) ∧
  (∀ m, 0 ≤ m → m < ai A 29 (F 18).toInt → ∀ b, ai A 34 (6 * (F 18).toInt + m) ≤ b → b < ai A 35 (6 * (F 18).toInt + m) → LWm A b)
theorem ai_fr {A A' : Nat → Nat → Int32} {j : Nat} (h : A' j = A j) : ai A' j = ai A j := by
  funext i
  unfold ai
  rw [h]
theorem dpm_fr {A A' : Nat → Nat → Int32} (h : A' 42 = A 42) (u : Int) : ∀ k, dpm A' u k = dpm A u k
  | 0 => rfl
  | k + 1 => by
    unfold dpm
    rw [dpm_fr h u k, ai_fr h]
theorem WFm.fr {A A' : Nat → Nat → Int32} (h : A' 42 = A 42) (h' : A' 43 = A 43) {u v : Int} (w : WFm A u v) : WFm A' u v := by
  unfold WFm
  simp only [ai_fr h, ai_fr h', dpm_fr h]
  exact w
theorem LWm.fr {A A' : Nat → Nat → Int32} (h : ∀ q, 8 ≤ q → q ≤ 43 → A' q = A q) {b : Int} (w : LWm A b) : LWm A' b := by
  unfold LWm
  rw [ai_fr (h 36 (by decide) (by decide)), ai_fr (h 37 (by decide) (by decide)), ai_fr (h 38 (by decide) (by decide)), ai_fr (h 39 (by decide) (by decide)), ai_fr (h 40 (by decide) (by decide))]
  have e1 := h 42 (by decide) (by decide)
  have e2 := h 43 (by decide) (by decide)
  exact ⟨fun h => ⟨(w.1 h).1.fr e1 e2, (w.1 h).2.fr e1 e2⟩, w.2.fr e1 e2⟩
theorem VMs.fr {F F' : Nat → Int32} {A A' : Nat → Nat → Int32} (v : VMs F A) (hF : F' 18 = F 18) (h : ∀ q, 8 ≤ q → q ≤ 43 → A' q = A q) : VMs F' A' := by
  unfold VMs
  rw [hF, ai_fr (h 12 (by decide) (by decide)), ai_fr (h 13 (by decide) (by decide)), ai_fr (h 14 (by decide) (by decide)), ai_fr (h 29 (by decide) (by decide)), ai_fr (h 30 (by decide) (by decide)), ai_fr (h 19 (by decide) (by decide)), ai_fr (h 20 (by decide) (by decide)), ai_fr (h 22 (by decide) (by decide)), ai_fr (h 28 (by decide) (by decide)), ai_fr (h 34 (by decide) (by decide)), ai_fr (h 35 (by decide) (by decide))]
  exact ⟨v.1, v.2.1, v.2.2.1, v.2.2.2.1, fun m h0 h1 b h2 h3 => (v.2.2.2.2 m h0 h1 b h2 h3).fr h⟩
theorem dpm_step {A : Nat → Nat → Int32} {u c : Int} (h : u ≤ c) : dpm A u (c + 1 - u).toNat = if ai A 42 c < 2 then dpm A u (c - u).toNat + 1 else dpm A u (c - u).toNat - 1 := by
  have e : (c + 1 - u).toNat = (c - u).toNat + 1 := by omega
  rw [e]
  show (if ai A 42 (u + ((c - u).toNat : Int)) < 2 then _ else _) = _
  rw [show u + ((c - u).toNat : Int) = c by omega]
theorem dpm_le (A : Nat → Nat → Int32) (u : Int) : ∀ k : Nat, dpm A u k ≤ k
  | 0 => by show (0 : Int) ≤ 0; omega
  | k + 1 => by
    have ih := dpm_le A u k
    show (if ai A 42 (u + (k : Int)) < 2 then dpm A u k + 1 else dpm A u k - 1) ≤ _
    split <;> omega
theorem dpm_nn {A : Nat → Nat → Int32} {u v : Int} (w : WFm A u v) : ∀ k : Nat, u + k ≤ v → 0 ≤ dpm A u k
  | 0, _ => Int.le_refl 0
  | k + 1, h => by
    have ih := dpm_nn w k (by omega)
    have h2 := w.2.2.2.2.1 k (by omega)
    show 0 ≤ (if ai A 42 (u + (k : Int)) < 2 then dpm A u k + 1 else dpm A u k - 1)
    split
    next => omega
    next hc => have := h2 (by omega); omega
end Qz40
section Qz41
set_option maxRecDepth 10000 in
theorem s_d_in  {x0 : Int32} {x1 : Int32} {x2 : Int32}  : ok (d_in x0 x1 x2) (fun v => v.toInt = (if x1.toInt ≤ x0.toInt ∧ x0.toInt ≤ x2.toInt then 1 else 0)) := by
  unfold d_in
  refine ok_cond (fun c_1 => ?_) (fun c_1 => ?_)
  · rw [i_lt] at c_1
    refine ok_some ?_
    have l_2 : (0 : Int32).toInt = 0 := by decide
    (first | (rw [if_pos (by omega)]; assumption) | (rw [if_neg (by omega)]; assumption))
  · rw [i_nlt] at c_1
    refine ok_cond (fun c_3 => ?_) (fun c_3 => ?_)
    · rw [i_gt] at c_3
      refine ok_some ?_
      have l_4 : (0 : Int32).toInt = 0 := by decide
      (first | (rw [if_pos (by omega)]; assumption) | (rw [if_neg (by omega)]; assumption))
    · rw [i_ngt] at c_3
      refine ok_some ?_
      have l_5 : (1 : Int32).toInt = 1 := by decide
      (first | (rw [if_pos (by omega)]; assumption) | (rw [if_neg (by omega)]; assumption))
set_option maxRecDepth 10000 in
theorem s_d_tasksNow {F : Nat → Int32} {A : Nat → Nat → Int32} {J : Nat → Nat → Int64}  (hF : IFm F) (hA : IAm A) : ok (d_tasksNow F A J) (fun v => v.toInt = ai A 19 (F 18).toInt ∧ 0 ≤ v.toInt ∧ v.toInt ≤ 6) := by
  have r18 : 0 ≤ (F 18).toInt ∧ (F 18).toInt ≤ 1 := hF 18
  unfold d_tasksNow
  have r_1 : 0 ≤ (F 18).toInt ∧ (F 18).toInt ≤ 1 := hF 18
  refine ok_ld (j := 19) hA (by omega) (by omega) ?_
  intro v_2 v_2_e v_2_r
  have v_2_r : 0 ≤ v_2.toInt ∧ v_2.toInt ≤ 6 := v_2_r
  refine ok_some ?_
  exact ⟨by assumption, by omega, by omega⟩
set_option maxRecDepth 10000 in
theorem s_d_menNow {F : Nat → Int32} {A : Nat → Nat → Int32} {J : Nat → Nat → Int64}  (hF : IFm F) (hA : IAm A) : ok (d_menNow F A J) (fun v => v.toInt = ai A 29 (F 18).toInt ∧ 0 ≤ v.toInt ∧ v.toInt ≤ 6) := by
  have r18 : 0 ≤ (F 18).toInt ∧ (F 18).toInt ≤ 1 := hF 18
  unfold d_menNow
  have r_1 : 0 ≤ (F 18).toInt ∧ (F 18).toInt ≤ 1 := hF 18
  refine ok_ld (j := 29) hA (by omega) (by omega) ?_
  intro v_2 v_2_e v_2_r
  have v_2_r : 0 ≤ v_2.toInt ∧ v_2.toInt ≤ 6 := v_2_r
  refine ok_some ?_
  exact ⟨by assumption, by omega, by omega⟩
set_option maxRecDepth 10000 in
theorem s_d_takes_2  {n : Nat} {F : Nat → Int32} {A : Nat → Nat → Int32} {J : Nat → Nat → Int64} {x1 : Int32} (hF : IFm F) (hA : IAm A) (rx1 : 0 ≤ x1.toInt ∧ x1.toInt ≤ 100) (hn : 100 - x1.toInt < (n : Int)) : ok (d_takes_2 n F A J x1) (fun r => IFm r.2.1 ∧ IAm r.2.2.1 ∧ (∀ q, q ∉ ([] : List Nat) → r.2.1 q = F q) ∧ (∀ q, q ∉ ([48] : List Nat) → r.2.2.1 q = A q) ∧ True) := by
  induction n generalizing F A J x1 with
  | zero => exact absurd hn (by omega)
  | succ n ih =>
    have r18 : 0 ≤ (F 18).toInt ∧ (F 18).toInt ≤ 1 := hF 18
    unfold d_takes_2
    have l_1 : (100 : Int32).toInt = 100 := by decide
    refine ok_cond (fun c_2 => ?_) (fun c_2 => ?_)
    · rw [i_ge] at c_2
      refine ok_some ?_
      refine ⟨hF, hA, (fun q hq => rfl), (fun q hq => rfl), ?_⟩
      (first | trivial | omega | exact ⟨by omega, by omega⟩ | assumption)
    · rw [i_nge] at c_2
      refine ok_ld (j := 47) hA (by omega) (by omega) ?_
      intro v_3 v_3_e v_3_r
      refine ok_st (j := 48) hA (by omega) (by omega) (trivial) ?_
      intro A_4 hA_4 A_4_o A_4_s A_4_n
      have l_5 : (1 : Int32).toInt = 1 := by decide
      have e_6 := i_add (x := x1) (y := 1) (by omega) (by omega)
      refine ok_mono (ih hF hA_4 (by omega) (by omega)) ?_
      rintro ⟨v_7, F_8, A_9, J_10⟩ ⟨hF_8, hA_9, F_8_o, A_9_o, v_7_p⟩
      dsimp only at hF_8 hA_9 F_8_o A_9_o v_7_p ⊢
      refine ⟨hF_8, hA_9, (fun q hq => (F_8_o q hq)), (fun q hq => ((A_9_o q hq).trans (A_4_o q (fun e => hq (by rw [e]; decide))))), ?_⟩
      (first | trivial | omega | exact ⟨by omega, by omega⟩ | assumption)
set_option maxRecDepth 10000 in
theorem s_d_takes {n : Nat} {F : Nat → Int32} {A : Nat → Nat → Int32} {J : Nat → Nat → Int64}  (hF : IFm F) (hA : IAm A) (hn : 101 ≤ n) : ok (d_takes n F A J) (fun r => IFm r.2.1 ∧ IAm r.2.2.1 ∧ (∀ q, q ∉ ([] : List Nat) → r.2.1 q = F q) ∧ (∀ q, q ∉ ([48] : List Nat) → r.2.2.1 q = A q) ∧ True) := by
  have r18 : 0 ≤ (F 18).toInt ∧ (F 18).toInt ≤ 1 := hF 18
  unfold d_takes
  have l_1 : (0 : Int32).toInt = 0 := by decide
  refine ok_mono (s_d_takes_2 hF hA (by omega) (by omega)) ?_
  rintro ⟨v_2, F_3, A_4, J_5⟩ ⟨hF_3, hA_4, F_3_o, A_4_o, v_2_p⟩
  dsimp only at hF_3 hA_4 F_3_o A_4_o v_2_p ⊢
  refine ⟨hF_3, hA_4, (fun q hq => (F_3_o q hq)), (fun q hq => (A_4_o q hq)), ?_⟩
  (first | trivial | omega | exact ⟨by omega, by omega⟩ | assumption)
set_option maxRecDepth 10000 in
theorem s_d_stepsOf {F : Nat → Int32} {A : Nat → Nat → Int32} {J : Nat → Nat → Int64} {x1 : Int32} (hF : IFm F) (hA : IAm A) (rx1 : 0 ≤ x1.toInt ∧ x1.toInt ≤ 5) : ok (d_stepsOf F A J x1) (fun v => v.toInt = ai A 22 (6 * (F 18).toInt + x1.toInt) ∧ 0 ≤ v.toInt ∧ v.toInt ≤ 6) := by
  have r18 : 0 ≤ (F 18).toInt ∧ (F 18).toInt ≤ 1 := hF 18
  unfold d_stepsOf
  have l_1 : (6 : Int32).toInt = 6 := by decide
  have r_2 : 0 ≤ (F 18).toInt ∧ (F 18).toInt ≤ 1 := hF 18
  have e_3 := i_mulL (c := 6) (k := 6) (x := (F 18)) (by decide) (by omega) (by omega)
  have e_4 := i_add (x := (6 * (F 18))) (y := x1) (by omega) (by omega)
  refine ok_ld (j := 22) hA (by omega) (by omega) ?_
  intro v_5 v_5_e v_5_r
  have v_5_r : 0 ≤ v_5.toInt ∧ v_5.toInt ≤ 6 := v_5_r
  refine ok_some ?_
  refine ⟨?_, by omega, by omega⟩; rw [v_5_e]; congr 1; omega
set_option maxRecDepth 10000 in
theorem s_d_stepAt {F : Nat → Int32} {A : Nat → Nat → Int32} {J : Nat → Nat → Int64} {x1 : Int32} {x2 : Int32} (hF : IFm F) (rx1 : 0 ≤ x1.toInt ∧ x1.toInt ≤ 5) (rx2 : 0 ≤ x2.toInt ∧ x2.toInt ≤ 5) : ok (d_stepAt F A J x1 x2) (fun v => v.toInt = 6 * (6 * (F 18).toInt + x1.toInt) + x2.toInt) := by
  have r18 : 0 ≤ (F 18).toInt ∧ (F 18).toInt ≤ 1 := hF 18
  unfold d_stepAt
  refine ok_some ?_
  have l_1 : (6 : Int32).toInt = 6 := by decide
  have r_2 : 0 ≤ (F 18).toInt ∧ (F 18).toInt ≤ 1 := hF 18
  have e_3 := i_mulL (c := 6) (k := 6) (x := (F 18)) (by decide) (by omega) (by omega)
  have e_4 := i_add (x := (6 * (F 18))) (y := x1) (by omega) (by omega)
  have e_5 := i_mulL (c := 6) (k := 6) (x := ((6 * (F 18)) + x1)) (by decide) (by omega) (by omega)
  have e_6 := i_add (x := (6 * ((6 * (F 18)) + x1))) (y := x2) (by omega) (by omega)
  (first | trivial | omega | exact ⟨by omega, by omega⟩ | assumption)
set_option maxRecDepth 10000 in
theorem s_d_isEnded_2  {n : Nat} {F : Nat → Int32} {A : Nat → Nat → Int32} {J : Nat → Nat → Int64} {x1 : Int32} {x2 : Int32} (hF : IFm F) (hA : IAm A) (rx1 : 0 ≤ x1.toInt ∧ x1.toInt ≤ 5) (rx2 : 0 ≤ x2.toInt ∧ x2.toInt ≤ 6) (hn : 6 - x2.toInt < (n : Int)) : ok (d_isEnded_2 n F A J x1 x2) (fun v => v.toInt = 0 ∨ v.toInt = 1) := by
  induction n generalizing F A J x2 with
  | zero => exact absurd hn (by omega)
  | succ n ih =>
    have r18 : 0 ≤ (F 18).toInt ∧ (F 18).toInt ≤ 1 := hF 18
    unfold d_isEnded_2
    refine ok_call (s_d_stepsOf hF hA (by omega)) ?_
    intro v_1 v_1_p
    have v_1_p : v_1.toInt = ai A 22 (6 * (F 18).toInt + x1.toInt) ∧ 0 ≤ v_1.toInt ∧ v_1.toInt ≤ 6 := v_1_p
    refine ok_cond (fun c_2 => ?_) (fun c_2 => ?_)
    · rw [i_ge] at c_2
      refine ok_some ?_
      have l_3 : (1 : Int32).toInt = 1 := by decide
      (first | trivial | omega | exact ⟨by omega, by omega⟩ | assumption)
    · rw [i_nge] at c_2
      have l_4 : (6 : Int32).toInt = 6 := by decide
      have e_5 := i_mulL (c := 6) (k := 6) (x := x1) (by decide) (by omega) (by omega)
      have e_6 := i_add (x := 6) (y := (6 * x1)) (by omega) (by omega)
      have e_7 := i_add (x := (6 + (6 * x1))) (y := x2) (by omega) (by omega)
      refine ok_ld (j := 48) hA (by omega) (by omega) ?_
      intro v_8 v_8_e v_8_r
      refine ok_call (s_d_stepAt hF (by omega) (by omega)) ?_
      intro v_9 v_9_p
      have v_9_p : v_9.toInt = 6 * (6 * (F 18).toInt + x1.toInt) + x2.toInt := v_9_p
      refine ok_ld (j := 24) hA (by omega) (by omega) ?_
      intro v_10 v_10_e v_10_r
      refine ok_cond (fun c_11 => ?_) (fun c_11 => ?_)
      · rw [i_ge] at c_11
        have l_12 : (1 : Int32).toInt = 1 := by decide
        have e_13 := i_add (x := x2) (y := 1) (by omega) (by omega)
        refine ok_mono (ih hF hA (by omega) (by omega)) ?_
        intro v_14 v_14_p
        have v_14_p : v_14.toInt = 0 ∨ v_14.toInt = 1 := v_14_p
        (first | trivial | omega | exact ⟨by omega, by omega⟩ | assumption)
      · rw [i_nge] at c_11
        refine ok_some ?_
        have l_15 : (0 : Int32).toInt = 0 := by decide
        (first | trivial | omega | exact ⟨by omega, by omega⟩ | assumption)
set_option maxRecDepth 10000 in
theorem s_d_isEnded {n : Nat} {F : Nat → Int32} {A : Nat → Nat → Int32} {J : Nat → Nat → Int64} {x1 : Int32} (hF : IFm F) (hA : IAm A) (hn : 7 ≤ n) (rx1 : 0 ≤ x1.toInt ∧ x1.toInt ≤ 5) : ok (d_isEnded n F A J x1) (fun v => v.toInt = 0 ∨ v.toInt = 1) := by
  have r18 : 0 ≤ (F 18).toInt ∧ (F 18).toInt ≤ 1 := hF 18
  unfold d_isEnded
  have l_1 : (0 : Int32).toInt = 0 := by decide
  refine ok_mono (s_d_isEnded_2 hF hA (by omega) (by omega) (by omega)) ?_
  intro v_2 v_2_p
  have v_2_p : v_2.toInt = 0 ∨ v_2.toInt = 1 := v_2_p
  (first | trivial | omega | exact ⟨by omega, by omega⟩ | assumption)
set_option maxRecDepth 10000 in
theorem s_d_worthOf_4  {n : Nat} {F : Nat → Int32} {A : Nat → Nat → Int32} {J : Nat → Nat → Int64} {x1 : Int32} {x2 : Int32} {x3 : Int32} (hF : IFm F) (hA : IAm A) (rx1 : 0 ≤ x1.toInt ∧ x1.toInt ≤ 5) (rx3 : 0 ≤ x3.toInt ∧ x3.toInt ≤ 6) (hn : 6 - x3.toInt < (n : Int)) : ok (d_worthOf_4 n F A J x1 x2 x3) (fun v => True) := by
  induction n generalizing F A J x2 x3 with
  | zero => exact absurd hn (by omega)
  | succ n ih =>
    have r18 : 0 ≤ (F 18).toInt ∧ (F 18).toInt ≤ 1 := hF 18
    unfold d_worthOf_4
    refine ok_call (s_d_stepsOf hF hA (by omega)) ?_
    intro v_1 v_1_p
    have v_1_p : v_1.toInt = ai A 22 (6 * (F 18).toInt + x1.toInt) ∧ 0 ≤ v_1.toInt ∧ v_1.toInt ≤ 6 := v_1_p
    refine ok_cond (fun c_2 => ?_) (fun c_2 => ?_)
    · rw [i_ge] at c_2
      refine ok_some ?_
      (first | trivial | omega | exact ⟨by omega, by omega⟩ | assumption)
    · rw [i_nge] at c_2
      refine ok_call (s_d_stepAt hF (by omega) (by omega)) ?_
      intro v_3 v_3_p
      have v_3_p : v_3.toInt = 6 * (6 * (F 18).toInt + x1.toInt) + x3.toInt := v_3_p
      have l_4 : (6 : Int32).toInt = 6 := by decide
      have e_5 := i_mulL (c := 6) (k := 6) (x := x1) (by decide) (by omega) (by omega)
      have e_6 := i_add (x := 6) (y := (6 * x1)) (by omega) (by omega)
      have e_7 := i_add (x := (6 + (6 * x1))) (y := x3) (by omega) (by omega)
      refine ok_ld (j := 48) hA (by omega) (by omega) ?_
      intro v_8 v_8_e v_8_r
      refine ok_ld (j := 24) hA (by omega) (by omega) ?_
      intro v_9 v_9_e v_9_r
      refine ok_cond (fun c_10 => ?_) (fun c_10 => ?_)
      · rw [i_ge] at c_10
        unfold d_worthOf_61
        refine ok_ld (j := 25) hA (by omega) (by omega) ?_
        intro v_11 v_11_e v_11_r
        refine ok_cond (fun c_12 => ?_) (fun c_12 => ?_)
        · rw [i_le] at c_12
          unfold d_worthOf_85
          refine ok_ld (j := 26) hA (by omega) (by omega) ?_
          intro v_13 v_13_e v_13_r
          have l_14 : (1 : Int32).toInt = 1 := by decide
          have e_15 := i_add (x := x3) (y := 1) (by omega) (by omega)
          refine ok_mono (ih hF hA (by omega) (by omega)) ?_
          intro v_16 v_16_p
          (first | trivial | omega | exact ⟨by omega, by omega⟩ | assumption)
        · rw [i_nle] at c_12
          unfold d_worthOf_85
          refine ok_ld (j := 26) hA (by omega) (by omega) ?_
          intro v_17 v_17_e v_17_r
          have l_18 : (1 : Int32).toInt = 1 := by decide
          have e_19 := i_add (x := x3) (y := 1) (by omega) (by omega)
          refine ok_mono (ih hF hA (by omega) (by omega)) ?_
          intro v_20 v_20_p
          (first | trivial | omega | exact ⟨by omega, by omega⟩ | assumption)
      · rw [i_nge] at c_10
        unfold d_worthOf_61
        refine ok_ld (j := 25) hA (by omega) (by omega) ?_
        intro v_21 v_21_e v_21_r
        refine ok_cond (fun c_22 => ?_) (fun c_22 => ?_)
        · rw [i_le] at c_22
          unfold d_worthOf_85
          refine ok_ld (j := 26) hA (by omega) (by omega) ?_
          intro v_23 v_23_e v_23_r
          have l_24 : (1 : Int32).toInt = 1 := by decide
          have e_25 := i_add (x := x3) (y := 1) (by omega) (by omega)
          refine ok_mono (ih hF hA (by omega) (by omega)) ?_
          intro v_26 v_26_p
          (first | trivial | omega | exact ⟨by omega, by omega⟩ | assumption)
        · rw [i_nle] at c_22
          unfold d_worthOf_85
          refine ok_ld (j := 26) hA (by omega) (by omega) ?_
          intro v_27 v_27_e v_27_r
          have l_28 : (1 : Int32).toInt = 1 := by decide
          have e_29 := i_add (x := x3) (y := 1) (by omega) (by omega)
          refine ok_mono (ih hF hA (by omega) (by omega)) ?_
          intro v_30 v_30_p
          (first | trivial | omega | exact ⟨by omega, by omega⟩ | assumption)
set_option maxRecDepth 10000 in
theorem s_d_worthOf {n : Nat} {F : Nat → Int32} {A : Nat → Nat → Int32} {J : Nat → Nat → Int64} {x1 : Int32} (hF : IFm F) (hA : IAm A) (hn : 7 ≤ n) (rx1 : 0 ≤ x1.toInt ∧ x1.toInt ≤ 5) : ok (d_worthOf n F A J x1) (fun v => True) := by
  have r18 : 0 ≤ (F 18).toInt ∧ (F 18).toInt ≤ 1 := hF 18
  unfold d_worthOf
  have l_1 : (0 : Int32).toInt = 0 := by decide
  refine ok_mono (s_d_worthOf_4 hF hA (by omega) (by omega) (by omega)) ?_
  intro v_2 v_2_p
  (first | trivial | omega | exact ⟨by omega, by omega⟩ | assumption)
set_option maxRecDepth 10000 in
theorem s_d_worthNow_4  {n : Nat} {F : Nat → Int32} {A : Nat → Nat → Int32} {J : Nat → Nat → Int64} {x1 : Int32} {x2 : Int32} (hF : IFm F) (hA : IAm A) (rx2 : 0 ≤ x2.toInt ∧ x2.toInt ≤ 6) (hn : 13 - x2.toInt < (n : Int)) : ok (d_worthNow_4 n F A J x1 x2) (fun v => True) := by
  induction n generalizing F A J x1 x2 with
  | zero => exact absurd hn (by omega)
  | succ n ih =>
    have r18 : 0 ≤ (F 18).toInt ∧ (F 18).toInt ≤ 1 := hF 18
    unfold d_worthNow_4
    refine ok_call (s_d_tasksNow hF hA) ?_
    intro v_1 v_1_p
    have v_1_p : v_1.toInt = ai A 19 (F 18).toInt ∧ 0 ≤ v_1.toInt ∧ v_1.toInt ≤ 6 := v_1_p
    refine ok_cond (fun c_2 => ?_) (fun c_2 => ?_)
    · rw [i_ge] at c_2
      refine ok_some ?_
      (first | trivial | omega | exact ⟨by omega, by omega⟩ | assumption)
    · rw [i_nge] at c_2
      refine ok_call (s_d_worthOf hF hA (by omega) (by omega)) ?_
      intro v_3 v_3_p
      have l_4 : (1 : Int32).toInt = 1 := by decide
      have e_5 := i_add (x := x2) (y := 1) (by omega) (by omega)
      refine ok_mono (ih hF hA (by omega) (by omega)) ?_
      intro v_6 v_6_p
      (first | trivial | omega | exact ⟨by omega, by omega⟩ | assumption)
set_option maxRecDepth 10000 in
theorem s_d_worthNow {n : Nat} {F : Nat → Int32} {A : Nat → Nat → Int32} {J : Nat → Nat → Int64}  (hF : IFm F) (hA : IAm A) (hn : 14 ≤ n) : ok (d_worthNow n F A J) (fun v => True) := by
  have r18 : 0 ≤ (F 18).toInt ∧ (F 18).toInt ≤ 1 := hF 18
  unfold d_worthNow
  have l_1 : (0 : Int32).toInt = 0 := by decide
  refine ok_mono (s_d_worthNow_4 hF hA (by omega) (by omega)) ?_
  intro v_2 v_2_p
  (first | trivial | omega | exact ⟨by omega, by omega⟩ | assumption)
set_option maxRecDepth 10000 in
theorem s_d_fillsWays_186 {K170 : (Nat → Int32) → (Nat → Nat → Int32) → (Nat → Nat → Int64) → Int32 → Option (Unit × (Nat → Int32) × (Nat → Nat → Int32) × (Nat → Nat → Int64))} {K178 : (Nat → Int32) → (Nat → Nat → Int32) → (Nat → Nat → Int64) → Int32 → Int32 → Option (Unit × (Nat → Int32) × (Nat → Nat → Int32) × (Nat → Nat → Int64))} {Q : Unit × (Nat → Int32) × (Nat → Nat → Int32) × (Nat → Nat → Int64) → Prop} {n : Nat} {F0 : Nat → Int32} {A0 : Nat → Nat → Int32} {F : Nat → Int32} {A : Nat → Nat → Int32} {J : Nat → Nat → Int64} {x1 : Int32} {x2 : Int32} {x3 : Int32} (hF : IFm F) (hA : IAm A) (bF : ∀ q, q ∉ ([] : List Nat) → F q = F0 q) (bA : ∀ q, q ∉ ([49] : List Nat) → A q = A0 q) (rx1 : 0 ≤ x1.toInt ∧ x1.toInt ≤ 7) (rx2 : 0 ≤ x2.toInt ∧ x2.toInt ≤ 7) (rx3 : 0 ≤ x3.toInt ∧ x3.toInt ≤ 8) (hK178 : ∀ F A J, IFm F → IAm A → (∀ q, q ∉ ([] : List Nat) → F q = F0 q) → (∀ q, q ∉ ([49] : List Nat) → A q = A0 q) → ok (K178 F A J x1 (x2 + 1)) Q) (hn : 8 - x3.toInt < (n : Int)) : ok (d_fillsWays_186 K170 K178 n F A J x1 x2 x3) (Q) := by
  induction n generalizing F A J x3 with
  | zero => exact absurd hn (by omega)
  | succ n ih =>
    have r18 : 0 ≤ (F 18).toInt ∧ (F 18).toInt ≤ 1 := hF 18
    unfold d_fillsWays_186
    have l_1 : (8 : Int32).toInt = 8 := by decide
    refine ok_cond (fun c_2 => ?_) (fun c_2 => ?_)
    · rw [i_ge] at c_2
      exact hK178 _ _ _ hF hA (fun q hq => (bF q hq)) (fun q hq => (bA q hq))
    · rw [i_nge] at c_2
      have e_3 := i_mulL (c := 8) (k := 8) (x := x2) (by decide) (by omega) (by omega)
      have e_4 := i_add (x := (8 * x2)) (y := x1) (by omega) (by omega)
      refine ok_ld (j := 49) hA (by omega) (by omega) ?_
      intro v_5 v_5_e v_5_r
      have e_6 := i_mulL (c := 8) (k := 8) (x := x1) (by decide) (by omega) (by omega)
      have e_7 := i_add (x := (8 * x1)) (y := x3) (by omega) (by omega)
      refine ok_ld (j := 49) hA (by omega) (by omega) ?_
      intro v_8 v_8_e v_8_r
      have e_9 := i_add (x := (8 * x2)) (y := x3) (by omega) (by omega)
      refine ok_ld (j := 49) hA (by omega) (by omega) ?_
      intro v_10 v_10_e v_10_r
      refine ok_cond (fun c_11 => ?_) (fun c_11 => ?_)
      · rw [i_ge] at c_11
        unfold d_fillsWays_263
        have l_12 : (1 : Int32).toInt = 1 := by decide
        have e_13 := i_add (x := x3) (y := 1) (by omega) (by omega)
        exact ih hF hA (fun q hq => (bF q hq)) (fun q hq => (bA q hq)) (by omega) (by omega)
      · rw [i_nge] at c_11
        refine ok_ld (j := 49) hA (by omega) (by omega) ?_
        intro v_14 v_14_e v_14_r
        refine ok_ld (j := 49) hA (by omega) (by omega) ?_
        intro v_15 v_15_e v_15_r
        refine ok_st (j := 49) hA (by omega) (by omega) (trivial) ?_
        intro A_16 hA_16 A_16_o A_16_s A_16_n
        have l_17 : (1 : Int32).toInt = 1 := by decide
        have e_18 := i_add (x := x3) (y := 1) (by omega) (by omega)
        exact ih hF hA_16 (fun q hq => (bF q hq)) (fun q hq => ((A_16_o q (fun e => hq (by rw [e]; decide))).trans (bA q hq))) (by omega) (by omega)
set_option maxRecDepth 10000 in
theorem s_d_fillsWays_178 {K170 : (Nat → Int32) → (Nat → Nat → Int32) → (Nat → Nat → Int64) → Int32 → Option (Unit × (Nat → Int32) × (Nat → Nat → Int32) × (Nat → Nat → Int64))} {Q : Unit × (Nat → Int32) × (Nat → Nat → Int32) × (Nat → Nat → Int64) → Prop} {n : Nat} {F0 : Nat → Int32} {A0 : Nat → Nat → Int32} {F : Nat → Int32} {A : Nat → Nat → Int32} {J : Nat → Nat → Int64} {x1 : Int32} {x2 : Int32} (hF : IFm F) (hA : IAm A) (bF : ∀ q, q ∉ ([] : List Nat) → F q = F0 q) (bA : ∀ q, q ∉ ([49] : List Nat) → A q = A0 q) (rx1 : 0 ≤ x1.toInt ∧ x1.toInt ≤ 7) (rx2 : 0 ≤ x2.toInt ∧ x2.toInt ≤ 8) (hK170 : ∀ F A J, IFm F → IAm A → (∀ q, q ∉ ([] : List Nat) → F q = F0 q) → (∀ q, q ∉ ([49] : List Nat) → A q = A0 q) → ok (K170 F A J (x1 + 1)) Q) (hn : 17 - x2.toInt < (n : Int)) : ok (d_fillsWays_178 K170 n F A J x1 x2) (Q) := by
  induction n generalizing F A J x2 with
  | zero => exact absurd hn (by omega)
  | succ n ih =>
    have r18 : 0 ≤ (F 18).toInt ∧ (F 18).toInt ≤ 1 := hF 18
    unfold d_fillsWays_178
    have l_1 : (8 : Int32).toInt = 8 := by decide
    refine ok_cond (fun c_2 => ?_) (fun c_2 => ?_)
    · rw [i_ge] at c_2
      exact hK170 _ _ _ hF hA (fun q hq => (bF q hq)) (fun q hq => (bA q hq))
    · rw [i_nge] at c_2
      have l_3 : (0 : Int32).toInt = 0 := by decide
      have l_4 : (1 : Int32).toInt = 1 := by decide
      have e_5 := i_add (x := x2) (y := 1) (by omega) (by omega)
      exact s_d_fillsWays_186 (K178 := (d_fillsWays_178 K170 n)) hF hA (fun q hq => (bF q hq)) (fun q hq => (bA q hq)) (by omega) (by omega) (by omega) (fun F A J hF hA bF bA => ih hF hA bF bA (by omega) (by omega)) (by omega)
set_option maxRecDepth 10000 in
theorem s_d_fillsWays_170  {n : Nat} {F0 : Nat → Int32} {A0 : Nat → Nat → Int32} {F : Nat → Int32} {A : Nat → Nat → Int32} {J : Nat → Nat → Int64} {x1 : Int32} (hF : IFm F) (hA : IAm A) (bF : ∀ q, q ∉ ([] : List Nat) → F q = F0 q) (bA : ∀ q, q ∉ ([49] : List Nat) → A q = A0 q) (rx1 : 0 ≤ x1.toInt ∧ x1.toInt ≤ 8) (hn : 26 - x1.toInt < (n : Int)) : ok (d_fillsWays_170 n F A J x1) (fun r => IFm r.2.1 ∧ IAm r.2.2.1 ∧ (∀ q, q ∉ ([] : List Nat) → r.2.1 q = F0 q) ∧ (∀ q, q ∉ ([49] : List Nat) → r.2.2.1 q = A0 q) ∧ True) := by
  induction n generalizing F A J x1 with
  | zero => exact absurd hn (by omega)
  | succ n ih =>
    have r18 : 0 ≤ (F 18).toInt ∧ (F 18).toInt ≤ 1 := hF 18
    unfold d_fillsWays_170
    have l_1 : (8 : Int32).toInt = 8 := by decide
    refine ok_cond (fun c_2 => ?_) (fun c_2 => ?_)
    · rw [i_ge] at c_2
      refine ok_some ?_
      refine ⟨hF, hA, (fun q hq => (bF q hq)), (fun q hq => (bA q hq)), ?_⟩
      (first | trivial | omega | exact ⟨by omega, by omega⟩ | assumption)
    · rw [i_nge] at c_2
      have l_3 : (0 : Int32).toInt = 0 := by decide
      have l_4 : (1 : Int32).toInt = 1 := by decide
      have e_5 := i_add (x := x1) (y := 1) (by omega) (by omega)
      exact s_d_fillsWays_178 (K170 := (d_fillsWays_170 n)) hF hA (fun q hq => (bF q hq)) (fun q hq => (bA q hq)) (by omega) (by omega) (fun F A J hF hA bF bA => ih hF hA bF bA (by omega) (by omega)) (by omega)
set_option maxRecDepth 10000 in
theorem s_d_fillsWays_40  {n : Nat} {F0 : Nat → Int32} {A0 : Nat → Nat → Int32} {F : Nat → Int32} {A : Nat → Nat → Int32} {J : Nat → Nat → Int64} {x1 : Int32} (hF : IFm F) (hA : IAm A) (bF : ∀ q, q ∉ ([] : List Nat) → F q = F0 q) (bA : ∀ q, q ∉ ([49] : List Nat) → A q = A0 q) (hV : VMs F0 A0) (rx1 : 0 ≤ x1.toInt ∧ x1.toInt ≤ 12) (hn : 39 - x1.toInt < (n : Int)) : ok (d_fillsWays_40 n F A J x1) (fun r => IFm r.2.1 ∧ IAm r.2.2.1 ∧ (∀ q, q ∉ ([] : List Nat) → r.2.1 q = F0 q) ∧ (∀ q, q ∉ ([49] : List Nat) → r.2.2.1 q = A0 q) ∧ True) := by
  induction n generalizing F A J x1 with
  | zero => exact absurd hn (by omega)
  | succ n ih =>
    have r18 : 0 ≤ (F 18).toInt ∧ (F 18).toInt ≤ 1 := hF 18
    have hV1 : VMs F A := hV.fr (bF 18 (by decide)) (fun q h1 h2 => bA q (by intro e; simp at e; omega))
    unfold d_fillsWays_40
    have r_1 : 0 ≤ (F 18).toInt ∧ (F 18).toInt ≤ 1 := hF 18
    refine ok_ld (j := 12) hA (by omega) (by omega) ?_
    intro v_2 v_2_e v_2_r
    have v_2_r : 0 ≤ v_2.toInt ∧ v_2.toInt ≤ 12 := v_2_r
    refine ok_cond (fun c_3 => ?_) (fun c_3 => ?_)
    · rw [i_ge] at c_3
      have l_4 : (0 : Int32).toInt = 0 := by decide
      exact s_d_fillsWays_170 hF hA (fun q hq => (bF q hq)) (fun q hq => (bA q hq)) (by omega) (by omega)
    · rw [i_nge] at c_3
      have l_5 : (78 : Int32).toInt = 78 := by decide
      refine ok_ld (j := 48) hA (by omega) (by omega) ?_
      intro v_6 v_6_e v_6_r
      have l_7 : (1 : Int32).toInt = 1 := by decide
      refine ok_cond (fun c_8 => ?_) (fun c_8 => ?_)
      · rw [i_ne] at c_8
        have l_9 : (12 : Int32).toInt = 12 := by decide
        have e_10 := i_mulL (c := 12) (k := 12) (x := (F 18)) (by decide) (by omega) (by omega)
        have e_11 := i_add (x := (12 * (F 18))) (y := x1) (by omega) (by omega)
        refine ok_ld (j := 13) hA (by omega) (by omega) ?_
        intro v_12 v_12_e v_12_r
        have v_12_r : -1 ≤ v_12.toInt ∧ v_12.toInt ≤ 7 := v_12_r
        refine ok_ld (j := 14) hA (by omega) (by omega) ?_
        intro v_13 v_13_e v_13_r
        have v_13_r : -1 ≤ v_13.toInt ∧ v_13.toInt ≤ 7 := v_13_r
        refine ok_ld (j := 15) hA (by omega) (by omega) ?_
        intro v_14 v_14_e v_14_r
        have dd := hV1.1 x1.toInt (by omega) (by omega)
        have e13 : ai A 13 (12 * F 18 + x1).toInt = ai A 13 (12 * (F 18).toInt + x1.toInt) := by congr 1; omega
        have e14 : ai A 14 (12 * F 18 + x1).toInt = ai A 14 (12 * (F 18).toInt + x1.toInt) := by congr 1; omega
        have l_15 : (8 : Int32).toInt = 8 := by decide
        have e_16 := i_mulL (c := 8) (k := 8) (x := v_12) (by decide) (by omega) (by omega)
        have e_17 := i_add (x := (8 * v_12)) (y := v_13) (by omega) (by omega)
        refine ok_ld (j := 49) hA (by omega) (by omega) ?_
        intro v_18 v_18_e v_18_r
        refine ok_cond (fun c_19 => ?_) (fun c_19 => ?_)
        · rw [i_lt] at c_19
          refine ok_st (j := 49) hA (by omega) (by omega) (trivial) ?_
          intro A_20 hA_20 A_20_o A_20_s A_20_n
          have e_21 := i_mulL (c := 8) (k := 8) (x := v_13) (by decide) (by omega) (by omega)
          have e_22 := i_add (x := (8 * v_13)) (y := v_12) (by omega) (by omega)
          refine ok_st (j := 49) hA_20 (by omega) (by omega) (trivial) ?_
          intro A_23 hA_23 A_23_o A_23_s A_23_n
          have e_24 := i_add (x := x1) (y := 1) (by omega) (by omega)
          exact ih hF hA_23 (fun q hq => (bF q hq)) (fun q hq => (((A_23_o q (fun e => hq (by rw [e]; decide))).trans (A_20_o q (fun e => hq (by rw [e]; decide)))).trans (bA q hq))) (by omega) (by omega)
        · rw [i_nlt] at c_19
          unfold d_fillsWays_162
          have e_25 := i_add (x := x1) (y := 1) (by omega) (by omega)
          exact ih hF hA (fun q hq => (bF q hq)) (fun q hq => (bA q hq)) (by omega) (by omega)
      · rw [i_nne] at c_8
        unfold d_fillsWays_162
        have e_26 := i_add (x := x1) (y := 1) (by omega) (by omega)
        exact ih hF hA (fun q hq => (bF q hq)) (fun q hq => (bA q hq)) (by omega) (by omega)
set_option maxRecDepth 10000 in
theorem s_d_fillsWays_2  {n : Nat} {F0 : Nat → Int32} {A0 : Nat → Nat → Int32} {F : Nat → Int32} {A : Nat → Nat → Int32} {J : Nat → Nat → Int64} {x1 : Int32} (hF : IFm F) (hA : IAm A) (bF : ∀ q, q ∉ ([] : List Nat) → F q = F0 q) (bA : ∀ q, q ∉ ([49] : List Nat) → A q = A0 q) (hV : VMs F0 A0) (rx1 : 0 ≤ x1.toInt ∧ x1.toInt ≤ 64) (hn : 104 - x1.toInt < (n : Int)) : ok (d_fillsWays_2 n F A J x1) (fun r => IFm r.2.1 ∧ IAm r.2.2.1 ∧ (∀ q, q ∉ ([] : List Nat) → r.2.1 q = F0 q) ∧ (∀ q, q ∉ ([49] : List Nat) → r.2.2.1 q = A0 q) ∧ True) := by
  induction n generalizing F A J x1 with
  | zero => exact absurd hn (by omega)
  | succ n ih =>
    have r18 : 0 ≤ (F 18).toInt ∧ (F 18).toInt ≤ 1 := hF 18
    unfold d_fillsWays_2
    have l_1 : (64 : Int32).toInt = 64 := by decide
    refine ok_cond (fun c_2 => ?_) (fun c_2 => ?_)
    · rw [i_ge] at c_2
      have l_3 : (0 : Int32).toInt = 0 := by decide
      exact s_d_fillsWays_40 hF hA (fun q hq => (bF q hq)) (fun q hq => (bA q hq)) (hV) (by omega) (by omega)
    · rw [i_nge] at c_2
      have l_5 : (8 : Int32).toInt = 8 := by decide
      refine ok_div1 (by omega) ?_
      intro v_4 v_4_e
      refine ok_rem1 (by omega) ?_
      intro v_6 v_6_e
      refine ok_cond (fun c_7 => ?_) (fun c_7 => ?_)
      · rw [i_ne] at c_7
        unfold d_fillsWays_31
        refine ok_st (j := 49) hA (by omega) (by omega) (trivial) ?_
        intro A_8 hA_8 A_8_o A_8_s A_8_n
        have l_9 : (1 : Int32).toInt = 1 := by decide
        have e_10 := i_add (x := x1) (y := 1) (by omega) (by omega)
        exact ih hF hA_8 (fun q hq => (bF q hq)) (fun q hq => ((A_8_o q (fun e => hq (by rw [e]; decide))).trans (bA q hq))) (by omega) (by omega)
      · rw [i_nne] at c_7
        unfold d_fillsWays_31
        refine ok_st (j := 49) hA (by omega) (by omega) (trivial) ?_
        intro A_11 hA_11 A_11_o A_11_s A_11_n
        have l_12 : (1 : Int32).toInt = 1 := by decide
        have e_13 := i_add (x := x1) (y := 1) (by omega) (by omega)
        exact ih hF hA_11 (fun q hq => (bF q hq)) (fun q hq => ((A_11_o q (fun e => hq (by rw [e]; decide))).trans (bA q hq))) (by omega) (by omega)
set_option maxRecDepth 10000 in
theorem s_d_fillsWays {n : Nat} {F : Nat → Int32} {A : Nat → Nat → Int32} {J : Nat → Nat → Int64}  (hF : IFm F) (hA : IAm A) (hn : 110 ≤ n) (hV : VMs F A) : ok (d_fillsWays n F A J) (fun r => IFm r.2.1 ∧ IAm r.2.2.1 ∧ (∀ q, q ∉ ([] : List Nat) → r.2.1 q = F q) ∧ (∀ q, q ∉ ([49] : List Nat) → r.2.2.1 q = A q) ∧ True) := by
  have r18 : 0 ≤ (F 18).toInt ∧ (F 18).toInt ≤ 1 := hF 18
  unfold d_fillsWays
  have l_1 : (0 : Int32).toInt = 0 := by decide
  refine ok_mono (s_d_fillsWays_2 hF hA (fun q hq => rfl) (fun q hq => rfl) (hV) (by omega) (by omega)) ?_
  rintro ⟨v_2, F_3, A_4, J_5⟩ ⟨hF_3, hA_4, F_3_o, A_4_o, v_2_p⟩
  dsimp only at hF_3 hA_4 F_3_o A_4_o v_2_p ⊢
  refine ⟨hF_3, hA_4, (fun q hq => (F_3_o q hq)), (fun q hq => (A_4_o q hq)), ?_⟩
  (first | trivial | omega | exact ⟨by omega, by omega⟩ | assumption)
end Qz41
section Qz42
/-! what holds of the reference's men in a night -/
def SVm (F : Nat → Int32) (A : Nat → Nat → Int32) (t s : Int) : Prop := 0 ≤ t ∧ t < ai A 19 (F 18).toInt ∧ 0 ≤ s ∧ s < ai A 22 (6 * (F 18).toInt + t)
def NVm (F : Nat → Int32) (A : Nat → Nat → Int32) (k : Int) : Prop := ∀ m, 0 ≤ m → m < k → (0 ≤ ai A 48 (42 + m) → SVm F A (ai A 48 (42 + m)) (ai A 54 m)) ∧ (ai A 50 m = 1 → 0 ≤ ai A 48 (42 + m)) ∧ (ai A 50 m = 2 → SVm F A (ai A 48 (42 + m)) (ai A 53 m))
def RVm (F : Nat → Int32) (A : Nat → Nat → Int32) (j : Nat) (k : Int) : Prop := ∀ m, 0 ≤ m → m < k → 0 ≤ ai A j (42 + m) → SVm F A (ai A j (42 + m)) (ai A j (48 + m))
section NV
variable {F F' : Nat → Int32} {A A' : Nat → Nat → Int32} {k i x t s : Int}
theorem SVm.fr (h : SVm F A t s) (hF : F' 18 = F 18) (h19 : A' 19 = A 19) (h22 : A' 22 = A 22) : SVm F' A' t s := by
  unfold SVm
  rw [hF, ai_fr h19, ai_fr h22]
  exact h
theorem NVm.cg (h : NVm F A k) (hF : F' 18 = F 18) (h19 : A' 19 = A 19) (h22 : A' 22 = A 22) (e48 : ∀ m, 0 ≤ m → m < k → ai A' 48 (42 + m) = ai A 48 (42 + m)) (e50 : A' 50 = A 50) (e53 : A' 53 = A 53) (e54 : A' 54 = A 54) : NVm F' A' k := by
  intro m h0 h1
  rw [e48 m h0 h1, ai_fr e50, ai_fr e53, ai_fr e54]
  obtain ⟨a, b, c⟩ := h m h0 h1
  exact ⟨fun q => (a q).fr hF h19 h22, b, fun q => (c q).fr hF h19 h22⟩
theorem NVm.st48 (h : NVm F A k) (o : ∀ q, q ≠ 48 → A' q = A q) (n : ∀ q, 0 ≤ q → q ≠ i → ai A' 48 q = ai A 48 q) (hi : i < 42 ∨ 42 + k ≤ i) : NVm F A' k :=
  h.cg rfl (o 19 (by decide)) (o 22 (by decide)) (fun m h0 h1 => n _ (by omega) (by omega)) (o 50 (by decide)) (o 53 (by decide)) (o 54 (by decide))
theorem NVm.sto {j : Nat} (h : NVm F A k) (o : ∀ q, q ≠ j → A' q = A q) (hj : 19 ≠ j ∧ 22 ≠ j ∧ 48 ≠ j ∧ 50 ≠ j ∧ 53 ≠ j ∧ 54 ≠ j) : NVm F A' k :=
  h.cg rfl (o 19 hj.1) (o 22 hj.2.1) (fun m _ _ => by rw [ai_fr (o 48 hj.2.2.1)]) (o 50 hj.2.2.2.1) (o 53 hj.2.2.2.2.1) (o 54 hj.2.2.2.2.2)
theorem NVm.st50 (h : NVm F A k) (o : ∀ q, q ≠ 50 → A' q = A q) (sx : ai A' 50 i = x) (n : ∀ q, 0 ≤ q → q ≠ i → ai A' 50 q = ai A 50 q) (h1 : i < k → x = 1 → 0 ≤ ai A 48 (42 + i)) (h2 : i < k → x = 2 → SVm F A (ai A 48 (42 + i)) (ai A 53 i)) : NVm F A' k := by
  intro m m0 m1
  obtain ⟨a, b, c⟩ := h m m0 m1
  rw [ai_fr (o 48 (by decide)), ai_fr (o 53 (by decide)), ai_fr (o 54 (by decide))]
  have fr : ∀ {t s : Int}, SVm F A t s → SVm F A' t s := fun w => w.fr rfl (o 19 (by decide)) (o 22 (by decide))
  by_cases e : m = i
  · subst e
    rw [sx]
    exact ⟨fun q => fr (a q), fun q => h1 m1 q, fun q => fr (h2 m1 q)⟩
  · rw [n m m0 e]
    exact ⟨fun q => fr (a q), b, fun q => fr (c q)⟩
theorem NVm.st53 (h : NVm F A k) (o : ∀ q, q ≠ 53 → A' q = A q) (n : ∀ q, 0 ≤ q → q ≠ i → ai A' 53 q = ai A 53 q) (hs : i < k → ai A 50 i ≠ 2) : NVm F A' k := by
  intro m m0 m1
  obtain ⟨a, b, c⟩ := h m m0 m1
  rw [ai_fr (o 48 (by decide)), ai_fr (o 50 (by decide)), ai_fr (o 54 (by decide))]
  have fr : ∀ {t s : Int}, SVm F A t s → SVm F A' t s := fun w => w.fr rfl (o 19 (by decide)) (o 22 (by decide))
  by_cases e : m = i
  · subst e
    exact ⟨fun q => fr (a q), b, fun q => absurd q (hs m1)⟩
  · rw [n m m0 e]
    exact ⟨fun q => fr (a q), b, fun q => fr (c q)⟩
theorem NVm.st54 (h : NVm F A k) (o : ∀ q, q ≠ 54 → A' q = A q) (sx : ai A' 54 i = x) (n : ∀ q, 0 ≤ q → q ≠ i → ai A' 54 q = ai A 54 q) (hs : i < k → 0 ≤ ai A 48 (42 + i) → SVm F A (ai A 48 (42 + i)) x) : NVm F A' k := by
  intro m m0 m1
  obtain ⟨a, b, c⟩ := h m m0 m1
  rw [ai_fr (o 48 (by decide)), ai_fr (o 50 (by decide)), ai_fr (o 53 (by decide))]
  have fr : ∀ {t s : Int}, SVm F A t s → SVm F A' t s := fun w => w.fr rfl (o 19 (by decide)) (o 22 (by decide))
  by_cases e : m = i
  · subst e
    rw [sx]
    exact ⟨fun q => fr (hs m1 q), b, fun q => fr (c q)⟩
  · rw [n m m0 e]
    exact ⟨fun q => fr (a q), b, fun q => fr (c q)⟩
theorem NVm.ext (h : NVm F A k) (h1 : 0 ≤ ai A 48 (42 + k) → SVm F A (ai A 48 (42 + k)) (ai A 54 k)) (h2 : ai A 50 k = 1 → 0 ≤ ai A 48 (42 + k)) (h3 : ai A 50 k ≠ 2) : NVm F A (k + 1) := by
  intro m m0 m1
  by_cases e : m = k
  · subst e
    exact ⟨h1, h2, fun q => absurd q h3⟩
  · exact h m m0 (by omega)
theorem RVm.cg {j : Nat} (h : RVm F A j k) (hF : F' 18 = F 18) (h19 : A' 19 = A 19) (h22 : A' 22 = A 22) (e : ∀ m, 0 ≤ m → m < k → ai A' j (42 + m) = ai A j (42 + m) ∧ ai A' j (48 + m) = ai A j (48 + m)) : RVm F' A' j k := by
  intro m h0 h1
  rw [(e m h0 h1).1, (e m h0 h1).2]
  exact fun q => (h m h0 h1 q).fr hF h19 h22
theorem RVm.sto {j q0 : Nat} (h : RVm F A j k) (o : ∀ q, q ≠ q0 → A' q = A q) (hj : 19 ≠ q0 ∧ 22 ≠ q0) (hq : j ≠ q0) : RVm F A' j k :=
  h.cg rfl (o 19 hj.1) (o 22 hj.2) (fun m _ _ => by rw [ai_fr (o j hq)]; exact ⟨rfl, rfl⟩)
theorem RVm.st {j : Nat} (h : RVm F A j k) (hj : 19 ≠ j ∧ 22 ≠ j) (o : ∀ q, q ≠ j → A' q = A q) (n : ∀ q, 0 ≤ q → q ≠ i → ai A' j q = ai A j q) (hi : i < 42 ∨ 54 ≤ i) (hk : k ≤ 6) : RVm F A' j k :=
  h.cg rfl (o 19 hj.1) (o 22 hj.2) (fun m h0 h1 => ⟨n _ (by omega) (by omega), n _ (by omega) (by omega)⟩)
end NV
end Qz42
section Qz43
theorem NVm.mono {F : Nat → Int32} {A : Nat → Nat → Int32} {k k' : Int} (h : NVm F A k') (hk : k ≤ k') : NVm F A k := fun m m0 m1 => h m m0 (by omega)
/-- what is left of it at dawn -/
def WVm (F : Nat → Int32) (A : Nat → Nat → Int32) (k : Int) : Prop := ∀ m, 0 ≤ m → m < k → 0 ≤ ai A 48 (42 + m) → SVm F A (ai A 48 (42 + m)) (ai A 54 m)
section WV
variable {F F' : Nat → Int32} {A A' : Nat → Nat → Int32} {k k' i x : Int}
theorem NVm.toW (h : NVm F A k) : WVm F A k := fun m m0 m1 => (h m m0 m1).1
theorem WVm.st48 (h : WVm F A k) (o : ∀ q, q ≠ 48 → A' q = A q) (n : ∀ q, 0 ≤ q → q ≠ i → ai A' 48 q = ai A 48 q) (hi : i < 42 ∨ 42 + k ≤ i) : WVm F A' k := by
  intro m m0 m1
  rw [n (42 + m) (by omega) (by omega), ai_fr (o 54 (by decide))]
  exact fun q => (h m m0 m1 q).fr rfl (o 19 (by decide)) (o 22 (by decide))
theorem WVm.neg (h : WVm F A k) (o : ∀ q, q ≠ 48 → A' q = A q) (s : ai A' 48 i = x) (n : ∀ q, 0 ≤ q → q ≠ i → ai A' 48 q = ai A 48 q) (hx : x < 0) : WVm F A' k := by
  intro m m0 m1
  by_cases e : 42 + m = i
  · rw [e, s]
    exact fun q => absurd q (by omega)
  · rw [n (42 + m) (by omega) e, ai_fr (o 54 (by decide))]
    exact fun q => (h m m0 m1 q).fr rfl (o 19 (by decide)) (o 22 (by decide))
theorem RVm.stx {j : Nat} (h : RVm F A j k) (hj : 19 ≠ j ∧ 22 ≠ j) (o : ∀ q, q ≠ j → A' q = A q) (n : ∀ q, 0 ≤ q → q ≠ i → ai A' j q = ai A j q) (hi : ∀ m, 0 ≤ m → m < k → 42 + m ≠ i ∧ 48 + m ≠ i) : RVm F A' j k :=
  h.cg rfl (o 19 hj.1) (o 22 hj.2) (fun m h0 h1 => ⟨n _ (by omega) (hi m h0 h1).1, n _ (by omega) (hi m h0 h1).2⟩)
theorem RVm.ext {j : Nat} (h : RVm F A j k) (h1 : 0 ≤ ai A j (42 + k) → SVm F A (ai A j (42 + k)) (ai A j (48 + k))) : RVm F A j (k + 1) := by
  intro m m0 m1
  by_cases e : m = k
  · subst e; exact h1
  · exact h m m0 (by omega)
theorem RVm.mono {j : Nat} (h : RVm F A j k') (hk : k ≤ k') : RVm F A j k := fun m m0 m1 => h m m0 (by omega)
end WV
end Qz43
section Qz44
set_option maxRecDepth 10000 in
theorem s_d_lies {k : Int} {F : Nat → Int32} {A : Nat → Nat → Int32} {J : Nat → Nat → Int64} {x1 : Int32} {x2 : Int32} (hF : IFm F) (hA : IAm A) (hk : k ≤ 6) (NFA : NVm F A k) (rx1 : 0 ≤ x1.toInt ∧ x1.toInt ≤ 5) : ok (d_lies F A J x1 x2) (fun r => IFm r.2.1 ∧ IAm r.2.2.1 ∧ (∀ q, q ∉ ([] : List Nat) → r.2.1 q = F q) ∧ (∀ q, q ∉ ([48, 50] : List Nat) → r.2.2.1 q = A q) ∧ NVm r.2.1 r.2.2.1 k) := by
  have r18 : 0 ≤ (F 18).toInt ∧ (F 18).toInt ≤ 1 := hF 18
  unfold d_lies
  have l_1 : (3 : Int32).toInt = 3 := by decide
  refine ok_st (j := 50) hA (by omega) (by omega) (trivial) ?_
  intro A_2 hA_2 A_2_o A_2_s A_2_n
  have NFA_2 : NVm F A_2 k := NFA.st50 A_2_o A_2_s A_2_n (fun _ e => by omega) (fun _ e => by omega)
  have l_3 : (66 : Int32).toInt = 66 := by decide
  have e_4 := i_add (x := 66) (y := x1) (by omega) (by omega)
  refine ok_st (j := 48) hA_2 (by omega) (by omega) (trivial) ?_
  intro A_5 hA_5 A_5_o A_5_s A_5_n
  have NFA_5 : NVm F A_5 k := NFA_2.st48 A_5_o A_5_n (by omega)
  refine ok_some ?_
  refine ⟨hF, hA_5, (fun q hq => rfl), (fun q hq => ((A_5_o q (fun e => hq (by rw [e]; decide))).trans (A_2_o q (fun e => hq (by rw [e]; decide))))), ?_⟩
  exact NFA_5
set_option maxRecDepth 10000 in
theorem s_d_does {F : Nat → Int32} {A : Nat → Nat → Int32} {J : Nat → Nat → Int64} {x1 : Int32} {x2 : Int32} (hF : IFm F) (hA : IAm A) (VFA : VMs F A) (SFA : SVm F A x1.toInt x2.toInt) (rx1 : 0 ≤ x1.toInt ∧ x1.toInt ≤ 5) (rx2 : 0 ≤ x2.toInt ∧ x2.toInt ≤ 5) : ok (d_does F A J x1 x2) (fun r => IFm r.2.1 ∧ IAm r.2.2.1 ∧ (∀ q, q ∉ ([] : List Nat) → r.2.1 q = F q) ∧ (∀ q, q ∉ ([48] : List Nat) → r.2.2.1 q = A q) ∧ ∀ i, 42 ≤ i → ai r.2.2.1 48 i = ai A 48 i) := by
  have r18 : 0 ≤ (F 18).toInt ∧ (F 18).toInt ≤ 1 := hF 18
  have GFA : ∀ i, 42 ≤ i → ai A 48 i = ai A 48 i := fun _ _ => rfl
  unfold d_does
  have l_1 : (6 : Int32).toInt = 6 := by decide
  have e_2 := i_mulL (c := 6) (k := 6) (x := x1) (by decide) (by omega) (by omega)
  have e_3 := i_add (x := 6) (y := (6 * x1)) (by omega) (by omega)
  have e_4 := i_add (x := (6 + (6 * x1))) (y := x2) (by omega) (by omega)
  refine ok_ld (j := 48) hA (by omega) (by omega) ?_
  intro v_5 v_5_e v_5_r
  refine ok_st (j := 48) hA (by omega) (by omega) (trivial) ?_
  intro A_6 hA_6 A_6_o A_6_s A_6_n
  have VFA_6 : VMs F A_6 := VFA.fr rfl (fun q h1 h2 => A_6_o q (by omega))
  have SFA_6 : SVm F A_6 x1.toInt x2.toInt := SFA.fr rfl (A_6_o 19 (by decide)) (A_6_o 22 (by decide))
  have GFA_6 : ∀ i, 42 ≤ i → ai A_6 48 i = ai A 48 i := fun i hi => (A_6_n i (by omega) (by omega)).trans (GFA i hi)
  refine ok_call (s_d_stepAt hF (by omega) (by omega)) ?_
  intro v_7 v_7_p
  have v_7_p : v_7.toInt = 6 * (6 * (F 18).toInt + x1.toInt) + x2.toInt := v_7_p
  refine ok_ld (j := 28) hA_6 (by omega) (by omega) ?_
  intro v_8 v_8_e v_8_r
  have hu := VFA_6.2.2.2.1 x1.toInt x2.toInt SFA_6.1 SFA_6.2.1 SFA_6.2.2.1 SFA_6.2.2.2
  have eu : ai A_6 28 v_7.toInt = ai A_6 28 (6 * (6 * (F 18).toInt + x1.toInt) + x2.toInt) := by congr 1
  have l_9 : (0 : Int32).toInt = 0 := by decide
  refine ok_cond (fun c_10 => ?_) (fun c_10 => ?_)
  · rw [i_lt] at c_10
    refine ok_some ?_
    refine ⟨hF, hA_6, (fun q hq => rfl), (fun q hq => (A_6_o q (fun e => hq (by rw [e]; decide)))), ?_⟩
    exact GFA_6
  · rw [i_nlt] at c_10
    have e_11 := i_add (x := (6 + (6 * x1))) (y := v_8) (by omega) (by omega)
    refine ok_ld (j := 48) hA_6 (by omega) (by omega) ?_
    intro v_12 v_12_e v_12_r
    refine ok_cond (fun c_13 => ?_) (fun c_13 => ?_)
    · rw [i_le] at c_13
      refine ok_some ?_
      refine ⟨hF, hA_6, (fun q hq => rfl), (fun q hq => (A_6_o q (fun e => hq (by rw [e]; decide)))), ?_⟩
      exact GFA_6
    · rw [i_nle] at c_13
      refine ok_ld (j := 48) hA_6 (by omega) (by omega) ?_
      intro v_14 v_14_e v_14_r
      refine ok_st (j := 48) hA_6 (by omega) (by omega) (trivial) ?_
      intro A_15 hA_15 A_15_o A_15_s A_15_n
      have VFA_15 : VMs F A_15 := VFA_6.fr rfl (fun q h1 h2 => A_15_o q (by omega))
      have SFA_15 : SVm F A_15 x1.toInt x2.toInt := SFA_6.fr rfl (A_15_o 19 (by decide)) (A_15_o 22 (by decide))
      have GFA_15 : ∀ i, 42 ≤ i → ai A_15 48 i = ai A 48 i := fun i hi => (A_15_n i (by omega) (by omega)).trans (GFA_6 i hi)
      refine ok_some ?_
      refine ⟨hF, hA_15, (fun q hq => rfl), (fun q hq => ((A_15_o q (fun e => hq (by rw [e]; decide))).trans (A_6_o q (fun e => hq (by rw [e]; decide))))), ?_⟩
      exact GFA_15
set_option maxRecDepth 10000 in
theorem s_d_isOver {k : Int} {F : Nat → Int32} {A : Nat → Nat → Int32} {J : Nat → Nat → Int64} {x1 : Int32} (hF : IFm F) (hA : IAm A) (hk : k ≤ 6) (hx : x1.toInt < k) (VFA : VMs F A) (NFA : NVm F A k) (h2 : ai A 50 x1.toInt = 2) (rx1 : 0 ≤ x1.toInt ∧ x1.toInt ≤ 5) : ok (d_isOver F A J x1) (fun r => IFm r.2.1 ∧ IAm r.2.2.1 ∧ (∀ q, q ∉ ([] : List Nat) → r.2.1 q = F q) ∧ (∀ q, q ∉ ([48, 50, 54, 55] : List Nat) → r.2.2.1 q = A q) ∧ NVm r.2.1 r.2.2.1 k) := by
  have r18 : 0 ≤ (F 18).toInt ∧ (F 18).toInt ≤ 1 := hF 18
  have hs := (NFA x1.toInt (by omega) (by omega)).2.2 h2
  obtain ⟨g1, g2, g3, g4⟩ := id hs
  have t19 : 0 ≤ ai A 19 (F 18).toInt ∧ ai A 19 (F 18).toInt ≤ 6 := hA 19 _ (by omega)
  have t22 : 0 ≤ ai A 22 (6 * (F 18).toInt + ai A 48 (42 + x1.toInt)) ∧ ai A 22 (6 * (F 18).toInt + ai A 48 (42 + x1.toInt)) ≤ 6 := hA 22 _ (by omega)
  unfold d_isOver
  have l_1 : (42 : Int32).toInt = 42 := by decide
  have e_2 := i_add (x := 42) (y := x1) (by omega) (by omega)
  refine ok_ld (j := 48) hA (by omega) (by omega) ?_
  intro v_3 v_3_e v_3_r
  have w1 : v_3.toInt = ai A 48 (42 + x1.toInt) := by rw [v_3_e]; congr 1 <;> omega
  refine ok_ld (j := 53) hA (by omega) (by omega) ?_
  intro v_4 v_4_e v_4_r
  have s1 : SVm F A v_3.toInt v_4.toInt := by rw [w1, v_4_e]; exact hs
  refine ok_call (s_d_does hF hA (VFA) (by assumption) (by omega) (by omega)) ?_
  rintro ⟨u_5, F_6, A_7, J_8⟩ ⟨hF_6, hA_7, F_6_o, A_7_o, u_5_p⟩
  dsimp only at hF_6 hA_7 F_6_o A_7_o u_5_p ⊢
  have u_5_p : ∀ i, 42 ≤ i → ai A_7 48 i = ai A 48 i := u_5_p
  have r_9 : 0 ≤ (F_6 18).toInt ∧ (F_6 18).toInt ≤ 1 := hF_6 18
  have r_10 : 0 ≤ (F 18).toInt ∧ (F 18).toInt ≤ 1 := hF 18
  have f_11 : (F_6 18).toInt = (F 18).toInt := congrArg Int32.toInt (F_6_o 18 (by decide))
  have VF_6A_7 : VMs F_6 A_7 := VFA.fr (F_6_o 18 (by decide)) (fun q h1 h2 => A_7_o q (by intro e; simp at e <;> omega))
  have NF_6A_7 : NVm F_6 A_7 k := NFA.cg (F_6_o 18 (by decide)) (A_7_o 19 (by decide)) (A_7_o 22 (by decide)) (fun m _ _ => u_5_p (42 + m) (by omega)) (A_7_o 50 (by decide)) (A_7_o 53 (by decide)) (A_7_o 54 (by decide))
  have hp : 0 ≤ ai A_7 48 (42 + x1.toInt) := by rw [u_5_p (42 + x1.toInt) (by omega)]; exact g1
  have l_12 : (1 : Int32).toInt = 1 := by decide
  refine ok_st (j := 50) hA_7 (by omega) (by omega) (trivial) ?_
  intro A_13 hA_13 A_13_o A_13_s A_13_n
  have VF_6A_13 : VMs F_6 A_13 := VF_6A_7.fr rfl (fun q h1 h2 => A_13_o q (by omega))
  have NF_6A_13 : NVm F_6 A_13 k := NF_6A_7.st50 A_13_o A_13_s A_13_n (fun _ _ => hp) (fun _ e => by omega)
  refine ok_ld (j := 53) hA_13 (by omega) (by omega) ?_
  intro v_14 v_14_e v_14_r
  have s8 : SVm F_6 A_13 (ai A_13 48 (42 + x1.toInt)) v_14.toInt := by rw [v_14_e, ai_fr (A_13_o 48 (by decide)), ai_fr (A_13_o 53 (by decide)), u_5_p (42 + x1.toInt) (by omega), ai_fr (A_7_o 53 (by decide))]; exact (hs.fr (F_6_o 18 (by decide)) (A_7_o 19 (by decide)) (A_7_o 22 (by decide))).fr rfl (A_13_o 19 (by decide)) (A_13_o 22 (by decide))
  refine ok_st (j := 54) hA_13 (by omega) (by omega) (trivial) ?_
  intro A_15 hA_15 A_15_o A_15_s A_15_n
  have VF_6A_15 : VMs F_6 A_15 := VF_6A_13.fr rfl (fun q h1 h2 => A_15_o q (by omega))
  have NF_6A_15 : NVm F_6 A_15 k := NF_6A_13.st54 A_15_o A_15_s A_15_n (fun _ _ => s8)
  refine ok_ld (j := 55) hA_15 (by omega) (by omega) ?_
  intro v_16 v_16_e v_16_r
  refine ok_st (j := 55) hA_15 (by omega) (by omega) (trivial) ?_
  intro A_17 hA_17 A_17_o A_17_s A_17_n
  have VF_6A_17 : VMs F_6 A_17 := VF_6A_15.fr rfl (fun q h1 h2 => A_17_o q (by omega))
  have NF_6A_17 : NVm F_6 A_17 k := NF_6A_15.sto A_17_o (by decide)
  refine ok_some ?_
  refine ⟨hF_6, hA_17, (fun q hq => (F_6_o q hq)), (fun q hq => ((((A_17_o q (fun e => hq (by rw [e]; decide))).trans (A_15_o q (fun e => hq (by rw [e]; decide)))).trans (A_13_o q (fun e => hq (by rw [e]; decide)))).trans (A_7_o q (fun e => hq ((by decide : ∀ x, x ∈ ([48] : List Nat) → x ∈ ([48, 50, 54, 55] : List Nat)) q e))))), ?_⟩
  exact NF_6A_17
set_option maxRecDepth 10000 in
theorem s_d_isInUse_2  {n : Nat} {k : Int} {F : Nat → Int32} {A : Nat → Nat → Int32} {J : Nat → Nat → Int64} {x1 : Int32} {x2 : Int32} {x3 : Int32} (hF : IFm F) (hA : IAm A) (hk : k ≤ 6) (hm : k = ai A 29 (F 18).toInt) (NFA : NVm F A k) (rx3 : 0 ≤ x3.toInt ∧ x3.toInt ≤ 6) (hn : 6 - x3.toInt < (n : Int)) : ok (d_isInUse_2 n F A J x1 x2 x3) (fun v => v.toInt = 0 ∨ v.toInt = 1) := by
  induction n generalizing F A J x3 with
  | zero => exact absurd hn (by omega)
  | succ n ih =>
    have r18 : 0 ≤ (F 18).toInt ∧ (F 18).toInt ≤ 1 := hF 18
    unfold d_isInUse_2
    refine ok_call (s_d_menNow hF hA) ?_
    intro v_1 v_1_p
    have v_1_p : v_1.toInt = ai A 29 (F 18).toInt ∧ 0 ≤ v_1.toInt ∧ v_1.toInt ≤ 6 := v_1_p
    refine ok_cond (fun c_2 => ?_) (fun c_2 => ?_)
    · rw [i_ge] at c_2
      refine ok_some ?_
      have l_3 : (0 : Int32).toInt = 0 := by decide
      (first | trivial | omega | exact ⟨by omega, by omega⟩ | assumption)
    · rw [i_nge] at c_2
      refine ok_cond (fun c_4 => ?_) (fun c_4 => ?_)
      · rw [i_eq] at c_4
        unfold d_isInUse_55
        have l_5 : (1 : Int32).toInt = 1 := by decide
        have e_6 := i_add (x := x3) (y := 1) (by omega) (by omega)
        refine ok_mono (ih hF hA (by assumption) (NFA) (by omega) (by omega)) ?_
        intro v_7 v_7_p
        have v_7_p : v_7.toInt = 0 ∨ v_7.toInt = 1 := v_7_p
        (first | trivial | omega | exact ⟨by omega, by omega⟩ | assumption)
      · rw [i_neq] at c_4
        refine ok_ld (j := 50) hA (by omega) (by omega) ?_
        intro v_8 v_8_e v_8_r
        have l_9 : (2 : Int32).toInt = 2 := by decide
        refine ok_cond (fun c_10 => ?_) (fun c_10 => ?_)
        · rw [i_ne] at c_10
          unfold d_isInUse_55
          have l_11 : (1 : Int32).toInt = 1 := by decide
          have e_12 := i_add (x := x3) (y := 1) (by omega) (by omega)
          refine ok_mono (ih hF hA (by assumption) (NFA) (by omega) (by omega)) ?_
          intro v_13 v_13_p
          have v_13_p : v_13.toInt = 0 ∨ v_13.toInt = 1 := v_13_p
          (first | trivial | omega | exact ⟨by omega, by omega⟩ | assumption)
        · rw [i_nne] at c_10
          have l_14 : (42 : Int32).toInt = 42 := by decide
          have e_15 := i_add (x := 42) (y := x3) (by omega) (by omega)
          refine ok_ld (j := 48) hA (by omega) (by omega) ?_
          intro v_16 v_16_e v_16_r
          refine ok_ld (j := 53) hA (by omega) (by omega) ?_
          intro v_17 v_17_e v_17_r
          have w6 : v_16.toInt = ai A 48 (42 + x3.toInt) := by rw [v_16_e]; congr 1 <;> omega
          obtain ⟨g1, g2, g3, g4⟩ := (NFA x3.toInt (by omega) (by omega)).2.2 (by omega)
          have t19 : 0 ≤ ai A 19 (F 18).toInt ∧ ai A 19 (F 18).toInt ≤ 6 := hA 19 _ (by omega)
          have t22 : 0 ≤ ai A 22 (6 * (F 18).toInt + ai A 48 (42 + x3.toInt)) ∧ ai A 22 (6 * (F 18).toInt + ai A 48 (42 + x3.toInt)) ≤ 6 := hA 22 _ (by omega)
          refine ok_call (s_d_stepAt hF (by omega) (by omega)) ?_
          intro v_18 v_18_p
          have v_18_p : v_18.toInt = 6 * (6 * (F 18).toInt + v_16.toInt) + v_17.toInt := v_18_p
          refine ok_ld (j := 27) hA (by omega) (by omega) ?_
          intro v_19 v_19_e v_19_r
          have v_19_r : -1 ≤ v_19.toInt ∧ v_19.toInt ≤ 5 := v_19_r
          refine ok_cond (fun c_20 => ?_) (fun c_20 => ?_)
          · rw [i_ne] at c_20
            unfold d_isInUse_55
            have l_21 : (1 : Int32).toInt = 1 := by decide
            have e_22 := i_add (x := x3) (y := 1) (by omega) (by omega)
            refine ok_mono (ih hF hA (by assumption) (NFA) (by omega) (by omega)) ?_
            intro v_23 v_23_p
            have v_23_p : v_23.toInt = 0 ∨ v_23.toInt = 1 := v_23_p
            (first | trivial | omega | exact ⟨by omega, by omega⟩ | assumption)
          · rw [i_nne] at c_20
            refine ok_some ?_
            have l_24 : (1 : Int32).toInt = 1 := by decide
            (first | trivial | omega | exact ⟨by omega, by omega⟩ | assumption)
set_option maxRecDepth 10000 in
theorem s_d_isInUse {n : Nat} {k : Int} {F : Nat → Int32} {A : Nat → Nat → Int32} {J : Nat → Nat → Int64} {x1 : Int32} {x2 : Int32} (hF : IFm F) (hA : IAm A) (hn : 8 ≤ n) (hk : k ≤ 6) (hm : k = ai A 29 (F 18).toInt) (NFA : NVm F A k) : ok (d_isInUse n F A J x1 x2) (fun v => v.toInt = 0 ∨ v.toInt = 1) := by
  have r18 : 0 ≤ (F 18).toInt ∧ (F 18).toInt ≤ 1 := hF 18
  unfold d_isInUse
  have l_1 : (0 : Int32).toInt = 0 := by decide
  refine ok_mono (s_d_isInUse_2 hF hA (by omega) (by assumption) (NFA) (by omega) (by omega)) ?_
  intro v_2 v_2_p
  have v_2_p : v_2.toInt = 0 ∨ v_2.toInt = 1 := v_2_p
  (first | trivial | omega | exact ⟨by omega, by omega⟩ | assumption)
end Qz44
section Qz45
set_option maxRecDepth 10000 in
theorem s_d_getsUp {k : Int} {F : Nat → Int32} {A : Nat → Nat → Int32} {J : Nat → Nat → Int64} {x1 : Int32} (hF : IFm F) (hA : IAm A) (hk : k ≤ 6) (hx : x1.toInt < k) (VFA : VMs F A) (MFA : k = ai A 29 (F 18).toInt) (RFA : RVm F A 48 k) (NFA : NVm F A x1.toInt) (rx1 : 0 ≤ x1.toInt ∧ x1.toInt ≤ 5) : ok (d_getsUp F A J x1) (fun r => IFm r.2.1 ∧ IAm r.2.2.1 ∧ (∀ q, q ∉ ([] : List Nat) → r.2.1 q = F q) ∧ (∀ q, q ∉ ([48, 50, 51, 54, 55, 56] : List Nat) → r.2.2.1 q = A q) ∧ NVm r.2.1 r.2.2.1 (x1.toInt + 1) ∧ RVm r.2.1 r.2.2.1 48 k) := by
  have r18 : 0 ≤ (F 18).toInt ∧ (F 18).toInt ≤ 1 := hF 18
  have XFA : ∀ i, 42 ≤ i → i < 54 → ai A 48 i = ai A 48 i := fun _ _ _ => rfl
  have t19 : 0 ≤ ai A 19 (F 18).toInt ∧ ai A 19 (F 18).toInt ≤ 6 := hA 19 _ (by omega)
  have YFA : ∀ q, 8 ≤ q → q ≤ 43 → A q = A q := fun _ _ _ => rfl
  unfold d_getsUp
  have l_1 : (42 : Int32).toInt = 42 := by decide
  have e_2 := i_add (x := 42) (y := x1) (by omega) (by omega)
  refine ok_ld (j := 48) hA (by omega) (by omega) ?_
  intro v_3 v_3_e v_3_r
  have w1 : v_3.toInt = ai A 48 (42 + x1.toInt) := by rw [v_3_e]; congr 1 <;> omega
  have l_4 : (0 : Int32).toInt = 0 := by decide
  refine ok_st (j := 50) hA (by omega) (by omega) (trivial) ?_
  intro A_5 hA_5 A_5_o A_5_s A_5_n
  have VFA_5 : VMs F A_5 := VFA.fr rfl (fun q h1 h2 => A_5_o q (by omega))
  have MFA_5 : k = ai A_5 29 (F 18).toInt := by rw [ai_fr (A_5_o 29 (by decide))]; exact MFA
  have RFA_5 : RVm F A_5 48 k := RFA.sto A_5_o (by decide) (by decide)
  have NFA_5 : NVm F A_5 x1.toInt := NFA.st50 A_5_o A_5_s A_5_n (fun q _ => absurd q (by omega)) (fun q _ => absurd q (by omega))
  have XFA_5 : ∀ i, 42 ≤ i → i < 54 → ai A_5 48 i = ai A 48 i := by rw [ai_fr (A_5_o 48 (by decide))]; exact XFA
  have YFA_5 : ∀ q, 8 ≤ q → q ≤ 43 → A_5 q = A q := fun q h1 h2 => (A_5_o q (by omega)).trans (YFA q h1 h2)
  have QFA_5 : (ai A_5 50 x1.toInt = 1 → 0 ≤ ai A 48 (42 + x1.toInt)) ∧ ai A_5 50 x1.toInt ≠ 2 := ⟨fun e => absurd e (by omega), by omega⟩
  refine ok_st (j := 55) hA_5 (by omega) (by omega) (trivial) ?_
  intro A_6 hA_6 A_6_o A_6_s A_6_n
  have VFA_6 : VMs F A_6 := VFA_5.fr rfl (fun q h1 h2 => A_6_o q (by omega))
  have MFA_6 : k = ai A_6 29 (F 18).toInt := by rw [ai_fr (A_6_o 29 (by decide))]; exact MFA_5
  have RFA_6 : RVm F A_6 48 k := RFA_5.sto A_6_o (by decide) (by decide)
  have NFA_6 : NVm F A_6 x1.toInt := NFA_5.sto A_6_o (by decide)
  have XFA_6 : ∀ i, 42 ≤ i → i < 54 → ai A_6 48 i = ai A 48 i := by rw [ai_fr (A_6_o 48 (by decide))]; exact XFA_5
  have QFA_6 : (ai A_6 50 x1.toInt = 1 → 0 ≤ ai A 48 (42 + x1.toInt)) ∧ ai A_6 50 x1.toInt ≠ 2 := by rw [ai_fr (A_6_o 50 (by decide))]; exact QFA_5
  have YFA_6 : ∀ q, 8 ≤ q → q ≤ 43 → A_6 q = A q := fun q h1 h2 => (A_6_o q (by omega)).trans (YFA_5 q h1 h2)
  refine ok_st (j := 56) hA_6 (by omega) (by omega) (show 0 ≤ (vp_nar .boolean 0).toInt ∧ (vp_nar .boolean 0).toInt ≤ 1 by decide) ?_
  intro A_7 hA_7 A_7_o A_7_s A_7_n
  have VFA_7 : VMs F A_7 := VFA_6.fr rfl (fun q h1 h2 => A_7_o q (by omega))
  have MFA_7 : k = ai A_7 29 (F 18).toInt := by rw [ai_fr (A_7_o 29 (by decide))]; exact MFA_6
  have RFA_7 : RVm F A_7 48 k := RFA_6.sto A_7_o (by decide) (by decide)
  have NFA_7 : NVm F A_7 x1.toInt := NFA_6.sto A_7_o (by decide)
  have XFA_7 : ∀ i, 42 ≤ i → i < 54 → ai A_7 48 i = ai A 48 i := by rw [ai_fr (A_7_o 48 (by decide))]; exact XFA_6
  have QFA_7 : (ai A_7 50 x1.toInt = 1 → 0 ≤ ai A 48 (42 + x1.toInt)) ∧ ai A_7 50 x1.toInt ≠ 2 := by rw [ai_fr (A_7_o 50 (by decide))]; exact QFA_6
  have YFA_7 : ∀ q, 8 ≤ q → q ≤ 43 → A_7 q = A q := fun q h1 h2 => (A_7_o q (by omega)).trans (YFA_6 q h1 h2)
  have l_8 : (66 : Int32).toInt = 66 := by decide
  have e_9 := i_add (x := 66) (y := x1) (by omega) (by omega)
  refine ok_st (j := 48) hA_7 (by omega) (by omega) (trivial) ?_
  intro A_10 hA_10 A_10_o A_10_s A_10_n
  have VFA_10 : VMs F A_10 := VFA_7.fr rfl (fun q h1 h2 => A_10_o q (by omega))
  have MFA_10 : k = ai A_10 29 (F 18).toInt := by rw [ai_fr (A_10_o 29 (by decide))]; exact MFA_7
  have RFA_10 : RVm F A_10 48 k := RFA_7.st (by decide) A_10_o A_10_n (by omega) hk
  have NFA_10 : NVm F A_10 x1.toInt := NFA_7.st48 A_10_o A_10_n (by omega)
  have XFA_10 : ∀ i, 42 ≤ i → i < 54 → ai A_10 48 i = ai A 48 i := fun i hi hj => (A_10_n i (by omega) (by omega)).trans (XFA_7 i hi hj)
  have QFA_10 : (ai A_10 50 x1.toInt = 1 → 0 ≤ ai A 48 (42 + x1.toInt)) ∧ ai A_10 50 x1.toInt ≠ 2 := by rw [ai_fr (A_10_o 50 (by decide))]; exact QFA_7
  have YFA_10 : ∀ q, 8 ≤ q → q ≤ 43 → A_10 q = A q := fun q h1 h2 => (A_10_o q (by omega)).trans (YFA_7 q h1 h2)
  have l_11 : (48 : Int32).toInt = 48 := by decide
  have e_12 := i_add (x := 48) (y := x1) (by omega) (by omega)
  refine ok_ld (j := 48) hA_10 (by omega) (by omega) ?_
  intro v_13 v_13_e v_13_r
  refine ok_st (j := 54) hA_10 (by omega) (by omega) (trivial) ?_
  intro A_14 hA_14 A_14_o A_14_s A_14_n
  have VFA_14 : VMs F A_14 := VFA_10.fr rfl (fun q h1 h2 => A_14_o q (by omega))
  have MFA_14 : k = ai A_14 29 (F 18).toInt := by rw [ai_fr (A_14_o 29 (by decide))]; exact MFA_10
  have RFA_14 : RVm F A_14 48 k := RFA_10.sto A_14_o (by decide) (by decide)
  have NFA_14 : NVm F A_14 x1.toInt := NFA_10.st54 A_14_o A_14_s A_14_n (fun q => absurd q (by omega))
  have XFA_14 : ∀ i, 42 ≤ i → i < 54 → ai A_14 48 i = ai A 48 i := by rw [ai_fr (A_14_o 48 (by decide))]; exact XFA_10
  have QFA_14 : (ai A_14 50 x1.toInt = 1 → 0 ≤ ai A 48 (42 + x1.toInt)) ∧ ai A_14 50 x1.toInt ≠ 2 := by rw [ai_fr (A_14_o 50 (by decide))]; exact QFA_10
  have YFA_14 : ∀ q, 8 ≤ q → q ≤ 43 → A_14 q = A q := fun q h1 h2 => (A_14_o q (by omega)).trans (YFA_10 q h1 h2)
  have PFA_14 : ai A_14 54 x1.toInt = ai A 48 (48 + x1.toInt) := by rw [A_14_s, v_13_e, show (48 + x1).toInt = 48 + x1.toInt by omega, XFA_10 (48 + x1.toInt) (by omega) (by omega)]
  refine ok_cond (fun c_15 => ?_) (fun c_15 => ?_)
  · rw [i_ge] at c_15
    have l_16 : (6 : Int32).toInt = 6 := by decide
    have r_17 : 0 ≤ (F 18).toInt ∧ (F 18).toInt ≤ 1 := hF 18
    have e_18 := i_mulL (c := 6) (k := 6) (x := (F 18)) (by decide) (by omega) (by omega)
    have e_19 := i_add (x := (6 * (F 18))) (y := x1) (by omega) (by omega)
    refine ok_ld (j := 30) hA_14 (by omega) (by omega) ?_
    intro v_20 v_20_e v_20_r
    have v_20_r : -1 ≤ v_20.toInt ∧ v_20.toInt ≤ 7 := v_20_r
    have hh := VFA_14.2.1 x1.toInt (by omega) (by rw [← MFA_14]; omega)
    have e9 : ai A_14 30 (6 * F 18 + x1).toInt = ai A_14 30 (6 * (F 18).toInt + x1.toInt) := by congr 1 <;> omega
    have hs := RFA x1.toInt (by omega) (by omega) (by omega)
    obtain ⟨g1, g2, g3, g4⟩ := id hs
    have e_21 := i_add (x := (6 * (F 18))) (y := v_3) (by omega) (by omega)
    refine ok_ld (j := 20) hA_14 (by omega) (by omega) ?_
    intro v_22 v_22_e v_22_r
    have v_22_r : -1 ≤ v_22.toInt ∧ v_22.toInt ≤ 7 := v_22_r
    have hr := VFA.2.2.1 v_3.toInt (by omega) (by omega)
    have e10 : ai A_14 20 (6 * F 18 + v_3).toInt = ai A 20 (6 * (F 18).toInt + v_3.toInt) := by rw [show (6 * F 18 + v_3).toInt = 6 * (F 18).toInt + v_3.toInt by omega]; exact congrFun (ai_fr (YFA_14 20 (by decide) (by decide))) _
    have l_23 : (8 : Int32).toInt = 8 := by decide
    have e_24 := i_mulL (c := 8) (k := 8) (x := v_20) (by decide) (by omega) (by omega)
    have e_25 := i_add (x := (8 * v_20)) (y := v_22) (by omega) (by omega)
    refine ok_ld (j := 49) hA_14 (by omega) (by omega) ?_
    intro v_26 v_26_e v_26_r
    have l_27 : (1000000 : Int32).toInt = 1000000 := by decide
    refine ok_cond (fun c_28 => ?_) (fun c_28 => ?_)
    · rw [i_ne] at c_28
      unfold d_getsUp_117
      have l_29 : (1 : Int32).toInt = 1 := by decide
      refine ok_st (j := 50) hA_14 (by omega) (by omega) (trivial) ?_
      intro A_30 hA_30 A_30_o A_30_s A_30_n
      have VFA_30 : VMs F A_30 := VFA_14.fr rfl (fun q h1 h2 => A_30_o q (by omega))
      have MFA_30 : k = ai A_30 29 (F 18).toInt := by rw [ai_fr (A_30_o 29 (by decide))]; exact MFA_14
      have RFA_30 : RVm F A_30 48 k := RFA_14.sto A_30_o (by decide) (by decide)
      have NFA_30 : NVm F A_30 x1.toInt := NFA_14.st50 A_30_o A_30_s A_30_n (fun q _ => absurd q (by omega)) (fun q _ => absurd q (by omega))
      have XFA_30 : ∀ i, 42 ≤ i → i < 54 → ai A_30 48 i = ai A 48 i := by rw [ai_fr (A_30_o 48 (by decide))]; exact XFA_14
      have QFA_30 : (ai A_30 50 x1.toInt = 1 → 0 ≤ ai A 48 (42 + x1.toInt)) ∧ ai A_30 50 x1.toInt ≠ 2 := ⟨fun _ => by omega, by omega⟩
      have PFA_30 : ai A_30 54 x1.toInt = ai A 48 (48 + x1.toInt) := by rw [ai_fr (A_30_o 54 (by decide))]; exact PFA_14
      have YFA_30 : ∀ q, 8 ≤ q → q ≤ 43 → A_30 q = A q := fun q h1 h2 => (A_30_o q (by omega)).trans (YFA_14 q h1 h2)
      refine ok_st (j := 51) hA_30 (by omega) (by omega) (trivial) ?_
      intro A_31 hA_31 A_31_o A_31_s A_31_n
      have VFA_31 : VMs F A_31 := VFA_30.fr rfl (fun q h1 h2 => A_31_o q (by omega))
      have MFA_31 : k = ai A_31 29 (F 18).toInt := by rw [ai_fr (A_31_o 29 (by decide))]; exact MFA_30
      have RFA_31 : RVm F A_31 48 k := RFA_30.sto A_31_o (by decide) (by decide)
      have NFA_31 : NVm F A_31 x1.toInt := NFA_30.sto A_31_o (by decide)
      have XFA_31 : ∀ i, 42 ≤ i → i < 54 → ai A_31 48 i = ai A 48 i := by rw [ai_fr (A_31_o 48 (by decide))]; exact XFA_30
      have QFA_31 : (ai A_31 50 x1.toInt = 1 → 0 ≤ ai A 48 (42 + x1.toInt)) ∧ ai A_31 50 x1.toInt ≠ 2 := by rw [ai_fr (A_31_o 50 (by decide))]; exact QFA_30
      have PFA_31 : ai A_31 54 x1.toInt = ai A 48 (48 + x1.toInt) := by rw [ai_fr (A_31_o 54 (by decide))]; exact PFA_30
      have YFA_31 : ∀ q, 8 ≤ q → q ≤ 43 → A_31 q = A q := fun q h1 h2 => (A_31_o q (by omega)).trans (YFA_30 q h1 h2)
      refine ok_cond (fun c_32 => ?_) (fun c_32 => ?_)
      · rw [i_ne] at c_32
        refine ok_some ?_
        refine ⟨hF, hA_31, (fun q hq => rfl), (fun q hq => (((((((A_31_o q (fun e => hq (by rw [e]; decide))).trans (A_30_o q (fun e => hq (by rw [e]; decide)))).trans (A_14_o q (fun e => hq (by rw [e]; decide)))).trans (A_10_o q (fun e => hq (by rw [e]; decide)))).trans (A_7_o q (fun e => hq (by rw [e]; decide)))).trans (A_6_o q (fun e => hq (by rw [e]; decide)))).trans (A_5_o q (fun e => hq (by rw [e]; decide))))), ?_⟩
        exact ⟨(NFA_31).ext (fun q => by rw [PFA_31, ← XFA_31 (48 + x1.toInt) (by omega) (by omega)]; exact RFA_31 x1.toInt (by omega) (by omega) q) (fun q => by rw [XFA_31 (42 + x1.toInt) (by omega) (by omega)]; exact QFA_31.1 q) QFA_31.2, RFA_31⟩
      · rw [i_nne] at c_32
        refine ok_st (j := 48) hA_31 (by omega) (by omega) (trivial) ?_
        intro A_33 hA_33 A_33_o A_33_s A_33_n
        have VFA_33 : VMs F A_33 := VFA_31.fr rfl (fun q h1 h2 => A_33_o q (by omega))
        have MFA_33 : k = ai A_33 29 (F 18).toInt := by rw [ai_fr (A_33_o 29 (by decide))]; exact MFA_31
        have RFA_33 : RVm F A_33 48 k := RFA_31.st (by decide) A_33_o A_33_n (by omega) hk
        have NFA_33 : NVm F A_33 x1.toInt := NFA_31.st48 A_33_o A_33_n (by omega)
        have XFA_33 : ∀ i, 42 ≤ i → i < 54 → ai A_33 48 i = ai A 48 i := fun i hi hj => (A_33_n i (by omega) (by omega)).trans (XFA_31 i hi hj)
        have QFA_33 : (ai A_33 50 x1.toInt = 1 → 0 ≤ ai A 48 (42 + x1.toInt)) ∧ ai A_33 50 x1.toInt ≠ 2 := by rw [ai_fr (A_33_o 50 (by decide))]; exact QFA_31
        have PFA_33 : ai A_33 54 x1.toInt = ai A 48 (48 + x1.toInt) := by rw [ai_fr (A_33_o 54 (by decide))]; exact PFA_31
        have YFA_33 : ∀ q, 8 ≤ q → q ≤ 43 → A_33 q = A q := fun q h1 h2 => (A_33_o q (by omega)).trans (YFA_31 q h1 h2)
        refine ok_some ?_
        refine ⟨hF, hA_33, (fun q hq => rfl), (fun q hq => ((((((((A_33_o q (fun e => hq (by rw [e]; decide))).trans (A_31_o q (fun e => hq (by rw [e]; decide)))).trans (A_30_o q (fun e => hq (by rw [e]; decide)))).trans (A_14_o q (fun e => hq (by rw [e]; decide)))).trans (A_10_o q (fun e => hq (by rw [e]; decide)))).trans (A_7_o q (fun e => hq (by rw [e]; decide)))).trans (A_6_o q (fun e => hq (by rw [e]; decide)))).trans (A_5_o q (fun e => hq (by rw [e]; decide))))), ?_⟩
        exact ⟨(NFA_33).ext (fun q => by rw [PFA_33, ← XFA_33 (48 + x1.toInt) (by omega) (by omega)]; exact RFA_33 x1.toInt (by omega) (by omega) q) (fun q => by rw [XFA_33 (42 + x1.toInt) (by omega) (by omega)]; exact QFA_33.1 q) QFA_33.2, RFA_33⟩
    · rw [i_nne] at c_28
      unfold d_getsUp_117
      have l_34 : (3 : Int32).toInt = 3 := by decide
      refine ok_st (j := 50) hA_14 (by omega) (by omega) (trivial) ?_
      intro A_35 hA_35 A_35_o A_35_s A_35_n
      have VFA_35 : VMs F A_35 := VFA_14.fr rfl (fun q h1 h2 => A_35_o q (by omega))
      have MFA_35 : k = ai A_35 29 (F 18).toInt := by rw [ai_fr (A_35_o 29 (by decide))]; exact MFA_14
      have RFA_35 : RVm F A_35 48 k := RFA_14.sto A_35_o (by decide) (by decide)
      have NFA_35 : NVm F A_35 x1.toInt := NFA_14.st50 A_35_o A_35_s A_35_n (fun q _ => absurd q (by omega)) (fun q _ => absurd q (by omega))
      have XFA_35 : ∀ i, 42 ≤ i → i < 54 → ai A_35 48 i = ai A 48 i := by rw [ai_fr (A_35_o 48 (by decide))]; exact XFA_14
      have QFA_35 : (ai A_35 50 x1.toInt = 1 → 0 ≤ ai A 48 (42 + x1.toInt)) ∧ ai A_35 50 x1.toInt ≠ 2 := ⟨fun _ => by omega, by omega⟩
      have PFA_35 : ai A_35 54 x1.toInt = ai A 48 (48 + x1.toInt) := by rw [ai_fr (A_35_o 54 (by decide))]; exact PFA_14
      have YFA_35 : ∀ q, 8 ≤ q → q ≤ 43 → A_35 q = A q := fun q h1 h2 => (A_35_o q (by omega)).trans (YFA_14 q h1 h2)
      refine ok_st (j := 51) hA_35 (by omega) (by omega) (trivial) ?_
      intro A_36 hA_36 A_36_o A_36_s A_36_n
      have VFA_36 : VMs F A_36 := VFA_35.fr rfl (fun q h1 h2 => A_36_o q (by omega))
      have MFA_36 : k = ai A_36 29 (F 18).toInt := by rw [ai_fr (A_36_o 29 (by decide))]; exact MFA_35
      have RFA_36 : RVm F A_36 48 k := RFA_35.sto A_36_o (by decide) (by decide)
      have NFA_36 : NVm F A_36 x1.toInt := NFA_35.sto A_36_o (by decide)
      have XFA_36 : ∀ i, 42 ≤ i → i < 54 → ai A_36 48 i = ai A 48 i := by rw [ai_fr (A_36_o 48 (by decide))]; exact XFA_35
      have QFA_36 : (ai A_36 50 x1.toInt = 1 → 0 ≤ ai A 48 (42 + x1.toInt)) ∧ ai A_36 50 x1.toInt ≠ 2 := by rw [ai_fr (A_36_o 50 (by decide))]; exact QFA_35
      have PFA_36 : ai A_36 54 x1.toInt = ai A 48 (48 + x1.toInt) := by rw [ai_fr (A_36_o 54 (by decide))]; exact PFA_35
      have YFA_36 : ∀ q, 8 ≤ q → q ≤ 43 → A_36 q = A q := fun q h1 h2 => (A_36_o q (by omega)).trans (YFA_35 q h1 h2)
      refine ok_cond (fun c_37 => ?_) (fun c_37 => ?_)
      · rw [i_ne] at c_37
        refine ok_some ?_
        refine ⟨hF, hA_36, (fun q hq => rfl), (fun q hq => (((((((A_36_o q (fun e => hq (by rw [e]; decide))).trans (A_35_o q (fun e => hq (by rw [e]; decide)))).trans (A_14_o q (fun e => hq (by rw [e]; decide)))).trans (A_10_o q (fun e => hq (by rw [e]; decide)))).trans (A_7_o q (fun e => hq (by rw [e]; decide)))).trans (A_6_o q (fun e => hq (by rw [e]; decide)))).trans (A_5_o q (fun e => hq (by rw [e]; decide))))), ?_⟩
        exact ⟨(NFA_36).ext (fun q => by rw [PFA_36, ← XFA_36 (48 + x1.toInt) (by omega) (by omega)]; exact RFA_36 x1.toInt (by omega) (by omega) q) (fun q => by rw [XFA_36 (42 + x1.toInt) (by omega) (by omega)]; exact QFA_36.1 q) QFA_36.2, RFA_36⟩
      · rw [i_nne] at c_37
        refine ok_st (j := 48) hA_36 (by omega) (by omega) (trivial) ?_
        intro A_38 hA_38 A_38_o A_38_s A_38_n
        have VFA_38 : VMs F A_38 := VFA_36.fr rfl (fun q h1 h2 => A_38_o q (by omega))
        have MFA_38 : k = ai A_38 29 (F 18).toInt := by rw [ai_fr (A_38_o 29 (by decide))]; exact MFA_36
        have RFA_38 : RVm F A_38 48 k := RFA_36.st (by decide) A_38_o A_38_n (by omega) hk
        have NFA_38 : NVm F A_38 x1.toInt := NFA_36.st48 A_38_o A_38_n (by omega)
        have XFA_38 : ∀ i, 42 ≤ i → i < 54 → ai A_38 48 i = ai A 48 i := fun i hi hj => (A_38_n i (by omega) (by omega)).trans (XFA_36 i hi hj)
        have QFA_38 : (ai A_38 50 x1.toInt = 1 → 0 ≤ ai A 48 (42 + x1.toInt)) ∧ ai A_38 50 x1.toInt ≠ 2 := by rw [ai_fr (A_38_o 50 (by decide))]; exact QFA_36
        have PFA_38 : ai A_38 54 x1.toInt = ai A 48 (48 + x1.toInt) := by rw [ai_fr (A_38_o 54 (by decide))]; exact PFA_36
        have YFA_38 : ∀ q, 8 ≤ q → q ≤ 43 → A_38 q = A q := fun q h1 h2 => (A_38_o q (by omega)).trans (YFA_36 q h1 h2)
        refine ok_some ?_
        refine ⟨hF, hA_38, (fun q hq => rfl), (fun q hq => ((((((((A_38_o q (fun e => hq (by rw [e]; decide))).trans (A_36_o q (fun e => hq (by rw [e]; decide)))).trans (A_35_o q (fun e => hq (by rw [e]; decide)))).trans (A_14_o q (fun e => hq (by rw [e]; decide)))).trans (A_10_o q (fun e => hq (by rw [e]; decide)))).trans (A_7_o q (fun e => hq (by rw [e]; decide)))).trans (A_6_o q (fun e => hq (by rw [e]; decide)))).trans (A_5_o q (fun e => hq (by rw [e]; decide))))), ?_⟩
        exact ⟨(NFA_38).ext (fun q => by rw [PFA_38, ← XFA_38 (48 + x1.toInt) (by omega) (by omega)]; exact RFA_38 x1.toInt (by omega) (by omega) q) (fun q => by rw [XFA_38 (42 + x1.toInt) (by omega) (by omega)]; exact QFA_38.1 q) QFA_38.2, RFA_38⟩
  · rw [i_nge] at c_15
    refine ok_some ?_
    refine ⟨hF, hA_14, (fun q hq => rfl), (fun q hq => (((((A_14_o q (fun e => hq (by rw [e]; decide))).trans (A_10_o q (fun e => hq (by rw [e]; decide)))).trans (A_7_o q (fun e => hq (by rw [e]; decide)))).trans (A_6_o q (fun e => hq (by rw [e]; decide)))).trans (A_5_o q (fun e => hq (by rw [e]; decide))))), ?_⟩
    exact ⟨(NFA_14).ext (fun q => by rw [PFA_14, ← XFA_14 (48 + x1.toInt) (by omega) (by omega)]; exact RFA_14 x1.toInt (by omega) (by omega) q) (fun q => by rw [XFA_14 (42 + x1.toInt) (by omega) (by omega)]; exact QFA_14.1 q) QFA_14.2, RFA_14⟩
end Qz45
section Qz46
set_option maxRecDepth 10000 in
theorem s_d_termOf_5  {n : Nat} {F0 : Nat → Int32} {A0 : Nat → Nat → Int32} {u : Int} {F : Nat → Int32} {A : Nat → Nat → Int32} {J : Nat → Nat → Int64} {x2 : Int32} {x3 : Int32} {x4 : Int32} (hF : IFm F) (hA : IAm A) (bF : ∀ q, q ∉ ([63] : List Nat) → F q = F0 q) (bA : ∀ q, q ∉ ([46] : List Nat) → A q = A0 q) (hW : WFm A0 u x2.toInt) (hu : u ≤ x4.toInt ∧ x4.toInt ≤ x2.toInt) (hd : x3.toInt = dpm A0 u (x4.toInt - u).toNat) (hn : 400 - (x4.toInt - u) < (n : Int)) : ok (d_termOf_5 n F A J x2 x3 x4) (fun r => IFm r.2.1 ∧ IAm r.2.2.1 ∧ (∀ q, q ∉ ([63] : List Nat) → r.2.1 q = F0 q) ∧ (∀ q, q ∉ ([46] : List Nat) → r.2.2.1 q = A0 q) ∧ True) := by
  induction n generalizing F A J x3 x4 with
  | zero => exact absurd hn (by have z := hW.2.2.1; omega)
  | succ n ih =>
    have r18 : 0 ≤ (F 18).toInt ∧ (F 18).toInt ≤ 1 := hF 18
    have a42 : ai A 42 = ai A0 42 := ai_fr (bA 42 (by decide))
    have a43 : ai A 43 = ai A0 43 := ai_fr (bA 43 (by decide))
    obtain ⟨w1, w2, w3, w4, w5, w6⟩ := id hW
    obtain ⟨kk, hkk⟩ : ∃ kk : Nat, (kk : Int) = x4.toInt - u := ⟨(x4.toInt - u).toNat, by omega⟩
    rw [show (x4.toInt - u).toNat = kk by omega] at hd
    have d0 := dpm_nn hW kk (by omega)
    have d1 := dpm_le A0 u kk
    unfold d_termOf_5
    refine ok_cond (fun c_1 => ?_) (fun c_1 => ?_)
    · rw [i_ge] at c_1
      have l_2 : (0 : Int32).toInt = 0 := by decide
      refine ok_ld (j := 46) hA (by omega) (by omega) ?_
      intro v_3 v_3_e v_3_r
      refine ok_some ?_
      refine ⟨hF, hA, (fun q hq => (bF q hq)), (fun q hq => (bA q hq)), ?_⟩
      (first | trivial | omega | exact ⟨by omega, by omega⟩ | assumption)
    · rw [i_nge] at c_1
      refine ok_ld (j := 42) hA (by omega) (by omega) ?_
      intro v_4 v_4_e v_4_r
      have v_4_r : 0 ≤ v_4.toInt ∧ v_4.toInt ≤ 5 := v_4_r
      rw [a42] at v_4_e
      have l_5 : (2 : Int32).toInt = 2 := by decide
      refine ok_cond (fun c_6 => ?_) (fun c_6 => ?_)
      · rw [i_ge] at c_6
        have hp := w5 kk (by omega) (by rw [show u + (kk : Int) = x4.toInt by omega]; omega)
        have lm : (-1 : Int32).toInt = -1 := by decide
        have ey := i_add (x := x3) (y := -1) (by omega) (by omega)
        rw [lm] at ey
        generalize hy : x3 + -1 = y3 at ey ⊢
        have l_7 : (1 : Int32).toInt = 1 := by decide
        have e_8 := i_sub (x := y3) (y := 1) (by omega) (by omega)
        refine ok_ld (j := 46) hA (by omega) (by omega) ?_
        intro v_9 v_9_e v_9_r
        refine ok_ld (j := 46) hA (by omega) (by omega) ?_
        intro v_10 v_10_e v_10_r
        have l_11 : (5 : Int32).toInt = 5 := by decide
        refine ok_cond (fun c_12 => ?_) (fun c_12 => ?_)
        · rw [i_ne] at c_12
          unfold d_termOf_104
          refine ok_cond (fun c_13 => ?_) (fun c_13 => ?_)
          · rw [i_ne] at c_13
            have l_14 : (3 : Int32).toInt = 3 := by decide
            refine ok_cond (fun c_15 => ?_) (fun c_15 => ?_)
            · rw [i_ne] at c_15
              have l_16 : (4 : Int32).toInt = 4 := by decide
              refine ok_cond (fun c_17 => ?_) (fun c_17 => ?_)
              · rw [i_ne] at c_17
                have hdz : v_10.toInt ≠ 0 := by clear hp d0 d1 hd hu w1 w2 w3 w4 w5 w6 hkk ih hW hn a42 a43 bF bA hF hA; omega
                clear c_12 c_13 c_15 c_17
                refine ok_div1 (by first | assumption | omega) ?_
                intro v_18 v_18_e
                refine ok_st (j := 46) hA (by omega) (by omega) (trivial) ?_
                intro A_19 hA_19 A_19_o A_19_s A_19_n
                have e_20 := i_add (x := x4) (y := 1) (by omega) (by omega)
                exact ih hF hA_19 (fun q hq => (bF q hq)) (fun q hq => ((A_19_o q (fun e => hq (by rw [e]; decide))).trans (bA q hq))) (by omega) (by have hs := dpm_step (A := A0) (u := u) (c := x4.toInt) (by omega); rw [show (x4.toInt - u).toNat = kk by omega] at hs; rw [show (x4 + 1).toInt = x4.toInt + 1 by omega, hs]; first | (rw [if_pos (by omega)]; omega) | (rw [if_neg (by omega)]; omega)) (by omega)
              · rw [i_nne] at c_17
                unfold d_termOf_158
                refine ok_st (j := 46) hA (by omega) (by omega) (trivial) ?_
                intro A_21 hA_21 A_21_o A_21_s A_21_n
                have e_22 := i_add (x := x4) (y := 1) (by omega) (by omega)
                exact ih hF hA_21 (fun q hq => (bF q hq)) (fun q hq => ((A_21_o q (fun e => hq (by rw [e]; decide))).trans (bA q hq))) (by omega) (by have hs := dpm_step (A := A0) (u := u) (c := x4.toInt) (by omega); rw [show (x4.toInt - u).toNat = kk by omega] at hs; rw [show (x4 + 1).toInt = x4.toInt + 1 by omega, hs]; first | (rw [if_pos (by omega)]; omega) | (rw [if_neg (by omega)]; omega)) (by omega)
            · rw [i_nne] at c_15
              unfold d_termOf_158
              refine ok_st (j := 46) hA (by omega) (by omega) (trivial) ?_
              intro A_23 hA_23 A_23_o A_23_s A_23_n
              have e_24 := i_add (x := x4) (y := 1) (by omega) (by omega)
              exact ih hF hA_23 (fun q hq => (bF q hq)) (fun q hq => ((A_23_o q (fun e => hq (by rw [e]; decide))).trans (bA q hq))) (by omega) (by have hs := dpm_step (A := A0) (u := u) (c := x4.toInt) (by omega); rw [show (x4.toInt - u).toNat = kk by omega] at hs; rw [show (x4 + 1).toInt = x4.toInt + 1 by omega, hs]; first | (rw [if_pos (by omega)]; omega) | (rw [if_neg (by omega)]; omega)) (by omega)
          · rw [i_nne] at c_13
            unfold d_termOf_158
            refine ok_st (j := 46) hA (by omega) (by omega) (trivial) ?_
            intro A_25 hA_25 A_25_o A_25_s A_25_n
            have e_26 := i_add (x := x4) (y := 1) (by omega) (by omega)
            exact ih hF hA_25 (fun q hq => (bF q hq)) (fun q hq => ((A_25_o q (fun e => hq (by rw [e]; decide))).trans (bA q hq))) (by omega) (by have hs := dpm_step (A := A0) (u := u) (c := x4.toInt) (by omega); rw [show (x4.toInt - u).toNat = kk by omega] at hs; rw [show (x4 + 1).toInt = x4.toInt + 1 by omega, hs]; first | (rw [if_pos (by omega)]; omega) | (rw [if_neg (by omega)]; omega)) (by omega)
        · rw [i_nne] at c_12
          have l_27 : (0 : Int32).toInt = 0 := by decide
          refine ok_cond (fun c_28 => ?_) (fun c_28 => ?_)
          · rw [i_ne] at c_28
            unfold d_termOf_104
            refine ok_cond (fun c_29 => ?_) (fun c_29 => ?_)
            · rw [i_ne] at c_29
              have l_30 : (3 : Int32).toInt = 3 := by decide
              refine ok_cond (fun c_31 => ?_) (fun c_31 => ?_)
              · rw [i_ne] at c_31
                have l_32 : (4 : Int32).toInt = 4 := by decide
                refine ok_cond (fun c_33 => ?_) (fun c_33 => ?_)
                · rw [i_ne] at c_33
                  have hdz : v_10.toInt ≠ 0 := by clear hp d0 d1 hd hu w1 w2 w3 w4 w5 w6 hkk ih hW hn a42 a43 bF bA hF hA; omega
                  clear c_28 c_29 c_31 c_33
                  refine ok_div1 (by first | assumption | omega) ?_
                  intro v_34 v_34_e
                  refine ok_st (j := 46) hA (by omega) (by omega) (trivial) ?_
                  intro A_35 hA_35 A_35_o A_35_s A_35_n
                  have e_36 := i_add (x := x4) (y := 1) (by omega) (by omega)
                  exact ih hF hA_35 (fun q hq => (bF q hq)) (fun q hq => ((A_35_o q (fun e => hq (by rw [e]; decide))).trans (bA q hq))) (by omega) (by have hs := dpm_step (A := A0) (u := u) (c := x4.toInt) (by omega); rw [show (x4.toInt - u).toNat = kk by omega] at hs; rw [show (x4 + 1).toInt = x4.toInt + 1 by omega, hs]; first | (rw [if_pos (by omega)]; omega) | (rw [if_neg (by omega)]; omega)) (by omega)
                · rw [i_nne] at c_33
                  unfold d_termOf_158
                  refine ok_st (j := 46) hA (by omega) (by omega) (trivial) ?_
                  intro A_37 hA_37 A_37_o A_37_s A_37_n
                  have e_38 := i_add (x := x4) (y := 1) (by omega) (by omega)
                  exact ih hF hA_37 (fun q hq => (bF q hq)) (fun q hq => ((A_37_o q (fun e => hq (by rw [e]; decide))).trans (bA q hq))) (by omega) (by have hs := dpm_step (A := A0) (u := u) (c := x4.toInt) (by omega); rw [show (x4.toInt - u).toNat = kk by omega] at hs; rw [show (x4 + 1).toInt = x4.toInt + 1 by omega, hs]; first | (rw [if_pos (by omega)]; omega) | (rw [if_neg (by omega)]; omega)) (by omega)
              · rw [i_nne] at c_31
                unfold d_termOf_158
                refine ok_st (j := 46) hA (by omega) (by omega) (trivial) ?_
                intro A_39 hA_39 A_39_o A_39_s A_39_n
                have e_40 := i_add (x := x4) (y := 1) (by omega) (by omega)
                exact ih hF hA_39 (fun q hq => (bF q hq)) (fun q hq => ((A_39_o q (fun e => hq (by rw [e]; decide))).trans (bA q hq))) (by omega) (by have hs := dpm_step (A := A0) (u := u) (c := x4.toInt) (by omega); rw [show (x4.toInt - u).toNat = kk by omega] at hs; rw [show (x4 + 1).toInt = x4.toInt + 1 by omega, hs]; first | (rw [if_pos (by omega)]; omega) | (rw [if_neg (by omega)]; omega)) (by omega)
            · rw [i_nne] at c_29
              unfold d_termOf_158
              refine ok_st (j := 46) hA (by omega) (by omega) (trivial) ?_
              intro A_41 hA_41 A_41_o A_41_s A_41_n
              have e_42 := i_add (x := x4) (y := 1) (by omega) (by omega)
              exact ih hF hA_41 (fun q hq => (bF q hq)) (fun q hq => ((A_41_o q (fun e => hq (by rw [e]; decide))).trans (bA q hq))) (by omega) (by have hs := dpm_step (A := A0) (u := u) (c := x4.toInt) (by omega); rw [show (x4.toInt - u).toNat = kk by omega] at hs; rw [show (x4 + 1).toInt = x4.toInt + 1 by omega, hs]; first | (rw [if_pos (by omega)]; omega) | (rw [if_neg (by omega)]; omega)) (by omega)
          · rw [i_nne] at c_28
            refine ok_pfz hF (by omega) (⟨by omega, by omega⟩) ?_
            intro F_43 hF_43 F_43_k F_43_o
            refine ok_some ?_
            refine ⟨hF_43, hA, (fun q hq => ((F_43_o q (fun e => hq (by rw [e]; decide))).trans (bF q hq))), (fun q hq => (bA q hq)), ?_⟩
            (first | trivial | omega | exact ⟨by omega, by omega⟩ | assumption)
      · rw [i_nge] at c_6
        have l_44 : (0 : Int32).toInt = 0 := by decide
        refine ok_cond (fun c_45 => ?_) (fun c_45 => ?_)
        · rw [i_ne] at c_45
          refine ok_ld (j := 43) hA (by omega) (by omega) ?_
          intro v_46 v_46_e v_46_r
          rw [a43] at v_46_e
          have hx := w6 x4.toInt (by omega) (by omega) (by omega)
          refine ok_ld (j := 45) hA (by omega) (by omega) ?_
          intro v_47 v_47_e v_47_r
          refine ok_st (j := 46) hA (by omega) (by omega) (trivial) ?_
          intro A_48 hA_48 A_48_o A_48_s A_48_n
          unfold d_termOf_159
          have l_49 : (1 : Int32).toInt = 1 := by decide
          have e_50 := i_add (x := x3) (y := 1) (by omega) (by omega)
          have e_51 := i_add (x := x4) (y := 1) (by omega) (by omega)
          exact ih hF hA_48 (fun q hq => (bF q hq)) (fun q hq => ((A_48_o q (fun e => hq (by rw [e]; decide))).trans (bA q hq))) (by omega) (by have hs := dpm_step (A := A0) (u := u) (c := x4.toInt) (by omega); rw [show (x4.toInt - u).toNat = kk by omega] at hs; rw [show (x4 + 1).toInt = x4.toInt + 1 by omega, hs]; first | (rw [if_pos (by omega)]; omega) | (rw [if_neg (by omega)]; omega)) (by omega)
        · rw [i_nne] at c_45
          refine ok_ld (j := 43) hA (by omega) (by omega) ?_
          intro v_52 v_52_e v_52_r
          unfold d_termOf_58
          refine ok_st (j := 46) hA (by omega) (by omega) (trivial) ?_
          intro A_53 hA_53 A_53_o A_53_s A_53_n
          unfold d_termOf_159
          have l_54 : (1 : Int32).toInt = 1 := by decide
          have e_55 := i_add (x := x3) (y := 1) (by omega) (by omega)
          have e_56 := i_add (x := x4) (y := 1) (by omega) (by omega)
          exact ih hF hA_53 (fun q hq => (bF q hq)) (fun q hq => ((A_53_o q (fun e => hq (by rw [e]; decide))).trans (bA q hq))) (by omega) (by have hs := dpm_step (A := A0) (u := u) (c := x4.toInt) (by omega); rw [show (x4.toInt - u).toNat = kk by omega] at hs; rw [show (x4 + 1).toInt = x4.toInt + 1 by omega, hs]; first | (rw [if_pos (by omega)]; omega) | (rw [if_neg (by omega)]; omega)) (by omega)
set_option maxRecDepth 10000 in
theorem s_d_termOf {n : Nat} {F : Nat → Int32} {A : Nat → Nat → Int32} {J : Nat → Nat → Int64} {x1 : Int32} {x2 : Int32} (hF : IFm F) (hA : IAm A) (hn : 402 ≤ n) (hW : WFm A x1.toInt x2.toInt) : ok (d_termOf n F A J x1 x2) (fun r => IFm r.2.1 ∧ IAm r.2.2.1 ∧ (∀ q, q ∉ ([63] : List Nat) → r.2.1 q = F q) ∧ (∀ q, q ∉ ([46] : List Nat) → r.2.2.1 q = A q) ∧ True) := by
  have r18 : 0 ≤ (F 18).toInt ∧ (F 18).toInt ≤ 1 := hF 18
  unfold d_termOf
  have l_1 : (0 : Int32).toInt = 0 := by decide
  refine ok_mono (s_d_termOf_5 (u := x1.toInt) hF hA (fun q hq => rfl) (fun q hq => rfl) (hW) (⟨by omega, hW.2.1⟩) (by rw [Int.sub_self]; rfl) (by omega)) ?_
  rintro ⟨v_2, F_3, A_4, J_5⟩ ⟨hF_3, hA_4, F_3_o, A_4_o, v_2_p⟩
  dsimp only at hF_3 hA_4 F_3_o A_4_o v_2_p ⊢
  refine ⟨hF_3, hA_4, (fun q hq => (F_3_o q hq)), (fun q hq => (A_4_o q hq)), ?_⟩
  (first | trivial | omega | exact ⟨by omega, by omega⟩ | assumption)
end Qz46
section Qz47
set_option maxRecDepth 10000 in
theorem s_d_tells_130  {n : Nat} {F : Nat → Int32} {A : Nat → Nat → Int32} {J : Nat → Nat → Int64} {x1 : Int32} {x3 : Int32} {x5 : Int32} {x6 : Int32} (hF : IFm F) (hA : IAm A) (VFA : VMs F A) (LFA : ∀ b, x6.toInt ≤ b → b < x5.toInt → LWm A b) (TFA : 0 ≤ ai A 54 x1.toInt ∧ ai A 54 x1.toInt < ai A 22 (6 * (F 18).toInt + x3.toInt)) (rx1 : 0 ≤ x1.toInt ∧ x1.toInt ≤ 5) (rx3 : 0 ≤ x3.toInt ∧ x3.toInt ≤ 5) (rx5 : 0 ≤ x5.toInt ∧ x5.toInt ≤ 100) (rx6 : 0 ≤ x6.toInt ∧ x6.toInt ≤ 100) (hn : 502 - x6.toInt < (n : Int)) : ok (d_tells_130 n F A J x1 x3 x5 x6) (fun r => IFm r.2.1 ∧ IAm r.2.2.1 ∧ (∀ q, q ∉ ([63] : List Nat) → r.2.1 q = F q) ∧ (∀ q, q ∉ ([46] : List Nat) → r.2.2.1 q = A q) ∧ 0 ≤ r.1.toInt ∧ r.1.toInt < ai A 22 (6 * (F 18).toInt + x3.toInt)) := by
  induction n generalizing F A J x6 with
  | zero => exact absurd hn (by omega)
  | succ n ih =>
    have r18 : 0 ≤ (F 18).toInt ∧ (F 18).toInt ≤ 1 := hF 18
    have EFA : ai A 22 (6 * (F 18).toInt + x3.toInt) = ai A 22 (6 * (F 18).toInt + x3.toInt) := rfl
    unfold d_tells_130
    refine ok_cond (fun c_1 => ?_) (fun c_1 => ?_)
    · rw [i_ge] at c_1
      refine ok_ld (j := 54) hA (by omega) (by omega) ?_
      intro v_2 v_2_e v_2_r
      refine ok_some ?_
      refine ⟨hF, hA, (fun q hq => rfl), (fun q hq => rfl), ?_⟩
      show 0 ≤ (v_2 : Int32).toInt ∧ (v_2 : Int32).toInt < _; exact ⟨by omega, by omega⟩
    · rw [i_nge] at c_1
      refine ok_ld (j := 36) hA (by omega) (by omega) ?_
      intro v_3 v_3_e v_3_r
      have v_3_r : 0 ≤ v_3.toInt ∧ v_3.toInt ≤ 1 := v_3_r
      have l_4 : (0 : Int32).toInt = 0 := by decide
      refine ok_cond (fun c_5 => ?_) (fun c_5 => ?_)
      · rw [i_eq] at c_5
        unfold d_tells_211
        refine ok_ld (j := 39) hA (by omega) (by omega) ?_
        intro v_6 v_6_e v_6_r
        have v_6_r : 0 ≤ v_6.toInt ∧ v_6.toInt ≤ 840 := v_6_r
        refine ok_ld (j := 40) hA (by omega) (by omega) ?_
        intro v_7 v_7_e v_7_r
        have v_7_r : 0 ≤ v_7.toInt ∧ v_7.toInt ≤ 840 := v_7_r
        have hw3 : WFm A v_6.toInt v_7.toInt := by rw [v_6_e, v_7_e]; exact (LFA x6.toInt (by omega) (by omega)).2
        refine ok_call (s_d_termOf hF hA (by omega) (by assumption)) ?_
        rintro ⟨v_8, F_9, A_10, J_11⟩ ⟨hF_9, hA_10, F_9_o, A_10_o, v_8_p⟩
        dsimp only at hF_9 hA_10 F_9_o A_10_o v_8_p ⊢
        have r_12 : 0 ≤ (F_9 18).toInt ∧ (F_9 18).toInt ≤ 1 := hF_9 18
        have r_13 : 0 ≤ (F 18).toInt ∧ (F 18).toInt ≤ 1 := hF 18
        have f_14 : (F_9 18).toInt = (F 18).toInt := congrArg Int32.toInt (F_9_o 18 (by decide))
        have VF_9A_10 : VMs F_9 A_10 := VFA.fr (F_9_o 18 (by decide)) (fun q h1 h2 => A_10_o q (by intro e; simp at e <;> omega))
        have LF_9A_10 : ∀ b, x6.toInt ≤ b → b < x5.toInt → LWm A_10 b := fun b h1 h2 => (LFA b h1 h2).fr (fun q h3 h4 => A_10_o q (by intro e; simp at e <;> omega))
        have TF_9A_10 : 0 ≤ ai A_10 54 x1.toInt ∧ ai A_10 54 x1.toInt < ai A_10 22 (6 * (F_9 18).toInt + x3.toInt) := by rw [ai_fr (A_10_o 54 (by decide)), ai_fr (A_10_o 22 (by decide)), F_9_o 18 (by decide)] <;> exact TFA
        have EF_9A_10 : ai A_10 22 (6 * (F_9 18).toInt + x3.toInt) = ai A 22 (6 * (F 18).toInt + x3.toInt) := by rw [ai_fr (A_10_o 22 (by decide)), F_9_o 18 (by decide)] <;> exact EFA
        have r_15 : 0 ≤ (F_9 63).toInt ∧ (F_9 63).toInt ≤ 1 := hF_9 63
        refine ok_cond (fun c_16 => ?_) (fun c_16 => ?_)
        · rw [i_eq] at c_16
          refine ok_cond (fun c_17 => ?_) (fun c_17 => ?_)
          · rw [i_ge] at c_17
            refine ok_call (s_d_stepsOf hF_9 hA_10 (by omega)) ?_
            intro v_18 v_18_p
            have v_18_p : v_18.toInt = ai A_10 22 (6 * (F_9 18).toInt + x3.toInt) ∧ 0 ≤ v_18.toInt ∧ v_18.toInt ≤ 6 := v_18_p
            refine ok_cond (fun c_19 => ?_) (fun c_19 => ?_)
            · rw [i_lt] at c_19
              refine ok_some ?_
              refine ⟨hF_9, hA_10, (fun q hq => (F_9_o q hq)), (fun q hq => (A_10_o q hq)), ?_⟩
              show 0 ≤ (v_8 : Int32).toInt ∧ (v_8 : Int32).toInt < _; exact ⟨by omega, by omega⟩
            · rw [i_nlt] at c_19
              refine ok_call (s_d_stepsOf hF_9 hA_10 (by omega)) ?_
              intro v_20 v_20_p
              have v_20_p : v_20.toInt = ai A_10 22 (6 * (F_9 18).toInt + x3.toInt) ∧ 0 ≤ v_20.toInt ∧ v_20.toInt ≤ 6 := v_20_p
              refine ok_some ?_
              have l_21 : (1 : Int32).toInt = 1 := by decide
              have e_22 := i_sub (x := v_20) (y := 1) (by omega) (by omega)
              refine ⟨hF_9, hA_10, (fun q hq => (F_9_o q hq)), (fun q hq => (A_10_o q hq)), ?_⟩
              show 0 ≤ ((v_20 - 1) : Int32).toInt ∧ ((v_20 - 1) : Int32).toInt < _; exact ⟨by omega, by omega⟩
          · rw [i_nge] at c_17
            refine ok_some ?_
            refine ⟨hF_9, hA_10, (fun q hq => (F_9_o q hq)), (fun q hq => (A_10_o q hq)), ?_⟩
            show 0 ≤ (0 : Int32).toInt ∧ (0 : Int32).toInt < _; exact ⟨by omega, by omega⟩
        · rw [i_neq] at c_16
          refine ok_ld (j := 54) hA_10 (by omega) (by omega) ?_
          intro v_23 v_23_e v_23_r
          refine ok_some ?_
          refine ⟨hF_9, hA_10, (fun q hq => (F_9_o q hq)), (fun q hq => (A_10_o q hq)), ?_⟩
          show 0 ≤ (v_23 : Int32).toInt ∧ (v_23 : Int32).toInt < _; exact ⟨by omega, by omega⟩
      · rw [i_neq] at c_5
        refine ok_ld (j := 37) hA (by omega) (by omega) ?_
        intro v_24 v_24_e v_24_r
        have v_24_r : 0 ≤ v_24.toInt ∧ v_24.toInt ≤ 840 := v_24_r
        refine ok_ld (j := 38) hA (by omega) (by omega) ?_
        intro v_25 v_25_e v_25_r
        have v_25_r : 0 ≤ v_25.toInt ∧ v_25.toInt ≤ 840 := v_25_r
        have hw := (LFA x6.toInt (by omega) (by omega)).1 (by omega)
        have hw1 : WFm A v_24.toInt v_25.toInt := by rw [v_24_e, v_25_e]; exact hw.1
        refine ok_call (s_d_termOf hF hA (by omega) (by assumption)) ?_
        rintro ⟨v_26, F_27, A_28, J_29⟩ ⟨hF_27, hA_28, F_27_o, A_28_o, v_26_p⟩
        dsimp only at hF_27 hA_28 F_27_o A_28_o v_26_p ⊢
        have r_30 : 0 ≤ (F_27 18).toInt ∧ (F_27 18).toInt ≤ 1 := hF_27 18
        have r_31 : 0 ≤ (F 18).toInt ∧ (F 18).toInt ≤ 1 := hF 18
        have f_32 : (F_27 18).toInt = (F 18).toInt := congrArg Int32.toInt (F_27_o 18 (by decide))
        have VF_27A_28 : VMs F_27 A_28 := VFA.fr (F_27_o 18 (by decide)) (fun q h1 h2 => A_28_o q (by intro e; simp at e <;> omega))
        have LF_27A_28 : ∀ b, x6.toInt ≤ b → b < x5.toInt → LWm A_28 b := fun b h1 h2 => (LFA b h1 h2).fr (fun q h3 h4 => A_28_o q (by intro e; simp at e <;> omega))
        have TF_27A_28 : 0 ≤ ai A_28 54 x1.toInt ∧ ai A_28 54 x1.toInt < ai A_28 22 (6 * (F_27 18).toInt + x3.toInt) := by rw [ai_fr (A_28_o 54 (by decide)), ai_fr (A_28_o 22 (by decide)), F_27_o 18 (by decide)] <;> exact TFA
        have EF_27A_28 : ai A_28 22 (6 * (F_27 18).toInt + x3.toInt) = ai A 22 (6 * (F 18).toInt + x3.toInt) := by rw [ai_fr (A_28_o 22 (by decide)), F_27_o 18 (by decide)] <;> exact EFA
        refine ok_ld (j := 38) hA_28 (by omega) (by omega) ?_
        intro v_33 v_33_e v_33_r
        have v_33_r : 0 ≤ v_33.toInt ∧ v_33.toInt ≤ 840 := v_33_r
        refine ok_ld (j := 39) hA_28 (by omega) (by omega) ?_
        intro v_34 v_34_e v_34_r
        have v_34_r : 0 ≤ v_34.toInt ∧ v_34.toInt ≤ 840 := v_34_r
        have hw2 : WFm A_28 v_33.toInt v_34.toInt := by rw [v_33_e, v_34_e]; exact ((LF_27A_28 x6.toInt (by omega) (by omega)).1 (by rw [ai_fr (A_28_o 36 (by decide))]; omega)).2
        refine ok_call (s_d_termOf hF_27 hA_28 (by omega) (by assumption)) ?_
        rintro ⟨v_35, F_36, A_37, J_38⟩ ⟨hF_36, hA_37, F_36_o, A_37_o, v_35_p⟩
        dsimp only at hF_36 hA_37 F_36_o A_37_o v_35_p ⊢
        have r_39 : 0 ≤ (F_36 18).toInt ∧ (F_36 18).toInt ≤ 1 := hF_36 18
        have f_40 : (F_36 18).toInt = (F_27 18).toInt := congrArg Int32.toInt (F_36_o 18 (by decide))
        have VF_36A_37 : VMs F_36 A_37 := VF_27A_28.fr (F_36_o 18 (by decide)) (fun q h1 h2 => A_37_o q (by intro e; simp at e <;> omega))
        have LF_36A_37 : ∀ b, x6.toInt ≤ b → b < x5.toInt → LWm A_37 b := fun b h1 h2 => (LF_27A_28 b h1 h2).fr (fun q h3 h4 => A_37_o q (by intro e; simp at e <;> omega))
        have TF_36A_37 : 0 ≤ ai A_37 54 x1.toInt ∧ ai A_37 54 x1.toInt < ai A_37 22 (6 * (F_36 18).toInt + x3.toInt) := by rw [ai_fr (A_37_o 54 (by decide)), ai_fr (A_37_o 22 (by decide)), F_36_o 18 (by decide)] <;> exact TF_27A_28
        have EF_36A_37 : ai A_37 22 (6 * (F_36 18).toInt + x3.toInt) = ai A 22 (6 * (F 18).toInt + x3.toInt) := by rw [ai_fr (A_37_o 22 (by decide)), F_36_o 18 (by decide)] <;> exact EF_27A_28
        have r_41 : 0 ≤ (F_36 63).toInt ∧ (F_36 63).toInt ≤ 1 := hF_36 63
        refine ok_cond (fun c_42 => ?_) (fun c_42 => ?_)
        · rw [i_eq] at c_42
          refine ok_cond (fun c_43 => ?_) (fun c_43 => ?_)
          · rw [i_lt] at c_43
            unfold d_tells_211
            refine ok_ld (j := 39) hA_37 (by omega) (by omega) ?_
            intro v_44 v_44_e v_44_r
            have v_44_r : 0 ≤ v_44.toInt ∧ v_44.toInt ≤ 840 := v_44_r
            refine ok_ld (j := 40) hA_37 (by omega) (by omega) ?_
            intro v_45 v_45_e v_45_r
            have v_45_r : 0 ≤ v_45.toInt ∧ v_45.toInt ≤ 840 := v_45_r
            have hw3 : WFm A_37 v_44.toInt v_45.toInt := by rw [v_44_e, v_45_e]; exact (LF_36A_37 x6.toInt (by omega) (by omega)).2
            refine ok_call (s_d_termOf hF_36 hA_37 (by omega) (by assumption)) ?_
            rintro ⟨v_46, F_47, A_48, J_49⟩ ⟨hF_47, hA_48, F_47_o, A_48_o, v_46_p⟩
            dsimp only at hF_47 hA_48 F_47_o A_48_o v_46_p ⊢
            have r_50 : 0 ≤ (F_47 18).toInt ∧ (F_47 18).toInt ≤ 1 := hF_47 18
            have f_51 : (F_47 18).toInt = (F_36 18).toInt := congrArg Int32.toInt (F_47_o 18 (by decide))
            have VF_47A_48 : VMs F_47 A_48 := VF_36A_37.fr (F_47_o 18 (by decide)) (fun q h1 h2 => A_48_o q (by intro e; simp at e <;> omega))
            have LF_47A_48 : ∀ b, x6.toInt ≤ b → b < x5.toInt → LWm A_48 b := fun b h1 h2 => (LF_36A_37 b h1 h2).fr (fun q h3 h4 => A_48_o q (by intro e; simp at e <;> omega))
            have TF_47A_48 : 0 ≤ ai A_48 54 x1.toInt ∧ ai A_48 54 x1.toInt < ai A_48 22 (6 * (F_47 18).toInt + x3.toInt) := by rw [ai_fr (A_48_o 54 (by decide)), ai_fr (A_48_o 22 (by decide)), F_47_o 18 (by decide)] <;> exact TF_36A_37
            have EF_47A_48 : ai A_48 22 (6 * (F_47 18).toInt + x3.toInt) = ai A 22 (6 * (F 18).toInt + x3.toInt) := by rw [ai_fr (A_48_o 22 (by decide)), F_47_o 18 (by decide)] <;> exact EF_36A_37
            have r_52 : 0 ≤ (F_47 63).toInt ∧ (F_47 63).toInt ≤ 1 := hF_47 63
            refine ok_cond (fun c_53 => ?_) (fun c_53 => ?_)
            · rw [i_eq] at c_53
              refine ok_cond (fun c_54 => ?_) (fun c_54 => ?_)
              · rw [i_ge] at c_54
                refine ok_call (s_d_stepsOf hF_47 hA_48 (by omega)) ?_
                intro v_55 v_55_p
                have v_55_p : v_55.toInt = ai A_48 22 (6 * (F_47 18).toInt + x3.toInt) ∧ 0 ≤ v_55.toInt ∧ v_55.toInt ≤ 6 := v_55_p
                refine ok_cond (fun c_56 => ?_) (fun c_56 => ?_)
                · rw [i_lt] at c_56
                  refine ok_some ?_
                  refine ⟨hF_47, hA_48, (fun q hq => (((F_47_o q hq).trans (F_36_o q hq)).trans (F_27_o q hq))), (fun q hq => (((A_48_o q hq).trans (A_37_o q hq)).trans (A_28_o q hq))), ?_⟩
                  show 0 ≤ (v_46 : Int32).toInt ∧ (v_46 : Int32).toInt < _; exact ⟨by omega, by omega⟩
                · rw [i_nlt] at c_56
                  refine ok_call (s_d_stepsOf hF_47 hA_48 (by omega)) ?_
                  intro v_57 v_57_p
                  have v_57_p : v_57.toInt = ai A_48 22 (6 * (F_47 18).toInt + x3.toInt) ∧ 0 ≤ v_57.toInt ∧ v_57.toInt ≤ 6 := v_57_p
                  refine ok_some ?_
                  have l_58 : (1 : Int32).toInt = 1 := by decide
                  have e_59 := i_sub (x := v_57) (y := 1) (by omega) (by omega)
                  refine ⟨hF_47, hA_48, (fun q hq => (((F_47_o q hq).trans (F_36_o q hq)).trans (F_27_o q hq))), (fun q hq => (((A_48_o q hq).trans (A_37_o q hq)).trans (A_28_o q hq))), ?_⟩
                  show 0 ≤ ((v_57 - 1) : Int32).toInt ∧ ((v_57 - 1) : Int32).toInt < _; exact ⟨by omega, by omega⟩
              · rw [i_nge] at c_54
                refine ok_some ?_
                refine ⟨hF_47, hA_48, (fun q hq => (((F_47_o q hq).trans (F_36_o q hq)).trans (F_27_o q hq))), (fun q hq => (((A_48_o q hq).trans (A_37_o q hq)).trans (A_28_o q hq))), ?_⟩
                show 0 ≤ (0 : Int32).toInt ∧ (0 : Int32).toInt < _; exact ⟨by omega, by omega⟩
            · rw [i_neq] at c_53
              refine ok_ld (j := 54) hA_48 (by omega) (by omega) ?_
              intro v_60 v_60_e v_60_r
              refine ok_some ?_
              refine ⟨hF_47, hA_48, (fun q hq => (((F_47_o q hq).trans (F_36_o q hq)).trans (F_27_o q hq))), (fun q hq => (((A_48_o q hq).trans (A_37_o q hq)).trans (A_28_o q hq))), ?_⟩
              show 0 ≤ (v_60 : Int32).toInt ∧ (v_60 : Int32).toInt < _; exact ⟨by omega, by omega⟩
          · rw [i_nlt] at c_43
            have l_61 : (1 : Int32).toInt = 1 := by decide
            have e_62 := i_add (x := x6) (y := 1) (by omega) (by omega)
            refine ok_mono (ih hF_36 hA_37 (VF_36A_37) (fun b h1 h2 => LF_36A_37 b (by omega) h2) (TF_36A_37) (by omega) (by omega)) ?_
            rintro ⟨v_63, F_64, A_65, J_66⟩ ⟨hF_64, hA_65, F_64_o, A_65_o, v_63_p⟩
            dsimp only at hF_64 hA_65 F_64_o A_65_o v_63_p ⊢
            have v_63_p : 0 ≤ v_63.toInt ∧ v_63.toInt < ai A_37 22 (6 * (F_36 18).toInt + x3.toInt) := v_63_p
            have VF_64A_65 : VMs F_64 A_65 := VF_36A_37.fr (F_64_o 18 (by decide)) (fun q h1 h2 => A_65_o q (by intro e; simp at e <;> omega))
            have LF_64A_65 : ∀ b, x6.toInt ≤ b → b < x5.toInt → LWm A_65 b := fun b h1 h2 => (LF_36A_37 b h1 h2).fr (fun q h3 h4 => A_65_o q (by intro e; simp at e <;> omega))
            have TF_64A_65 : 0 ≤ ai A_65 54 x1.toInt ∧ ai A_65 54 x1.toInt < ai A_65 22 (6 * (F_64 18).toInt + x3.toInt) := by rw [ai_fr (A_65_o 54 (by decide)), ai_fr (A_65_o 22 (by decide)), F_64_o 18 (by decide)] <;> exact TF_36A_37
            have EF_64A_65 : ai A_65 22 (6 * (F_64 18).toInt + x3.toInt) = ai A 22 (6 * (F 18).toInt + x3.toInt) := by rw [ai_fr (A_65_o 22 (by decide)), F_64_o 18 (by decide)] <;> exact EF_36A_37
            refine ⟨hF_64, hA_65, (fun q hq => (((F_64_o q hq).trans (F_36_o q hq)).trans (F_27_o q hq))), (fun q hq => (((A_65_o q hq).trans (A_37_o q hq)).trans (A_28_o q hq))), ?_⟩
            show 0 ≤ (v_63 : Int32).toInt ∧ (v_63 : Int32).toInt < _; exact ⟨by omega, by omega⟩
        · rw [i_neq] at c_42
          refine ok_ld (j := 54) hA_37 (by omega) (by omega) ?_
          intro v_67 v_67_e v_67_r
          refine ok_some ?_
          refine ⟨hF_36, hA_37, (fun q hq => ((F_36_o q hq).trans (F_27_o q hq))), (fun q hq => ((A_37_o q hq).trans (A_28_o q hq))), ?_⟩
          show 0 ≤ (v_67 : Int32).toInt ∧ (v_67 : Int32).toInt < _; exact ⟨by omega, by omega⟩
set_option maxRecDepth 10000 in
theorem s_d_tells {n : Nat} {F : Nat → Int32} {A : Nat → Nat → Int32} {J : Nat → Nat → Int64} {x1 : Int32} {x2 : Int32} (hF : IFm F) (hA : IAm A) (hn : 600 ≤ n) (VFA : VMs F A) (hx : x1.toInt < ai A 29 (F 18).toInt) (hs : SVm F A (ai A 48 (42 + x1.toInt)) (ai A 54 x1.toInt)) (rx1 : 0 ≤ x1.toInt ∧ x1.toInt ≤ 5) : ok (d_tells n F A J x1 x2) (fun r => IFm r.2.1 ∧ IAm r.2.2.1 ∧ (∀ q, q ∉ ([63] : List Nat) → r.2.1 q = F q) ∧ (∀ q, q ∉ ([45, 46] : List Nat) → r.2.2.1 q = A q) ∧ 0 ≤ r.1.toInt ∧ r.1.toInt < ai A 22 (6 * (F 18).toInt + ai A 48 (42 + x1.toInt))) := by
  have r18 : 0 ≤ (F 18).toInt ∧ (F 18).toInt ≤ 1 := hF 18
  have UFA := hs
  have XFA : ai A 48 = ai A 48 := rfl
  have YFA : ∀ q, 8 ≤ q → q ≤ 43 → A q = A q := fun _ _ _ => rfl
  obtain ⟨g1, g2, g3, g4⟩ := id hs
  have t19 : 0 ≤ ai A 19 (F 18).toInt ∧ ai A 19 (F 18).toInt ≤ 6 := hA 19 _ (by omega)
  have t22 : 0 ≤ ai A 22 (6 * (F 18).toInt + ai A 48 (42 + x1.toInt)) ∧ ai A 22 (6 * (F 18).toInt + ai A 48 (42 + x1.toInt)) ≤ 6 := hA 22 _ (by omega)
  unfold d_tells
  have l_1 : (42 : Int32).toInt = 42 := by decide
  have e_2 := i_add (x := 42) (y := x1) (by omega) (by omega)
  refine ok_ld (j := 48) hA (by omega) (by omega) ?_
  intro v_3 v_3_e v_3_r
  have w1 : v_3.toInt = ai A 48 (42 + x1.toInt) := by rw [v_3_e]; congr 1 <;> omega
  have l_4 : (6 : Int32).toInt = 6 := by decide
  have r_5 : 0 ≤ (F 18).toInt ∧ (F 18).toInt ≤ 1 := hF 18
  have e_6 := i_mulL (c := 6) (k := 6) (x := (F 18)) (by decide) (by omega) (by omega)
  have e_7 := i_add (x := (6 * (F 18))) (y := x1) (by omega) (by omega)
  refine ok_ld (j := 34) hA (by omega) (by omega) ?_
  intro v_8 v_8_e v_8_r
  have v_8_r : 0 ≤ v_8.toInt ∧ v_8.toInt ≤ 100 := v_8_r
  refine ok_ld (j := 35) hA (by omega) (by omega) ?_
  intro v_9 v_9_e v_9_r
  have v_9_r : 0 ≤ v_9.toInt ∧ v_9.toInt ≤ 100 := v_9_r
  have e34 : ai A 34 (6 * F 18 + x1).toInt = ai A 34 (6 * (F 18).toInt + x1.toInt) := by congr 1 <;> omega
  have e35 : ai A 35 (6 * F 18 + x1).toInt = ai A 35 (6 * (F 18).toInt + x1.toInt) := by congr 1 <;> omega
  refine ok_ld (j := 54) hA (by omega) (by omega) ?_
  intro v_10 v_10_e v_10_r
  have l_11 : (0 : Int32).toInt = 0 := by decide
  refine ok_st (j := 45) hA (by omega) (by omega) (trivial) ?_
  intro A_12 hA_12 A_12_o A_12_s A_12_n
  have VFA_12 : VMs F A_12 := VFA.fr rfl (fun q h1 h2 => A_12_o q (by omega))
  have UFA_12 : SVm F A_12 (ai A_12 48 (42 + x1.toInt)) (ai A_12 54 x1.toInt) := by rw [ai_fr (A_12_o 48 (by decide)), ai_fr (A_12_o 54 (by decide))]; exact UFA.fr rfl (A_12_o 19 (by decide)) (A_12_o 22 (by decide))
  have XFA_12 : ai A_12 48 = ai A 48 := (ai_fr (A_12_o 48 (by decide))).trans XFA
  have YFA_12 : ∀ q, 8 ≤ q → q ≤ 43 → A_12 q = A q := fun q h1 h2 => (A_12_o q (by omega)).trans (YFA q h1 h2)
  refine ok_ld (j := 54) hA_12 (by omega) (by omega) ?_
  intro v_13 v_13_e v_13_r
  obtain ⟨p1, p2, p3, p4⟩ := id UFA_12
  rw [XFA_12, ai_fr (YFA_12 22 (by decide) (by decide))] at p4
  have e_14 := i_mulL (c := 6) (k := 6) (x := v_3) (by decide) (by omega) (by omega)
  have e_15 := i_add (x := 6) (y := (6 * v_3)) (by omega) (by omega)
  have e_16 := i_add (x := (6 + (6 * v_3))) (y := v_13) (by omega) (by omega)
  refine ok_ld (j := 48) hA_12 (by omega) (by omega) ?_
  intro v_17 v_17_e v_17_r
  have l_18 : (1 : Int32).toInt = 1 := by decide
  refine ok_st (j := 45) hA_12 (by omega) (by omega) (trivial) ?_
  intro A_19 hA_19 A_19_o A_19_s A_19_n
  have VFA_19 : VMs F A_19 := VFA_12.fr rfl (fun q h1 h2 => A_19_o q (by omega))
  have UFA_19 : SVm F A_19 (ai A_19 48 (42 + x1.toInt)) (ai A_19 54 x1.toInt) := by rw [ai_fr (A_19_o 48 (by decide)), ai_fr (A_19_o 54 (by decide))]; exact UFA_12.fr rfl (A_19_o 19 (by decide)) (A_19_o 22 (by decide))
  have XFA_19 : ai A_19 48 = ai A 48 := (ai_fr (A_19_o 48 (by decide))).trans XFA_12
  have YFA_19 : ∀ q, 8 ≤ q → q ≤ 43 → A_19 q = A q := fun q h1 h2 => (A_19_o q (by omega)).trans (YFA_12 q h1 h2)
  refine ok_call (s_d_stepsOf hF hA_19 (by omega)) ?_
  intro v_20 v_20_p
  have v_20_p : v_20.toInt = ai A_19 22 (6 * (F 18).toInt + v_3.toInt) ∧ 0 ≤ v_20.toInt ∧ v_20.toInt ≤ 6 := v_20_p
  have l_21 : (2 : Int32).toInt = 2 := by decide
  refine ok_st (j := 45) hA_19 (by omega) (by omega) (trivial) ?_
  intro A_22 hA_22 A_22_o A_22_s A_22_n
  have VFA_22 : VMs F A_22 := VFA_19.fr rfl (fun q h1 h2 => A_22_o q (by omega))
  have UFA_22 : SVm F A_22 (ai A_22 48 (42 + x1.toInt)) (ai A_22 54 x1.toInt) := by rw [ai_fr (A_22_o 48 (by decide)), ai_fr (A_22_o 54 (by decide))]; exact UFA_19.fr rfl (A_22_o 19 (by decide)) (A_22_o 22 (by decide))
  have XFA_22 : ai A_22 48 = ai A 48 := (ai_fr (A_22_o 48 (by decide))).trans XFA_19
  have YFA_22 : ∀ q, 8 ≤ q → q ≤ 43 → A_22 q = A q := fun q h1 h2 => (A_22_o q (by omega)).trans (YFA_19 q h1 h2)
  have l_23 : (3 : Int32).toInt = 3 := by decide
  refine ok_st (j := 45) hA_22 (by omega) (by omega) (trivial) ?_
  intro A_24 hA_24 A_24_o A_24_s A_24_n
  have VFA_24 : VMs F A_24 := VFA_22.fr rfl (fun q h1 h2 => A_24_o q (by omega))
  have UFA_24 : SVm F A_24 (ai A_24 48 (42 + x1.toInt)) (ai A_24 54 x1.toInt) := by rw [ai_fr (A_24_o 48 (by decide)), ai_fr (A_24_o 54 (by decide))]; exact UFA_22.fr rfl (A_24_o 19 (by decide)) (A_24_o 22 (by decide))
  have XFA_24 : ai A_24 48 = ai A 48 := (ai_fr (A_24_o 48 (by decide))).trans XFA_22
  have YFA_24 : ∀ q, 8 ≤ q → q ≤ 43 → A_24 q = A q := fun q h1 h2 => (A_24_o q (by omega)).trans (YFA_22 q h1 h2)
  refine ok_ld (j := 48) hA_24 (by omega) (by omega) ?_
  intro v_25 v_25_e v_25_r
  have l_26 : (4 : Int32).toInt = 4 := by decide
  refine ok_st (j := 45) hA_24 (by omega) (by omega) (trivial) ?_
  intro A_27 hA_27 A_27_o A_27_s A_27_n
  have VFA_27 : VMs F A_27 := VFA_24.fr rfl (fun q h1 h2 => A_27_o q (by omega))
  have UFA_27 : SVm F A_27 (ai A_27 48 (42 + x1.toInt)) (ai A_27 54 x1.toInt) := by rw [ai_fr (A_27_o 48 (by decide)), ai_fr (A_27_o 54 (by decide))]; exact UFA_24.fr rfl (A_27_o 19 (by decide)) (A_27_o 22 (by decide))
  have XFA_27 : ai A_27 48 = ai A 48 := (ai_fr (A_27_o 48 (by decide))).trans XFA_24
  have YFA_27 : ∀ q, 8 ≤ q → q ≤ 43 → A_27 q = A q := fun q h1 h2 => (A_27_o q (by omega)).trans (YFA_24 q h1 h2)
  refine ok_ld (j := 55) hA_27 (by omega) (by omega) ?_
  intro v_28 v_28_e v_28_r
  have l_29 : (5 : Int32).toInt = 5 := by decide
  refine ok_st (j := 45) hA_27 (by omega) (by omega) (trivial) ?_
  intro A_30 hA_30 A_30_o A_30_s A_30_n
  have VFA_30 : VMs F A_30 := VFA_27.fr rfl (fun q h1 h2 => A_30_o q (by omega))
  have UFA_30 : SVm F A_30 (ai A_30 48 (42 + x1.toInt)) (ai A_30 54 x1.toInt) := by rw [ai_fr (A_30_o 48 (by decide)), ai_fr (A_30_o 54 (by decide))]; exact UFA_27.fr rfl (A_30_o 19 (by decide)) (A_30_o 22 (by decide))
  have XFA_30 : ai A_30 48 = ai A 48 := (ai_fr (A_30_o 48 (by decide))).trans XFA_27
  have YFA_30 : ∀ q, 8 ≤ q → q ≤ 43 → A_30 q = A q := fun q h1 h2 => (A_30_o q (by omega)).trans (YFA_27 q h1 h2)
  refine ok_pfz hF (by omega) (⟨by omega, by omega⟩) ?_
  intro F_31 hF_31 F_31_k F_31_o
  have VF_31A_30 : VMs F_31 A_30 := VFA_30.fr (F_31_o 18 (by decide)) (fun _ _ _ => rfl)
  have UF_31A_30 : SVm F_31 A_30 (ai A_30 48 (42 + x1.toInt)) (ai A_30 54 x1.toInt) := UFA_30.fr (F_31_o 18 (by decide)) rfl rfl
  have XF_31A_30 : ai A_30 48 = ai A 48 := XFA_30
  have YF_31A_30 : ∀ q, 8 ≤ q → q ≤ 43 → A_30 q = A q := YFA_30
  have hT0 : 0 ≤ ai A_30 54 x1.toInt ∧ ai A_30 54 x1.toInt < ai A_30 22 (6 * (F_31 18).toInt + v_3.toInt) := by rw [w1, ← XF_31A_30]; exact ⟨UF_31A_30.2.2.1, UF_31A_30.2.2.2⟩
  have hb0 : ∀ b, v_8.toInt ≤ b → b < v_9.toInt → LWm A_30 b := fun b h1 h2 => (VFA.2.2.2.2 x1.toInt (by omega) (by omega) b (by omega) (by omega)).fr YF_31A_30
  refine ok_mono (s_d_tells_130 hF_31 hA_30 (VF_31A_30) (hb0) (hT0) (by omega) (by omega) (by omega) (by omega) (by omega)) ?_
  rintro ⟨v_32, F_33, A_34, J_35⟩ ⟨hF_33, hA_34, F_33_o, A_34_o, v_32_p⟩
  dsimp only at hF_33 hA_34 F_33_o A_34_o v_32_p ⊢
  have v_32_p : 0 ≤ v_32.toInt ∧ v_32.toInt < ai A_30 22 (6 * (F_31 18).toInt + v_3.toInt) := v_32_p
  have VF_33A_34 : VMs F_33 A_34 := VF_31A_30.fr (F_33_o 18 (by decide)) (fun q h1 h2 => A_34_o q (by intro e; simp at e <;> omega))
  have z := v_32_p.2
  rw [ai_fr (YF_31A_30 22 (by decide) (by decide)), F_31_o 18 (by decide), w1] at z
  refine ⟨hF_33, hA_34, (fun q hq => ((F_33_o q hq).trans (F_31_o q (fun e => hq (by rw [e]; decide))))), (fun q hq => (((((((A_34_o q (fun e => hq ((by decide : ∀ x, x ∈ ([46] : List Nat) → x ∈ ([45, 46] : List Nat)) q e))).trans (A_30_o q (fun e => hq (by rw [e]; decide)))).trans (A_27_o q (fun e => hq (by rw [e]; decide)))).trans (A_24_o q (fun e => hq (by rw [e]; decide)))).trans (A_22_o q (fun e => hq (by rw [e]; decide)))).trans (A_19_o q (fun e => hq (by rw [e]; decide)))).trans (A_12_o q (fun e => hq (by rw [e]; decide))))), ?_⟩
  exact ⟨v_32_p.1, z⟩
end Qz47
