/-! the heap behind the class's constructor (printed by wip/fresh.py) -/
theorem x_fn {g : Nat → Option Nat} {n b : Nat} (h1 : ∀ i, i < n → g i = some ((b + i) * 1024)) (h2 : ∀ i, n ≤ i → g i = none) : g = fun i => if i < n then some ((b + i) * 1024) else none := by
  funext i
  by_cases hi : i < n
  · rw [if_pos hi]; exact h1 i hi
  · rw [if_neg hi]; exact h2 i (by omega)
theorem x_l3 {l : List gE} {r : Nat} {p : Nat → Nat} {f : Nat → Int32} (h : x_ses l (c_lay3 r p f (fun _ _ => 0) (fun _ _ => 0)) = true) (hv : ∀ i, i < 20 → x_rR (x_d l 1) i = some ((5 + i) * 1024)) (hq : ∀ e, e ∈ l → q_nn e) : l = c_lay3 r p f (fun o => x_rI (x_d l o)) (fun o => x_rJ (x_d l o)) := by
  have h1 := x_ses_put h
  obtain _ | ⟨x0, l⟩ := l
  · exact absurd (show false = true from h) Bool.false_ne_true
  obtain _ | ⟨x1, l⟩ := l
  · exact absurd (show false = true from h) Bool.false_ne_true
  obtain _ | ⟨y, l⟩ := l
  · have e0 : x0 = x_put _ x0 := (List.cons.inj h1).1
    have e1 : x1 = .inl (4, 20, .inr (.inr (.inr (.inr (x_rR x1))))) := (List.cons.inj (List.cons.inj h1).2).1
    have q1 : q_nn x1 := hq x1 (List.mem_cons_of_mem _ List.mem_cons_self)
    rw [e1] at q1
    have q2 := x_fn (g := x_rR x1) hv q1
    rw [q2] at e1
    rw [e1]
    exact congrArg (fun z => z :: [_]) e0
  · exact absurd (show false = true from h) Bool.false_ne_true
theorem x_l5 {l : List gE} {r : Nat} {p : Nat → Nat} {f : Nat → Int32} (h : x_ses l (c_lay5 r p f (fun _ _ => 0) (fun _ _ => 0)) = true) (hv : ∀ i, i < 3 → x_rR (x_d l 0) i = some ((29 + i) * 1024)) (hq : ∀ e, e ∈ l → q_nn e) : l = c_lay5 r p f (fun o => x_rI (x_d l o)) (fun o => x_rJ (x_d l o)) := by
  have h1 := x_ses_put h
  obtain _ | ⟨x1, l⟩ := l
  · exact absurd (show false = true from h) Bool.false_ne_true
  obtain _ | ⟨y, l⟩ := l
  · have e1 : x1 = .inl (4, 3, .inr (.inr (.inr (.inr (x_rR x1))))) := (List.cons.inj h1).1
    have q1 : q_nn x1 := hq x1 List.mem_cons_self
    rw [e1] at q1
    have q2 := x_fn (g := x_rR x1) hv q1
    rw [q2] at e1
    rw [e1]
    rfl
  · exact absurd (show false = true from h) Bool.false_ne_true
theorem x_ses_d : ∀ {l m : List gE}, x_ses l m = true → ∀ o, o < m.length → x_se (x_d l o) (x_d m o) = true ∧ x_d l o ∈ l
  | [], [], _, o, ho => absurd ho (Nat.not_lt_zero _)
  | x :: l, e :: m, h, 0, _ => by
    have h : (x_ses l m && x_se x e) = true := h
    rw [Bool.and_eq_true] at h
    exact ⟨h.2, List.mem_cons_self⟩
  | x :: l, e :: m, h, o + 1, ho => by
    have h : (x_ses l m && x_se x e) = true := h
    rw [Bool.and_eq_true] at h
    obtain ⟨h1, h2⟩ := x_ses_d h.1 o (Nat.lt_of_succ_lt_succ ho)
    exact ⟨h1, List.mem_cons_of_mem _ h2⟩
  | [], _ :: _, h, _, _ => absurd (show false = true from h) Bool.false_ne_true
  | _ :: _, [], h, _, _ => absurd (show false = true from h) Bool.false_ne_true
def x_isI (e : gE) (n : Nat) : Bool := match e with
  | .inl (_, n', .inl _) => decide (n' = n)
  | _ => false
theorem x_isI0 {x e : gE} {n : Nat} (hs : x_se x e = true) (hi : x_isI e n = true) (hq : q_nn x) : ∀ i, n ≤ i → x_rI x i = 0 := by
  unfold x_isI at hi
  split at hi
  next t n' g =>
    have hn := of_decide_eq_true hi
    subst hn
    have e1 : x = .inl (t, n', .inl (x_rI x)) := x_se_put hs
    rw [e1] at hq
    exact hq
  next => cases hi
theorem y_A0 (o i : Nat) (hi : 2 ≤ i) : y_A o i = 0 := by
  unfold y_A
  cases Nat.beq o 41 with
  | true => simp only [cond_true, upd]; rw [if_neg (by omega)]
  | false =>
    simp only [cond_false]
theorem y_Lok : y_L.all (fun q => x_isI (x_d (m_cells y_F y_A (fun _ _ => 0)) q.1) q.2 && decide (q.1 < 63 ∧ 2 ≤ q.2)) = true := by decide +kernel
theorem m_congr {F : Nat → Int32} {A A' : Nat → Nat → Int32} {J : Nat → Nat → Int64} (h : ∀ q : Nat × Nat, q ∈ y_L → A q.1 = A' q.1) : m_cells F A J = m_cells F A' J := by
  have e1 : A 1 = A' 1 := h (1, 2000) (by decide)
  have e2 : A 2 = A' 2 := h (2, 2000) (by decide)
  have e3 : A 3 = A' 3 := h (3, 403) (by decide)
  have e4 : A 4 = A' 4 := h (4, 403) (by decide)
  have e5 : A 5 = A' 5 := h (5, 403) (by decide)
  have e9 : A 9 = A' 9 := h (9, 32) (by decide)
  have e10 : A 10 = A' 10 := h (10, 32) (by decide)
  have e11 : A 11 = A' 11 := h (11, 2) (by decide)
  have e12 : A 12 = A' 12 := h (12, 2) (by decide)
  have e13 : A 13 = A' 13 := h (13, 24) (by decide)
  have e14 : A 14 = A' 14 := h (14, 24) (by decide)
  have e15 : A 15 = A' 15 := h (15, 24) (by decide)
  have e16 : A 16 = A' 16 := h (16, 24) (by decide)
  have e17 : A 17 = A' 17 := h (17, 2) (by decide)
  have e18 : A 18 = A' 18 := h (18, 12) (by decide)
  have e19 : A 19 = A' 19 := h (19, 2) (by decide)
  have e20 : A 20 = A' 20 := h (20, 12) (by decide)
  have e21 : A 21 = A' 21 := h (21, 12) (by decide)
  have e22 : A 22 = A' 22 := h (22, 12) (by decide)
  have e23 : A 23 = A' 23 := h (23, 72) (by decide)
  have e24 : A 24 = A' 24 := h (24, 72) (by decide)
  have e25 : A 25 = A' 25 := h (25, 72) (by decide)
  have e26 : A 26 = A' 26 := h (26, 72) (by decide)
  have e27 : A 27 = A' 27 := h (27, 72) (by decide)
  have e28 : A 28 = A' 28 := h (28, 72) (by decide)
  have e29 : A 29 = A' 29 := h (29, 2) (by decide)
  have e30 : A 30 = A' 30 := h (30, 12) (by decide)
  have e31 : A 31 = A' 31 := h (31, 12) (by decide)
  have e32 : A 32 = A' 32 := h (32, 12) (by decide)
  have e33 : A 33 = A' 33 := h (33, 2) (by decide)
  have e34 : A 34 = A' 34 := h (34, 12) (by decide)
  have e35 : A 35 = A' 35 := h (35, 12) (by decide)
  have e36 : A 36 = A' 36 := h (36, 100) (by decide)
  have e37 : A 37 = A' 37 := h (37, 100) (by decide)
  have e38 : A 38 = A' 38 := h (38, 100) (by decide)
  have e39 : A 39 = A' 39 := h (39, 100) (by decide)
  have e40 : A 40 = A' 40 := h (40, 100) (by decide)
  have e41 : A 41 = A' 41 := h (41, 2) (by decide)
  have e42 : A 42 = A' 42 := h (42, 840) (by decide)
  have e43 : A 43 = A' 43 := h (43, 840) (by decide)
  have e44 : A 44 = A' 44 := h (44, 64) (by decide)
  have e45 : A 45 = A' 45 := h (45, 6) (by decide)
  have e46 : A 46 = A' 46 := h (46, 400) (by decide)
  have e47 : A 47 = A' 47 := h (47, 100) (by decide)
  have e48 : A 48 = A' 48 := h (48, 100) (by decide)
  have e49 : A 49 = A' 49 := h (49, 64) (by decide)
  have e50 : A 50 = A' 50 := h (50, 6) (by decide)
  have e51 : A 51 = A' 51 := h (51, 6) (by decide)
  have e52 : A 52 = A' 52 := h (52, 6) (by decide)
  have e53 : A 53 = A' 53 := h (53, 6) (by decide)
  have e54 : A 54 = A' 54 := h (54, 6) (by decide)
  have e55 : A 55 = A' 55 := h (55, 6) (by decide)
  have e56 : A 56 = A' 56 := h (56, 6) (by decide)
  have e57 : A 57 = A' 57 := h (57, 2000) (by decide)
  have e58 : A 58 = A' 58 := h (58, 30) (by decide)
  have e59 : A 59 = A' 59 := h (59, 30) (by decide)
  have e60 : A 60 = A' 60 := h (60, 30) (by decide)
  have e61 : A 61 = A' 61 := h (61, 3) (by decide)
  have e62 : A 62 = A' 62 := h (62, 300) (by decide)
  unfold m_cells
  rw [e1, e2, e3, e4, e5, e9, e10, e11, e12, e13, e14, e15, e16, e17, e18, e19, e20, e21, e22, e23, e24, e25, e26, e27, e28, e29, e30, e31, e32, e33, e34, e35, e36, e37, e38, e39, e40, e41, e42, e43, e44, e45, e46, e47, e48, e49, e50, e51, e52, e53, e54, e55, e56, e57, e58, e59, e60, e61, e62]
theorem x_lm0 {l : List gE} (h : x_ses l (m_cells y_F y_A (fun _ _ => 0)) = true) : l = m_cells y_F (fun o => x_rI (x_d l o)) (fun o => x_rJ (x_d l o)) := by
  have h1 := x_ses_put h
  obtain _ | ⟨x0, l⟩ := l
  · exact absurd (show false = true from h) Bool.false_ne_true
  obtain _ | ⟨x1, l⟩ := l
  · exact absurd (show false = true from h) Bool.false_ne_true
  obtain _ | ⟨x2, l⟩ := l
  · exact absurd (show false = true from h) Bool.false_ne_true
  obtain _ | ⟨x3, l⟩ := l
  · exact absurd (show false = true from h) Bool.false_ne_true
  obtain _ | ⟨x4, l⟩ := l
  · exact absurd (show false = true from h) Bool.false_ne_true
  obtain _ | ⟨x5, l⟩ := l
  · exact absurd (show false = true from h) Bool.false_ne_true
  obtain _ | ⟨x6, l⟩ := l
  · exact absurd (show false = true from h) Bool.false_ne_true
  obtain _ | ⟨x7, l⟩ := l
  · exact absurd (show false = true from h) Bool.false_ne_true
  obtain _ | ⟨x8, l⟩ := l
  · exact absurd (show false = true from h) Bool.false_ne_true
  obtain _ | ⟨x9, l⟩ := l
  · exact absurd (show false = true from h) Bool.false_ne_true
  obtain _ | ⟨x10, l⟩ := l
  · exact absurd (show false = true from h) Bool.false_ne_true
  obtain _ | ⟨x11, l⟩ := l
  · exact absurd (show false = true from h) Bool.false_ne_true
  obtain _ | ⟨x12, l⟩ := l
  · exact absurd (show false = true from h) Bool.false_ne_true
  obtain _ | ⟨x13, l⟩ := l
  · exact absurd (show false = true from h) Bool.false_ne_true
  obtain _ | ⟨x14, l⟩ := l
  · exact absurd (show false = true from h) Bool.false_ne_true
  obtain _ | ⟨x15, l⟩ := l
  · exact absurd (show false = true from h) Bool.false_ne_true
  obtain _ | ⟨x16, l⟩ := l
  · exact absurd (show false = true from h) Bool.false_ne_true
  obtain _ | ⟨x17, l⟩ := l
  · exact absurd (show false = true from h) Bool.false_ne_true
  obtain _ | ⟨x18, l⟩ := l
  · exact absurd (show false = true from h) Bool.false_ne_true
  obtain _ | ⟨x19, l⟩ := l
  · exact absurd (show false = true from h) Bool.false_ne_true
  obtain _ | ⟨x20, l⟩ := l
  · exact absurd (show false = true from h) Bool.false_ne_true
  obtain _ | ⟨x21, l⟩ := l
  · exact absurd (show false = true from h) Bool.false_ne_true
  obtain _ | ⟨x22, l⟩ := l
  · exact absurd (show false = true from h) Bool.false_ne_true
  obtain _ | ⟨x23, l⟩ := l
  · exact absurd (show false = true from h) Bool.false_ne_true
  obtain _ | ⟨x24, l⟩ := l
  · exact absurd (show false = true from h) Bool.false_ne_true
  obtain _ | ⟨x25, l⟩ := l
  · exact absurd (show false = true from h) Bool.false_ne_true
  obtain _ | ⟨x26, l⟩ := l
  · exact absurd (show false = true from h) Bool.false_ne_true
  obtain _ | ⟨x27, l⟩ := l
  · exact absurd (show false = true from h) Bool.false_ne_true
  obtain _ | ⟨x28, l⟩ := l
  · exact absurd (show false = true from h) Bool.false_ne_true
  obtain _ | ⟨x29, l⟩ := l
  · exact absurd (show false = true from h) Bool.false_ne_true
  obtain _ | ⟨x30, l⟩ := l
  · exact absurd (show false = true from h) Bool.false_ne_true
  obtain _ | ⟨x31, l⟩ := l
  · exact absurd (show false = true from h) Bool.false_ne_true
  obtain _ | ⟨x32, l⟩ := l
  · exact absurd (show false = true from h) Bool.false_ne_true
  obtain _ | ⟨x33, l⟩ := l
  · exact absurd (show false = true from h) Bool.false_ne_true
  obtain _ | ⟨x34, l⟩ := l
  · exact absurd (show false = true from h) Bool.false_ne_true
  obtain _ | ⟨x35, l⟩ := l
  · exact absurd (show false = true from h) Bool.false_ne_true
  obtain _ | ⟨x36, l⟩ := l
  · exact absurd (show false = true from h) Bool.false_ne_true
  obtain _ | ⟨x37, l⟩ := l
  · exact absurd (show false = true from h) Bool.false_ne_true
  obtain _ | ⟨x38, l⟩ := l
  · exact absurd (show false = true from h) Bool.false_ne_true
  obtain _ | ⟨x39, l⟩ := l
  · exact absurd (show false = true from h) Bool.false_ne_true
  obtain _ | ⟨x40, l⟩ := l
  · exact absurd (show false = true from h) Bool.false_ne_true
  obtain _ | ⟨x41, l⟩ := l
  · exact absurd (show false = true from h) Bool.false_ne_true
  obtain _ | ⟨x42, l⟩ := l
  · exact absurd (show false = true from h) Bool.false_ne_true
  obtain _ | ⟨x43, l⟩ := l
  · exact absurd (show false = true from h) Bool.false_ne_true
  obtain _ | ⟨x44, l⟩ := l
  · exact absurd (show false = true from h) Bool.false_ne_true
  obtain _ | ⟨x45, l⟩ := l
  · exact absurd (show false = true from h) Bool.false_ne_true
  obtain _ | ⟨x46, l⟩ := l
  · exact absurd (show false = true from h) Bool.false_ne_true
  obtain _ | ⟨x47, l⟩ := l
  · exact absurd (show false = true from h) Bool.false_ne_true
  obtain _ | ⟨x48, l⟩ := l
  · exact absurd (show false = true from h) Bool.false_ne_true
  obtain _ | ⟨x49, l⟩ := l
  · exact absurd (show false = true from h) Bool.false_ne_true
  obtain _ | ⟨x50, l⟩ := l
  · exact absurd (show false = true from h) Bool.false_ne_true
  obtain _ | ⟨x51, l⟩ := l
  · exact absurd (show false = true from h) Bool.false_ne_true
  obtain _ | ⟨x52, l⟩ := l
  · exact absurd (show false = true from h) Bool.false_ne_true
  obtain _ | ⟨x53, l⟩ := l
  · exact absurd (show false = true from h) Bool.false_ne_true
  obtain _ | ⟨x54, l⟩ := l
  · exact absurd (show false = true from h) Bool.false_ne_true
  obtain _ | ⟨x55, l⟩ := l
  · exact absurd (show false = true from h) Bool.false_ne_true
  obtain _ | ⟨x56, l⟩ := l
  · exact absurd (show false = true from h) Bool.false_ne_true
  obtain _ | ⟨x57, l⟩ := l
  · exact absurd (show false = true from h) Bool.false_ne_true
  obtain _ | ⟨x58, l⟩ := l
  · exact absurd (show false = true from h) Bool.false_ne_true
  obtain _ | ⟨x59, l⟩ := l
  · exact absurd (show false = true from h) Bool.false_ne_true
  obtain _ | ⟨x60, l⟩ := l
  · exact absurd (show false = true from h) Bool.false_ne_true
  obtain _ | ⟨x61, l⟩ := l
  · exact absurd (show false = true from h) Bool.false_ne_true
  obtain _ | ⟨x62, l⟩ := l
  · exact absurd (show false = true from h) Bool.false_ne_true
  obtain _ | ⟨y, l⟩ := l
  · exact h1
  · exact absurd (show false = true from h) Bool.false_ne_true
theorem x_lm {l : List gE} (h : x_ses l (m_cells y_F y_A (fun _ _ => 0)) = true) (hA : ∀ q : Nat × Nat, q ∈ y_L → ∀ i, i < q.2 → x_rI (x_d l q.1) i = y_A q.1 i) (hq : ∀ e, e ∈ l → q_nn e) : l = m_cells y_F y_A (fun o => x_rJ (x_d l o)) := by
  refine (x_lm0 h).trans (m_congr ?_)
  intro q hm
  have hk := List.all_eq_true.mp y_Lok q hm
  rw [Bool.and_eq_true] at hk
  have hk2 := of_decide_eq_true hk.2
  obtain ⟨h1, h2⟩ := x_ses_d h q.1 hk2.1
  funext i
  by_cases hi : i < q.2
  · exact hA q hm i hi
  · rw [y_A0 _ _ (by omega)]
    exact x_isI0 h1 hk.1 (hq _ h2) i (by omega)
theorem x_q0 : q_N x_h0 := by
  intro r e he
  unfold x_h0 at he
  simp only [va_up] at he
  split at he
  · rw [List.mem_singleton.mp he]; exact trivial
  · cases he
theorem x_q1 {f : Nat → List gE} (hq : ∀ r e, e ∈ f r → q_nn e) : q_N (x_h1 f) := by
  intro r e he
  unfold x_h1 at he
  simp only [va_up] at he
  split at he
  · rw [List.mem_singleton.mp he]; exact trivial
  · exact hq _ _ he
def x_sp (f : Nat → List gE) : Prop := f 39 = [] ∧ (∀ r, r ∈ x_rs → x_sh f r = true) ∧ x_sh f 4 = true ∧ x_sh f 26 = true ∧ (∀ i, i < 20 → x_rR (x_d (f 4) 1) i = some ((5 + i) * 1024)) ∧ (∀ i, i < 3 → x_rR (x_d (f 26) 0) i = some ((29 + i) * 1024)) ∧ (∀ r e, e ∈ f r → q_nn e) ∧ f 40 = m_cells y_F y_A (fun o => x_rJ (x_d (f 40) o))
theorem x_all {n : Nat} {g : Nat → Option Nat} {v : Nat → Option Nat} (h : (List.range n).all (fun i => g i == v i) = true) : ∀ i, i < n → g i = v i := by
  intro i hi
  have := List.all_eq_true.mp h i (List.mem_range.mpr hi)
  exact eq_of_beq this
theorem x_ex1 {o : Option (Option Value × gH)} (hk : x_k1 o = true) : ∃ f : Nat → List gE, o = some (none, ((277, 8315), f)) ∧ f 40 = [] := by
  unfold x_k1 at hk
  split at hk
  next h =>
    obtain ⟨c, f⟩ := h
    simp only [Bool.and_eq_true] at hk
    obtain ⟨k1, k2⟩ := hk
    have k1 : c = _ := of_decide_eq_true k1
    subst k1
    exact ⟨f, rfl, List.isEmpty_iff.mp k2⟩
  next => cases hk
theorem x_ex2 {o : Option (Option Value × gH)} (hk : x_k2 o = true) (hq : ∀ h, o = some (none, h) → q_N h) : ∃ f : Nat → List gE, o = some (none, ((340, 20126), f)) ∧ x_sp f := by
  unfold x_k2 at hk
  split at hk
  next h =>
    have hq := hq h rfl
    obtain ⟨c, f⟩ := h
    simp only [Bool.and_eq_true] at hk
    obtain ⟨⟨⟨⟨⟨⟨⟨⟨k1, k2⟩, k4⟩, k5⟩, k6⟩, k7⟩, k8⟩, k9⟩, k10⟩ := hk
    have k1 : c = _ := of_decide_eq_true k1
    subst k1
    refine ⟨f, rfl, List.isEmpty_iff.mp k2, fun r hr => List.all_eq_true.mp k4 r hr, k5, k6, x_all k7, x_all k8, hq, ?_⟩
    refine x_lm k9 (fun q hm i hi => ?_) (hq 40)
    exact of_decide_eq_true (List.all_eq_true.mp (List.all_eq_true.mp k10 q hm) i (List.mem_range.mpr hi))
  next => cases hk
theorem x_ex : ∃ f1 f : Nat → List gE, x_r1 = some (none, ((277, 8315), f1)) ∧ f1 40 = [] ∧ n_exec x_t c_lg 4000 40 138 0 [(0, .ref 40960)] [] (x_h1 f1) = some (none, ((340, 20126), f)) ∧ x_sp f := by
  have hk := x_ok
  rw [Bool.and_eq_true] at hk
  obtain ⟨f1, e1, e2⟩ := x_ex1 hk.1
  have hk2 := hk.2
  rw [e1] at hk2
  have q1 : q_N ((277, 8315), f1) := q_run (n_run (t' := x_t) rfl rfl _ _ _ _ _ _ _ _ e1) x_q0
  obtain ⟨f, e3, e4⟩ := x_ex2 hk2 (fun h hh => q_run (n_run (t' := x_t) rfl rfl _ _ _ _ _ _ _ _ hh) (x_q1 q1))
  exact ⟨f1, f, e1, e2, e3, e4⟩
noncomputable def x_f1 : Nat → List gE := Classical.choose x_ex
noncomputable def x_f : Nat → List gE := Classical.choose (Classical.choose_spec x_ex)
theorem x_f_1 : x_r1 = some (none, ((277, 8315), x_f1)) := (Classical.choose_spec (Classical.choose_spec x_ex)).1
theorem x_f_2 : x_f1 40 = [] := (Classical.choose_spec (Classical.choose_spec x_ex)).2.1
theorem x_f_3 : n_exec x_t c_lg 4000 40 138 0 [(0, .ref 40960)] [] (x_h1 x_f1) = some (none, ((340, 20126), x_f)) := (Classical.choose_spec (Classical.choose_spec x_ex)).2.2.1
theorem x_f_4 : x_sp x_f := (Classical.choose_spec (Classical.choose_spec x_ex)).2.2.2
/-- a heap of that shape holds a fresh object of the class -/
theorem x_heap {f : Nat → List gE} (hf : x_sp f) {c : Nat × Nat} : ((c, f) : gH) = c_h c f x_P x_F (fun r o => x_rI (x_d (f r) o)) (fun r o => x_rJ (x_d (f r) o)) := by
  obtain ⟨-, h1, h4, h5, h6, h7, h8, -⟩ := hf
  refine Prod.ext rfl ?_
  funext r
  show f r = c_lay (c_kind r) r (x_P r) (x_F r) (fun o => x_rI (x_d (f r) o)) (fun o => x_rJ (x_d (f r) o)) (f r)
  by_cases hr : 38 ≤ r
  · have hk : c_kind r = 99 := by
      unfold c_kind
      rw [List.getD_eq_getElem?_getD, List.getElem?_eq_none (show c_kds.length ≤ r from hr)]
      rfl
    rw [hk]
    rfl
  · match r, hr with
    | 0, _ => exact x_l0 (r := 0) (p := x_P 0) (f := x_F 0) (h1 0 (by decide))
    | 1, _ => exact x_l1 (r := 1) (p := x_P 1) (f := x_F 1) (h1 1 (by decide))
    | 2, _ => exact x_l2 (r := 2) (p := x_P 2) (f := x_F 2) (h1 2 (by decide))
    | 3, _ => exact x_l2 (r := 3) (p := x_P 3) (f := x_F 3) (h1 3 (by decide))
    | 4, _ => exact x_l3 (r := 4) (p := x_P 4) (f := x_F 4) h4 h6 (h8 4)
    | 5, _ => exact x_l2 (r := 5) (p := x_P 5) (f := x_F 5) (h1 5 (by decide))
    | 6, _ => exact x_l2 (r := 6) (p := x_P 6) (f := x_F 6) (h1 6 (by decide))
    | 7, _ => exact x_l2 (r := 7) (p := x_P 7) (f := x_F 7) (h1 7 (by decide))
    | 8, _ => exact x_l2 (r := 8) (p := x_P 8) (f := x_F 8) (h1 8 (by decide))
    | 9, _ => exact x_l2 (r := 9) (p := x_P 9) (f := x_F 9) (h1 9 (by decide))
    | 10, _ => exact x_l2 (r := 10) (p := x_P 10) (f := x_F 10) (h1 10 (by decide))
    | 11, _ => exact x_l2 (r := 11) (p := x_P 11) (f := x_F 11) (h1 11 (by decide))
    | 12, _ => exact x_l2 (r := 12) (p := x_P 12) (f := x_F 12) (h1 12 (by decide))
    | 13, _ => exact x_l2 (r := 13) (p := x_P 13) (f := x_F 13) (h1 13 (by decide))
    | 14, _ => exact x_l2 (r := 14) (p := x_P 14) (f := x_F 14) (h1 14 (by decide))
    | 15, _ => exact x_l2 (r := 15) (p := x_P 15) (f := x_F 15) (h1 15 (by decide))
    | 16, _ => exact x_l2 (r := 16) (p := x_P 16) (f := x_F 16) (h1 16 (by decide))
    | 17, _ => exact x_l2 (r := 17) (p := x_P 17) (f := x_F 17) (h1 17 (by decide))
    | 18, _ => exact x_l2 (r := 18) (p := x_P 18) (f := x_F 18) (h1 18 (by decide))
    | 19, _ => exact x_l2 (r := 19) (p := x_P 19) (f := x_F 19) (h1 19 (by decide))
    | 20, _ => exact x_l2 (r := 20) (p := x_P 20) (f := x_F 20) (h1 20 (by decide))
    | 21, _ => exact x_l2 (r := 21) (p := x_P 21) (f := x_F 21) (h1 21 (by decide))
    | 22, _ => exact x_l2 (r := 22) (p := x_P 22) (f := x_F 22) (h1 22 (by decide))
    | 23, _ => exact x_l2 (r := 23) (p := x_P 23) (f := x_F 23) (h1 23 (by decide))
    | 24, _ => exact x_l2 (r := 24) (p := x_P 24) (f := x_F 24) (h1 24 (by decide))
    | 25, _ => exact x_l4 (r := 25) (p := x_P 25) (f := x_F 25) (h1 25 (by decide))
    | 26, _ => exact x_l5 (r := 26) (p := x_P 26) (f := x_F 26) h5 h7 (h8 26)
    | 27, _ => exact x_l6 (r := 27) (p := x_P 27) (f := x_F 27) (h1 27 (by decide))
    | 28, _ => exact x_l6 (r := 28) (p := x_P 28) (f := x_F 28) (h1 28 (by decide))
    | 29, _ => exact x_l2 (r := 29) (p := x_P 29) (f := x_F 29) (h1 29 (by decide))
    | 30, _ => exact x_l2 (r := 30) (p := x_P 30) (f := x_F 30) (h1 30 (by decide))
    | 31, _ => exact x_l2 (r := 31) (p := x_P 31) (f := x_F 31) (h1 31 (by decide))
    | 32, _ => exact x_l7 (r := 32) (p := x_P 32) (f := x_F 32) (h1 32 (by decide))
    | 33, _ => exact x_l2 (r := 33) (p := x_P 33) (f := x_F 33) (h1 33 (by decide))
    | 34, _ => exact x_l8 (r := 34) (p := x_P 34) (f := x_F 34) (h1 34 (by decide))
    | 35, _ => exact x_l9 (r := 35) (p := x_P 35) (f := x_F 35) (h1 35 (by decide))
    | 36, _ => exact x_l10 (r := 36) (p := x_P 36) (f := x_F 36) (h1 36 (by decide))
    | 37, _ => exact x_l11 (r := 37) (p := x_P 37) (f := x_F 37) (h1 37 (by decide))
    | n + 38, hr => exact absurd (Nat.le_add_left _ _) hr
