/-! the heap behind the class's constructor (printed by wip/fresh.py) -/
theorem x_fn {g : Nat → Option Nat} {n b : Nat} (h1 : ∀ i, i < n → g i = some ((b + i) * 1024)) (h2 : ∀ i, n ≤ i → g i = none) : g = fun i => if i < n then some ((b + i) * 1024) else none := by
  funext i
  by_cases hi : i < n
  · rw [if_pos hi]; exact h1 i hi
  · rw [if_neg hi]; exact h2 i (by omega)
theorem x_l3 {l : List gE} {r : Nat} {p : Nat → Nat} {f : Nat → Int32} (h : x_ses l (c_lay3 r p f (fun _ _ => 0) (fun _ _ => 0)) = true) (hv : ∀ i, i < 20 → x_rR (x_d l 1) i = some ((5 + i) * 1024)) (hq : ∀ e, e ∈ l → q_nn e) : l = c_lay3 r p f (fun o => x_rI (x_d l o)) (fun o => x_rJ (x_d l o)) := by
  have h1 := x_ses_put h
  obtain _ | ⟨x0, l⟩ := l
  · exact absurd (show false = true from h) Bool.false_ne_true
  obtain _ | ⟨x1, l⟩ := l
  · exact absurd (show false = true from h) Bool.false_ne_true
  obtain _ | ⟨y, l⟩ := l
  · have e0 : x0 = x_put _ x0 := (List.cons.inj h1).1
    have e1 : x1 = .inl (4, 20, .inr (.inr (.inr (.inr (x_rR x1))))) := (List.cons.inj (List.cons.inj h1).2).1
    have q1 : q_nn x1 := hq x1 (List.mem_cons_of_mem _ List.mem_cons_self)
    rw [e1] at q1
    have q2 := x_fn (g := x_rR x1) hv q1
    rw [q2] at e1
    rw [e1]
    exact congrArg (fun z => z :: [_]) e0
  · exact absurd (show false = true from h) Bool.false_ne_true
theorem x_l5 {l : List gE} {r : Nat} {p : Nat → Nat} {f : Nat → Int32} (h : x_ses l (c_lay5 r p f (fun _ _ => 0) (fun _ _ => 0)) = true) (hv : ∀ i, i < 3 → x_rR (x_d l 0) i = some ((29 + i) * 1024)) (hq : ∀ e, e ∈ l → q_nn e) : l = c_lay5 r p f (fun o => x_rI (x_d l o)) (fun o => x_rJ (x_d l o)) := by
  have h1 := x_ses_put h
  obtain _ | ⟨x1, l⟩ := l
  · exact absurd (show false = true from h) Bool.false_ne_true
  obtain _ | ⟨y, l⟩ := l
  · have e1 : x1 = .inl (4, 3, .inr (.inr (.inr (.inr (x_rR x1))))) := (List.cons.inj h1).1
    have q1 : q_nn x1 := hq x1 List.mem_cons_self
    rw [e1] at q1
    have q2 := x_fn (g := x_rR x1) hv q1
    rw [q2] at e1
    rw [e1]
    rfl
  · exact absurd (show false = true from h) Bool.false_ne_true
theorem x_q0 : q_N x_h0 := by
  intro r e he
  unfold x_h0 at he
  simp only [va_up] at he
  split at he
  · rw [List.mem_singleton.mp he]; exact trivial
  · cases he
def x_sp (f : Nat → List gE) : Prop := f 39 = [] ∧ f 40 = [] ∧ (∀ r, r ∈ x_rs → x_sh f r = true) ∧ x_sh f 4 = true ∧ x_sh f 26 = true ∧ (∀ i, i < 20 → x_rR (x_d (f 4) 1) i = some ((5 + i) * 1024)) ∧ (∀ i, i < 3 → x_rR (x_d (f 26) 0) i = some ((29 + i) * 1024)) ∧ ∀ r e, e ∈ f r → q_nn e
theorem x_all {n : Nat} {g : Nat → Option Nat} {v : Nat → Option Nat} (h : (List.range n).all (fun i => g i == v i) = true) : ∀ i, i < n → g i = v i := by
  intro i hi
  have := List.all_eq_true.mp h i (List.mem_range.mpr hi)
  exact eq_of_beq this
theorem x_ex0 {o : Option (Option Value × gH)} (hk : x_k1 o = true) (hq : ∀ h, o = some (none, h) → q_N h) : ∃ f : Nat → List gE, o = some (none, ((277, 8315), f)) ∧ x_sp f := by
  unfold x_k1 at hk
  split at hk
  next h =>
    have hq := hq h rfl
    obtain ⟨c, f⟩ := h
    simp only [Bool.and_eq_true] at hk
    obtain ⟨⟨⟨⟨⟨⟨⟨k1, k2⟩, k3⟩, k4⟩, k5⟩, k6⟩, k7⟩, k8⟩ := hk
    have k1 := of_decide_eq_true k1
    have k1 : c = _ := k1
    subst k1
    exact ⟨f, rfl, List.isEmpty_iff.mp k2, List.isEmpty_iff.mp k3, fun r hr => List.all_eq_true.mp k4 r hr, k5, k6, x_all k7, x_all k8, hq⟩
  next => cases hk
theorem x_ex : ∃ f : Nat → List gE, x_r1 = some (none, ((277, 8315), f)) ∧ x_sp f := x_ex0 x_ok (fun h hh => q_exec _ _ _ _ _ _ _ _ _ (n_exec_g (t' := x_t) rfl rfl _ _ _ _ _ _ _ _ hh) x_q0)
noncomputable def x_f : Nat → List gE := Classical.choose x_ex
theorem x_f1 : x_r1 = some (none, ((277, 8315), x_f)) := (Classical.choose_spec x_ex).1
theorem x_f2 : x_sp x_f := (Classical.choose_spec x_ex).2
/-- a heap of that shape holds a fresh object of the class -/
theorem x_heap {f : Nat → List gE} (hf : x_sp f) {c : Nat × Nat} : ((c, f) : gH) = c_h c f x_P x_F (fun r o => x_rI (x_d (f r) o)) (fun r o => x_rJ (x_d (f r) o)) := by
  obtain ⟨-, -, h1, h4, h5, h6, h7, h8⟩ := hf
  refine Prod.ext rfl ?_
  funext r
  show f r = c_lay (c_kind r) r (x_P r) (x_F r) (fun o => x_rI (x_d (f r) o)) (fun o => x_rJ (x_d (f r) o)) (f r)
  by_cases hr : 38 ≤ r
  · have hk : c_kind r = 99 := by
      unfold c_kind
      rw [List.getD_eq_getElem?_getD, List.getElem?_eq_none (show c_kds.length ≤ r from hr)]
      rfl
    rw [hk]
    rfl
  · match r, hr with
    | 0, _ => exact x_l0 (r := 0) (p := x_P 0) (f := x_F 0) (h1 0 (by decide))
    | 1, _ => exact x_l1 (r := 1) (p := x_P 1) (f := x_F 1) (h1 1 (by decide))
    | 2, _ => exact x_l2 (r := 2) (p := x_P 2) (f := x_F 2) (h1 2 (by decide))
    | 3, _ => exact x_l2 (r := 3) (p := x_P 3) (f := x_F 3) (h1 3 (by decide))
    | 4, _ => exact x_l3 (r := 4) (p := x_P 4) (f := x_F 4) h4 h6 (h8 4)
    | 5, _ => exact x_l2 (r := 5) (p := x_P 5) (f := x_F 5) (h1 5 (by decide))
    | 6, _ => exact x_l2 (r := 6) (p := x_P 6) (f := x_F 6) (h1 6 (by decide))
    | 7, _ => exact x_l2 (r := 7) (p := x_P 7) (f := x_F 7) (h1 7 (by decide))
    | 8, _ => exact x_l2 (r := 8) (p := x_P 8) (f := x_F 8) (h1 8 (by decide))
    | 9, _ => exact x_l2 (r := 9) (p := x_P 9) (f := x_F 9) (h1 9 (by decide))
    | 10, _ => exact x_l2 (r := 10) (p := x_P 10) (f := x_F 10) (h1 10 (by decide))
    | 11, _ => exact x_l2 (r := 11) (p := x_P 11) (f := x_F 11) (h1 11 (by decide))
    | 12, _ => exact x_l2 (r := 12) (p := x_P 12) (f := x_F 12) (h1 12 (by decide))
    | 13, _ => exact x_l2 (r := 13) (p := x_P 13) (f := x_F 13) (h1 13 (by decide))
    | 14, _ => exact x_l2 (r := 14) (p := x_P 14) (f := x_F 14) (h1 14 (by decide))
    | 15, _ => exact x_l2 (r := 15) (p := x_P 15) (f := x_F 15) (h1 15 (by decide))
    | 16, _ => exact x_l2 (r := 16) (p := x_P 16) (f := x_F 16) (h1 16 (by decide))
    | 17, _ => exact x_l2 (r := 17) (p := x_P 17) (f := x_F 17) (h1 17 (by decide))
    | 18, _ => exact x_l2 (r := 18) (p := x_P 18) (f := x_F 18) (h1 18 (by decide))
    | 19, _ => exact x_l2 (r := 19) (p := x_P 19) (f := x_F 19) (h1 19 (by decide))
    | 20, _ => exact x_l2 (r := 20) (p := x_P 20) (f := x_F 20) (h1 20 (by decide))
    | 21, _ => exact x_l2 (r := 21) (p := x_P 21) (f := x_F 21) (h1 21 (by decide))
    | 22, _ => exact x_l2 (r := 22) (p := x_P 22) (f := x_F 22) (h1 22 (by decide))
    | 23, _ => exact x_l2 (r := 23) (p := x_P 23) (f := x_F 23) (h1 23 (by decide))
    | 24, _ => exact x_l2 (r := 24) (p := x_P 24) (f := x_F 24) (h1 24 (by decide))
    | 25, _ => exact x_l4 (r := 25) (p := x_P 25) (f := x_F 25) (h1 25 (by decide))
    | 26, _ => exact x_l5 (r := 26) (p := x_P 26) (f := x_F 26) h5 h7 (h8 26)
    | 27, _ => exact x_l6 (r := 27) (p := x_P 27) (f := x_F 27) (h1 27 (by decide))
    | 28, _ => exact x_l6 (r := 28) (p := x_P 28) (f := x_F 28) (h1 28 (by decide))
    | 29, _ => exact x_l2 (r := 29) (p := x_P 29) (f := x_F 29) (h1 29 (by decide))
    | 30, _ => exact x_l2 (r := 30) (p := x_P 30) (f := x_F 30) (h1 30 (by decide))
    | 31, _ => exact x_l2 (r := 31) (p := x_P 31) (f := x_F 31) (h1 31 (by decide))
    | 32, _ => exact x_l7 (r := 32) (p := x_P 32) (f := x_F 32) (h1 32 (by decide))
    | 33, _ => exact x_l2 (r := 33) (p := x_P 33) (f := x_F 33) (h1 33 (by decide))
    | 34, _ => exact x_l8 (r := 34) (p := x_P 34) (f := x_F 34) (h1 34 (by decide))
    | 35, _ => exact x_l9 (r := 35) (p := x_P 35) (f := x_F 35) (h1 35 (by decide))
    | 36, _ => exact x_l10 (r := 36) (p := x_P 36) (f := x_F 36) (h1 36 (by decide))
    | 37, _ => exact x_l11 (r := 37) (p := x_P 37) (f := x_F 37) (h1 37 (by decide))
    | n + 38, hr => exact absurd (Nat.le_add_left _ _) hr
