/-! hold: what both sides answer -/
section S9k1
variable {t : gT} {a b : Int} {H : gH} {x1 : Int32}
def VH (x v : Int32) : Prop := (0 ≤ x.toInt ∧ x.toInt < 3 ∧ v.toInt = 1) ∨ ((x.toInt < 0 ∨ 3 ≤ x.toInt) ∧ v.toInt = 0)
theorem VH.eq {x v w : Int32} (h : VH x v) (h' : VH x w) : v.toInt = w.toInt := by
  unfold VH at h h'
  omega
theorem v_cHold {P : Nat → Nat → Nat} {F : Nat → Nat → Int32} {A : Nat → Nat → Nat → Int32} {J : Nat → Nat → Nat → Int64} {w : Int32 × (Nat → Nat → Nat) × (Nat → Nat → Int32) × (Nat → Nat → Nat → Int32) × (Nat → Nat → Nat → Int64)} (h : e_SleepWork_hold P F A J x1 = some w) : VH x1 w.1 := by
  have l0 : (0 : Int32).toInt = 0 := by decide
  have l1 : (1 : Int32).toInt = 1 := by decide
  have l3 : (3 : Int32).toInt = 3 := by decide
  unfold e_SleepWork_hold at h
  cases c : g_cnd .lt x1 0 with
  | true =>
    rw [c, cond_true] at h
    cases h
    rw [i_lt] at c
    exact .inr ⟨.inl (by omega), l0⟩
  | false =>
    rw [c, cond_false] at h
    rw [i_nlt] at c
    cases c2 : g_cnd .lt x1 3 with
    | true =>
      rw [c2, cond_true] at h
      rw [i_lt] at c2
      obtain ⟨q, -, h⟩ := Option.bind_eq_some_iff.mp h
      obtain ⟨u, -, h⟩ := Option.bind_eq_some_iff.mp h
      obtain ⟨F9, -, h⟩ := Option.bind_eq_some_iff.mp h
      cases h
      exact .inl ⟨by omega, by omega, l1⟩
    | false =>
      rw [c2, cond_false] at h
      rw [i_nlt] at c2
      cases h
      exact .inr ⟨.inr (by omega), l0⟩
theorem v_dHold_20 : ∀ {n : Nat} {F : Nat → Int32} {A : Nat → Nat → Int32} {J : Nat → Nat → Int64} {x2 : Int32} {w : Int32 × (Nat → Int32) × (Nat → Nat → Int32) × (Nat → Nat → Int64)}, d_hold_20 n F A J x1 x2 = some w → w.1 = 1 := by
  intro n
  induction n with
  | zero => intro F A J x2 w h; cases h
  | succ n ih =>
    intro F A J x2 w h
    unfold d_hold_20 at h
    cases c : g_cnd .ge x2 100 with
    | true =>
      rw [c, cond_true] at h
      cases h
      rfl
    | false =>
      rw [c, cond_false] at h
      obtain ⟨v, -, h⟩ := Option.bind_eq_some_iff.mp h
      obtain ⟨A6, -, h⟩ := Option.bind_eq_some_iff.mp h
      exact ih h
theorem v_dHold {n : Nat} {F : Nat → Int32} {A : Nat → Nat → Int32} {J : Nat → Nat → Int64} {w : Int32 × (Nat → Int32) × (Nat → Nat → Int32) × (Nat → Nat → Int64)} (h : d_hold n F A J x1 = some w) : VH x1 w.1 := by
  have l0 : (0 : Int32).toInt = 0 := by decide
  have l1 : (1 : Int32).toInt = 1 := by decide
  have l2 : (2 : Int32).toInt = 2 := by decide
  unfold d_hold d_in at h
  cases c : g_cnd .lt x1 0 with
  | true =>
    rw [c] at h
    rw [i_lt] at c
    simp only [cond_true, Option.bind_some] at h
    cases h
    exact .inr ⟨.inl (by omega), l0⟩
  | false =>
    rw [c] at h
    rw [i_nlt] at c
    cases c2 : g_cnd .gt x1 2 with
    | true =>
      rw [c2] at h
      rw [i_gt] at c2
      simp only [cond_true, cond_false, Option.bind_some] at h
      cases h
      exact .inr ⟨.inr (by omega), l0⟩
    | false =>
      rw [c2] at h
      rw [i_ngt] at c2
      simp only [cond_false, Option.bind_some] at h
      rw [show g_cnd .ne (1 : Int32) 0 = true by decide, cond_true] at h
      obtain ⟨A3, -, h⟩ := Option.bind_eq_some_iff.mp h
      rw [v_dHold_20 h]
      exact .inl ⟨by omega, by omega, l1⟩
theorem w_c_holdV (ht : ∀ ci k, t.1 ci k = k_ty ci k) (W : WJ a b H) : kx t 40 135 0 [(0, .ref 0), (1, .int x1)] [] H (fun z => ∃ v H', z = (some (.int v), H') ∧ WJ a b H' ∧ VH x1 v) := by
  obtain ⟨c, B, P, F, A, J, yF, yA, yJ, rfl, G, S, e, s, ha, hb⟩ := W
  obtain ⟨w, hw, G', e'⟩ := s_cHold (J := J) (x1 := x1) G
  obtain ⟨e1, e2⟩ := Prod.mk.inj e'
  exact ⟨_, t_e_SleepWork_hold (d := 39) ht hw, w.1, _, rfl, ⟨c, B, w.2.1, w.2.2.1, w.2.2.2.1, w.2.2.2.2, yF, yA, yJ, rfl, G', S.p e2, e, s, by unfold cf at ha ⊢; rw [e1]; exact ha, hb⟩, v_cHold hw⟩
theorem w_d_holdV (ht : ∀ ci k, t.1 ci k = k_ty ci k) (W : WJ a b H) : kx t 40 237 0 [(0, .ref 40960), (1, .int x1)] [] H (fun z => ∃ v H', z = (some (.int v), H') ∧ WJ a b H' ∧ VH x1 v) := by
  obtain ⟨z, hz, v, b', H', e, W', q⟩ := w_dm (t := t) (M := 237) (loc := [(0, .ref 40960), (1, .int x1)]) (R := fun v b' => b' = b ∧ VH x1 v) W (fun {F A J} S hb => by
    obtain ⟨⟨v, F', A', J'⟩, hw, h1, h2, h3, h4, p3⟩ := s_d_hold (n := 20000) (J := J) (x1 := x1) S.1 S.2.1 (by decide) S.k0.1 S.2.2.2.2.1 S.2.2.2.2.2.2
    have s : SAm F' A' ∧ F' 2 = F 2 := S.of h1 h2 h3 h4 (by decide) (by decide) (S.rv (h3 18 (by decide)) (h4 19 (by decide)) (h4 22 (by decide)) (h4 47 (by decide))) (S.2.2.2.2.2.1.fr (h3 18 (by decide)) (h3 74 (by decide)) (h4 19 (by decide)) (h4 22 (by decide)) (h4 57 (by decide))) (p3)
    exact ⟨v, F', A', J', t_d_hold (d := 39) hw, s.1, (congrArg Int32.toInt s.2).trans hb, v_dHold hw⟩)
  obtain ⟨q1, q2⟩ := q
  subst q1
  exact ⟨z, hz, v, H', e, W', q2⟩
end S9k1
