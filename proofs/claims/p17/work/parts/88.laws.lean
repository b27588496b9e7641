/-! the class: what a law tells -/
section L88
variable {P : Nat → Nat → Nat} {F : Nat → Nat → Int32} {A0 : Nat → Nat → Nat → Int32} {J : Nat → Nat → Nat → Int64} {r0 : Nat}
theorem s_joined {A : Nat → Nat → Nat → Int32} {x0 x1 x2 : Int32} : ok (e_Laws_joined P F A J x0 x1 x2) (fun _ => True) := by
  have l0 : (0 : Int32).toInt = 0 := by decide
  unfold e_Laws_joined
  refine ok_cond (fun _ => ok_some trivial) (fun _ => ?_)
  refine ok_cond (fun _ => ok_some trivial) (fun _ => ?_)
  refine ok_cond (fun _ => ?_) (fun _ => ?_)
  · refine ok_cond (fun c => ?_) (fun _ => ok_some trivial)
    rw [i_ne] at c
    exact ok_div1 (by omega) (fun _ _ => ok_some trivial)
  · refine ok_cond (fun _ => ok_some trivial) (fun _ => ?_)
    refine ok_cond (fun c => ?_) (fun _ => ok_some trivial)
    rw [i_ne] at c
    exact ok_div1 (by omega) (fun _ _ => ok_some trivial)
/-- only the stack of the laws has changed -/
def LKc (A A' : Nat → Nat → Nat → Int32) (r0 : Nat) : Prop := ∀ r o, ¬ (r = r0 ∧ o = 17) → A' r o = A r o
theorem LKc.rc {A A' : Nat → Nat → Nat → Int32} (w : LKc A A' r0) (hk : c_kind r0 = 6) (R : Rc F A) : Rc F A' := by
  refine ⟨R.1, fun r o i hi => ?_⟩
  by_cases e : r = r0 ∧ o = 17
  · obtain ⟨rfl, rfl⟩ := e
    rw [hk]
    exact trivial
  · rw [ci_fr (w r o e)]
    exact R.2 r o i hi
def TLc (P : Nat → Nat → Nat) (F : Nat → Nat → Int32) (A : Nat → Nat → Nat → Int32) (r0 : Nat) (r : Int32 × (Nat → Nat → Nat) × (Nat → Nat → Int32) × (Nat → Nat → Nat → Int32) × (Nat → Nat → Nat → Int64)) : Prop := r.2.1 = P ∧ r.2.2.1 = F ∧ LKc A r.2.2.2.1 r0
theorem s_tellsTo_13 (hk : c_kind r0 = 6) (R : Rc F A0) (H : ∀ i, 0 ≤ i → i < cf F r0 1304 → ci A0 r0 15 i = 2 → 0 ≤ ci A0 r0 16 i ∧ ci A0 r0 16 i ≤ 5) : ∀ {n : Nat} {A : Nat → Nat → Nat → Int32} {J : Nat → Nat → Nat → Int64} {x3 x4 x5 : Int32}, LKc A0 A r0 → -1 ≤ x4.toInt ∧ x4.toInt ≤ 31 → 0 ≤ x5.toInt ∧ x5.toInt ≤ 400 → 402 - x5.toInt < (n : Int) → ok (e_Laws_tellsTo_13 n P F A J r0 x3 x4 x5) (TLc P F A0 r0) := by
  intro n
  induction n with
  | zero => intro A J x3 x4 x5 w h4 h5 hn; exact absurd hn (by omega)
  | succ n ih =>
    intro A J x3 x4 x5 w h4 h5 hn
    have l0 : (0 : Int32).toInt = 0 := by decide
    have l1 : (1 : Int32).toInt = 1 := by decide
    have l2 : (2 : Int32).toInt = 2 := by decide
    have lm : (-1 : Int32).toInt = -1 := by decide
    have l32 : (Int32.ofNat 32).toInt = 32 := by decide
    have rl : 0 ≤ (F r0 1304).toInt ∧ (F r0 1304).toInt ≤ 400 := by have := R.1 r0 1304; rw [hk] at this; exact this
    have fin : ∀ {v : Int32} {A J}, LKc A0 A r0 → ok (some (v, P, F, A, J)) (TLc P F A0 r0) := fun w => ok_some ⟨rfl, rfl, w⟩
    have f0 : ∀ {A J}, LKc A0 A r0 → ok ((m_ld (A 36 9) 6 0).bind fun v17 => some (v17, P, F, A, J)) (TLc P F A0 r0) := fun w => ok_ldn (by decide) (by decide) (fun v => fin w)
    have f233 : ok (e_Laws_tellsTo_233 n P F A J r0) (TLc P F A0 r0) := by unfold e_Laws_tellsTo_233; exact f0 w
    have f153 : ok (e_Laws_tellsTo_153 n P F A J r0) (TLc P F A0 r0) := by unfold e_Laws_tellsTo_153; exact f0 w
    have e5 := i_add (x := x5) (y := 1) (by omega) (by omega)
    have st : ∀ {A A' : Nat → Nat → Nat → Int32} {i v : Int}, LKc A0 A r0 → CUm A A' r0 17 i v → LKc A0 A' r0 := fun w U r o hr => (U.2.2 r o hr).trans (w r o hr)
    unfold e_Laws_tellsTo_13
    refine ok_cond (fun _ => f233) (fun c1 => ?_)
    rw [i_nge] at c1
    refine ok_cond (fun _ => f233) (fun c2 => ?_)
    rw [i_nlt] at c2
    refine ok_cond (fun _ => f233) (fun c3 => ?_)
    rw [i_nge] at c3
    have go : ∀ {A J} {y3 y4 : Int32}, LKc A0 A r0 → -1 ≤ y4.toInt ∧ y4.toInt ≤ 31 → ok (e_Laws_tellsTo_13 n P F A J r0 y3 y4 (x5 + 1)) (TLc P F A0 r0) := fun w h => ih w h (by omega) (by omega)
    have RA := w.rc hk R
    have x15 : A r0 15 = A0 r0 15 := w r0 15 (by simp)
    have x16 : A r0 16 = A0 r0 16 := w r0 16 (by simp)
    refine ok_ldc RA hk (by omega) (by omega) ?_
    intro v5 v5e _
    refine ok_ldc RA hk (by omega) (by omega) ?_
    intro v6 v6e _
    rw [ci_fr x15] at v5e
    rw [ci_fr x16] at v6e
    have hv := H x3.toInt c2 c3
    have g88 : (v5.toInt = 1 ∨ v5.toInt = 2) → ok (e_Laws_tellsTo_88 (e_Laws_tellsTo_13 n) n P F A J r0 (x3 + 1) x4 x5 v5 v6) (TLc P F A0 r0) := by
      intro h12
      have e4 := i_add (x := x4) (y := 1) (by omega) (by omega)
      unfold e_Laws_tellsTo_88
      refine ok_cond (fun d1 => ?_) (fun _ => f0 w)
      rw [i_lt] at d1
      refine ok_cond (fun d2 => ?_) (fun _ => ?_)
      · rw [i_ne] at d2
        have h2 : ci A0 r0 15 x3.toInt = 2 := by omega
        have h6 := hv h2
        refine ok_ldn (by omega) (by omega) (fun v20 => ?_)
        refine ok_cst (by omega) (by omega) ?_
        intro A2 U2
        unfold e_Laws_tellsTo_227
        exact go (st w U2) (by omega)
      · unfold e_Laws_tellsTo_126
        refine ok_cst (by omega) (by omega) ?_
        intro A2 U2
        unfold e_Laws_tellsTo_227
        exact go (st w U2) (by omega)
    have g157 : 1 ≤ x4.toInt → ok (e_Laws_tellsTo_157 (e_Laws_tellsTo_13 n) n P F A J r0 (x3 + 1) x4 x5 v5 v6) (TLc P F A0 r0) := by
      intro h1
      have e4 := i_add (x := x4) (y := -1) (by omega) (by omega)
      rw [lm] at e4
      clear e5 lm
      unfold e_Laws_tellsTo_157
      generalize x4 + (-1 : Int32) = y at e4 ⊢
      have e4b := i_add (x := y) (y := 1) (by omega) (by omega)
      refine ok_cond (fun _ => ?_) (fun _ => ?_)
      · refine ok_ldn (by omega) (by omega) (fun v25 => ?_)
        refine ok_ldn (by omega) (by omega) (fun v26 => ?_)
        refine ok_call s_joined ?_
        intro v27 _
        refine ok_cst (by omega) (by omega) ?_
        intro A2 U2
        exact go (st w U2) (by omega)
      · refine ok_ldn (by omega) (by omega) (fun v29 => ?_)
        refine ok_ldn (by omega) (by omega) (fun v30 => ?_)
        clear e4b
        have e4c : (y + (-1 : Int32)).toInt = y.toInt + -1 := i_add (x := y) (y := -1) (by rw [show (-1 : Int32).toInt = -1 by decide]; omega) (by rw [show (-1 : Int32).toInt = -1 by decide]; omega)
        refine ok_cond (fun _ => ?_) (fun _ => ?_)
        · unfold e_Laws_tellsTo_192 e_Laws_tellsTo_227
          generalize y + (-1 : Int32) = z at e4c ⊢
          exact go w (by omega)
        · unfold e_Laws_tellsTo_192 e_Laws_tellsTo_227
          generalize y + (-1 : Int32) = z at e4c ⊢
          exact go w (by omega)
    refine ok_cond (fun c4 => ?_) (fun c4 => ?_)
    · refine ok_cond (fun c5 => ?_) (fun c5 => ?_)
      · rw [i_eq] at c5
        exact g88 (.inl (by omega))
      · refine ok_cond (fun c6 => ?_) (fun c6 => ?_)
        · refine ok_cond (fun _ => f153) (fun c7 => ?_)
          rw [i_nlt] at c7
          refine ok_cond (fun _ => g157 (by omega)) (fun _ => ?_)
          refine ok_ldn (by omega) (by omega) (fun v12 => ?_)
          exact ok_cond (fun _ => g157 (by omega)) (fun _ => f153)
        · rw [i_nne] at c6
          exact g88 (.inr (by omega))
    · refine ok_cond (fun _ => f0 w) (fun _ => ?_)
      exact ok_ldn (by decide) (by decide) (fun v => fin w)
theorem s_tellsTo {n : Nat} {A : Nat → Nat → Nat → Int32} {x1 : Int32} (hk : c_kind r0 = 6) (R : Rc F A) (H : HVc F A r0) (h1 : 0 ≤ x1.toInt ∧ x1.toInt ≤ 5) (hn : 410 ≤ n) : ok (e_Laws_tellsTo n P F A J r0 x1) (TLc P F A r0) := by
  have l0 : (0 : Int32).toInt = 0 := by decide
  unfold e_Laws_tellsTo
  refine ok_ldn (by omega) (by omega) (fun v => ?_)
  exact s_tellsTo_13 hk R H.2.2.2.2.1 (fun _ _ _ => rfl) (by decide) (by decide) (by omega)
end L88
