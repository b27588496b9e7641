/-! the class: a night -/
/-- men in a night: house h, state q -/
def NMc (A : Nat → Nat → Nat → Int32) (h q : Nat) (m : Int) : Prop := LVx A h (ci A q 3 m) ∧ (0 ≤ ci A q 3 m → ci A 36 5 m < ci A h 5 (ci A q 3 m / 6) ∧ (0 ≤ ci A 36 4 m → ci A 36 4 m < ci A h 5 (ci A q 3 m / 6))) ∧ (ci A q 3 m < 0 → ci A 36 3 m = 1000000)
def NVc (A : Nat → Nat → Nat → Int32) (h q : Nat) (k : Int) : Prop := ∀ m, 0 ≤ m → m < k → NMc A h q m
/-- what a night changes till morning -/
def NFc (h q : Nat) (F F' : Nat → Nat → Int32) (A A' : Nat → Nat → Nat → Int32) : Prop := (∀ r o, r ≠ 36 → (r = q → o = 3) → (r = h → o ≠ 17) → A' r o = A r o) ∧ (∀ r k, ¬ (r = 36 ∧ k = 101) → F' r k = F r k)
section S89
variable {P : Nat → Nat → Nat} {F F' F1 : Nat → Nat → Int32} {A A' A1 : Nat → Nat → Nat → Int32} {J : Nat → Nat → Nat → Int64} {h q : Nat} {k : Int}
theorem NFc.tr (a : NFc h q F F1 A A1) (b : NFc h q F1 F' A1 A') : NFc h q F F' A A' := ⟨fun r o x y z => (b.1 r o x y z).trans (a.1 r o x y z), fun r k x => (b.2 r k x).trans (a.2 r k x)⟩
theorem NFc.rfl' : NFc h q F F A A := ⟨fun _ _ _ _ _ => rfl, fun _ _ _ => rfl⟩
theorem NFc.st {o : Nat} {r : Nat} {i v : Int} (U : CUm A A' r o i v) (hr : r = 36 ∨ (r = q ∧ o ≠ 3)) : NFc h q F F A A' := ⟨fun r' o' x y z => U.2.2 r' o' (by rintro ⟨rfl, rfl⟩; rcases hr with e | ⟨e, e'⟩; exact x e; exact e' (y e)), fun _ _ _ => rfl⟩
theorem NFc.hv (a : NFc h q F F' A A') (hk : c_kind h = 6) (hq : c_kind q = 2) (H : HVc F A h) : HVc F' A' h := by
  have n1 := k6ne hk
  have n2 := k62 hk hq
  exact H.cg (fun k => a.2 h k (fun e => n1 e.1)) (fun o ho => a.1 h o n1 (fun e => absurd e n2) (fun _ => ho))
theorem NFc.h5 (a : NFc h q F F' A A') (hk : c_kind h = 6) (hq : c_kind q = 2) : A' h 5 = A h 5 := a.1 h 5 (k6ne hk) (fun e => absurd e (k62 hk hq)) (fun _ => by decide)
theorem NFc.q3 (a : NFc h q F F' A A') (hk : c_kind h = 6) (hq : c_kind q = 2) : A' q 3 = A q 3 := a.1 q 3 (k2ne hq) (fun _ => rfl) (fun e => absurd e.symm (k62 hk hq))
theorem NMc.cg {m : Int} (n : NMc A h q m) (h5 : A' h 5 = A h 5) (h3 : A' q 3 = A q 3) (e3 : ci A' 36 3 m = ci A 36 3 m) (e4 : ci A' 36 4 m = ci A 36 4 m) (e5 : ci A' 36 5 m = ci A 36 5 m) : NMc A' h q m := by
  unfold NMc
  rw [ci_fr h5, ci_fr h3, e3, e4, e5]
  exact ⟨n.1.cg h5, n.2⟩
theorem NVc.cg (n : NVc A h q k) (h5 : A' h 5 = A h 5) (h3 : A' q 3 = A q 3) (e : ∀ o, o = 3 ∨ o = 4 ∨ o = 5 → A' 36 o = A 36 o) : NVc A' h q k := fun m m0 m1 => (n m m0 m1).cg h5 h3 (by rw [ci_fr (e 3 (by omega))]) (by rw [ci_fr (e 4 (by omega))]) (by rw [ci_fr (e 5 (by omega))])
theorem nt2 (hq : c_kind q = 2) (o : Nat) (v : Int) : rRc (c_kind q) o v := by rw [hq]; exact trivial
/-- the man's step: what the law tells, within the task's steps -/
theorem s_chosenStep {n : Nat} {x1 x2 x3 : Int32} (e8 : P 36 8 = h) (e9 : P 36 9 = q) (hk : c_kind h = 6) (hq : c_kind q = 2) (R : Rc F A) (H : HVc F A h) (h1 : 0 ≤ x1.toInt ∧ x1.toInt ≤ 5) (h2 : 0 ≤ x2.toInt ∧ x2.toInt ≤ 5) (hn : 420 ≤ n) : ok (e_Sleep_chosenStep n P F A J x1 x2 x3) (fun r => r.2.1 = P ∧ r.2.2.1 = F ∧ (∀ r' o, ¬ (r' = 36 ∧ o = 9) → ¬ (r' = h ∧ o = 17) → r.2.2.2.1 r' o = A r' o) ∧ Rc F r.2.2.2.1 ∧ 0 ≤ r.1.toInt ∧ r.1.toInt ≤ 5 ∧ (0 < ci A h 5 x2.toInt → r.1.toInt < ci A h 5 x2.toInt)) := by
  have l0 : (0 : Int32).toInt = 0 := by decide
  have l1 : (1 : Int32).toInt = 1 := by decide
  have m2 := i_mulR (c := 6) (k := 6) (x := x2) (by decide) (by omega) (by omega)
  unfold e_Sleep_chosenStep
  refine ok_ldc (K := 10) R (by decide) (by omega) (by omega) ?_
  intro v1 _ v1r
  refine ok_cst (by decide) (by decide) ?_
  intro A2 U2
  rw [e9, e8]
  refine ok_chk hq ?_
  have R2 := R.st U2 trivial
  refine ok_ldc (K := 10) R2 (by decide) (by omega) (by omega) ?_
  intro v4 _ v4r
  change 0 ≤ v4.toInt ∧ v4.toInt ≤ 5 at v4r
  have a4 := i_add (x := x2 * 6) (y := v4) (by omega) (by omega)
  refine ok_ldn (by omega) (by omega) (fun v5 => ?_)
  refine ok_cst (by decide) (by decide) ?_
  intro A6 U6
  refine ok_chk hk ?_
  refine ok_ldn (by omega) (by omega) (fun v8 => ?_)
  refine ok_cst (by decide) (by decide) ?_
  intro A9 U9
  refine ok_cst (by decide) (by decide) ?_
  intro A10 U10
  refine ok_chk hq ?_
  refine ok_ldn (by omega) (by omega) (fun v12 => ?_)
  refine ok_cst (by decide) (by decide) ?_
  intro A13 U13
  refine ok_ldn (by omega) (by omega) (fun v14 => ?_)
  refine ok_cst (by decide) (by decide) ?_
  intro A15 U15
  refine ok_chk hk ?_
  have o15 : ∀ r' o, ¬ (r' = 36 ∧ o = 9) → A15 r' o = A r' o := fun r' o hr => (U15.2.2 r' o hr).trans ((U13.2.2 r' o hr).trans ((U10.2.2 r' o hr).trans ((U9.2.2 r' o hr).trans ((U6.2.2 r' o hr).trans (U2.2.2 r' o hr)))))
  have R15 : Rc F A15 := ((((R2.st U6 trivial).st U9 trivial).st U10 trivial).st U13 trivial).st U15 trivial
  have H15 : HVc F A15 h := H.cg (fun _ => rfl) (fun o _ => o15 h o (fun e => k6ne hk e.1))
  refine ok_call (s_tellsTo hk R15 H15 h1 (by omega)) ?_
  rintro ⟨v17, P2, F2, A20, J2⟩ ⟨g1, g2, g3⟩
  dsimp only at g1 g2 g3 ⊢
  subst g1
  subst g2
  rw [e8]
  refine ok_chk hk ?_
  have R20 := LKc.rc g3 hk R15
  refine ok_ldc R20 hk (by omega) (by omega) ?_
  intro v23 v23e v23r
  change 0 ≤ v23.toInt ∧ v23.toInt ≤ 6 at v23r
  have k5 : A20 h 5 = A h 5 := (g3 h 5 (by simp)).trans (o15 h 5 (by simp))
  rw [ci_fr k5] at v23e
  have s23 := i_sub (x := v23) (y := 1) (by omega) (by omega)
  refine ok_some ⟨rfl, rfl, fun r' o a b => (g3 r' o b).trans (o15 r' o a), R20, ?_⟩
  dsimp only
  by_cases c1 : v17 < v23 - 1
  · rw [if_pos c1]
    have d1 := Int32.lt_iff_toInt_lt.mp c1
    by_cases c2 : 0 < v17
    · rw [if_pos c2]
      have d2 := Int32.lt_iff_toInt_lt.mp c2
      exact ⟨by omega, by omega, fun _ => by omega⟩
    · rw [if_neg c2]
      exact ⟨by omega, by omega, fun _ => by omega⟩
  · rw [if_neg c1]
    by_cases c2 : 0 < v23 - 1
    · rw [if_pos c2]
      have d2 := Int32.lt_iff_toInt_lt.mp c2
      exact ⟨by omega, by omega, fun _ => by omega⟩
    · rw [if_neg c2]
      exact ⟨by omega, by omega, fun _ => by omega⟩
/-- what a call of the night leaves -/
def NPc (P : Nat → Nat → Nat) (F : Nat → Nat → Int32) (A : Nat → Nat → Nat → Int32) (h q : Nat) (k : Int) (r : Unit × (Nat → Nat → Nat) × (Nat → Nat → Int32) × (Nat → Nat → Nat → Int32) × (Nat → Nat → Nat → Int64)) : Prop := r.2.1 = P ∧ Rc r.2.2.1 r.2.2.2.1 ∧ NFc h q F r.2.2.1 A r.2.2.2.1 ∧ NVc r.2.2.2.1 h q k
theorem NPc.go {r : Unit × (Nat → Nat → Nat) × (Nat → Nat → Int32) × (Nat → Nat → Nat → Int32) × (Nat → Nat → Nat → Int64)} (a : NFc h q F F1 A A1) (b : NPc P F1 A1 h q k r) : NPc P F A h q k r := ⟨b.1, b.2.1, a.tr b.2.2.1, b.2.2.2⟩
/-- he lies down -/
theorem s_lieDown {x1 x2 : Int32} (e9 : P 36 9 = q) (hk : c_kind h = 6) (hq : c_kind q = 2) (R : Rc F A) (N : NVc A h q k) (h1 : 0 ≤ x1.toInt ∧ x1.toInt ≤ 5) : ok (e_Sleep_lieDown P F A J x1 x2) (NPc P F A h q k) := by
  unfold e_Sleep_lieDown
  rw [e9]
  refine ok_chk hq ?_
  refine ok_cst (by omega) (by omega) ?_
  intro A2 U2
  refine ok_cst (by omega) (by omega) ?_
  intro A3 U3
  have n1 := k2ne hq
  have w2 : NFc h q F F A A2 := NFc.st U2 (.inr ⟨rfl, by decide⟩)
  have w3 : NFc h q F F A2 A3 := NFc.st U3 (.inl rfl)
  refine ok_some ⟨rfl, (R.st U2 (nt2 hq _ _)).st U3 trivial, w2.tr w3, fun m m0 m1 => ?_⟩
  have n0 := (N m m0 m1).cg (w2.h5 hk hq) (w2.q3 hk hq) (by rw [ci_fr (U2.2.2 36 3 (fun e => n1 e.1.symm))]) (by rw [ci_fr (U2.2.2 36 4 (fun e => n1 e.1.symm))]) (by rw [ci_fr (U2.2.2 36 5 (fun e => n1 e.1.symm))])
  by_cases e : m = x1.toInt
  · subst e
    unfold NMc
    rw [show ((), P, F, A3, J).2.2.2.1 = A3 from rfl, ci_fr (w3.h5 hk hq), ci_fr (w3.q3 hk hq), ci_fr (U3.2.2 36 4 (by simp)), ci_fr (U3.2.2 36 5 (by simp))]
    exact ⟨n0.1.cg (w3.h5 hk hq), n0.2.1, fun _ => U3.1.trans (by decide)⟩
  · exact n0.cg (w3.h5 hk hq) (w3.q3 hk hq) (U3.2.1 m m0 e) (by rw [show ((), P, F, A3, J).2.2.2.1 = A3 from rfl, ci_fr (U3.2.2 36 4 (by simp))]) (by rw [show ((), P, F, A3, J).2.2.2.1 = A3 from rfl, ci_fr (U3.2.2 36 5 (by simp))])
end S89
