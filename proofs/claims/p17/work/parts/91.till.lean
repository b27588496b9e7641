section S91
variable {P : Nat → Nat → Nat} {J : Nat → Nat → Nat → Int64} {h q : Nat} {k : Int}
theorem s_getUp_2 (e8 : P 36 8 = h) (e9 : P 36 9 = q) (hk : c_kind h = 6) (hq : c_kind q = 2) : ∀ {n : Nat} {F : Nat → Nat → Int32} {A : Nat → Nat → Nat → Int32} {J : Nat → Nat → Nat → Int64} {x1 : Int32}, k = cf F h 17 → Rc F A → HVc F A h → LVc A h q → NVc A h q x1.toInt → 0 ≤ x1.toInt ∧ x1.toInt ≤ k → 100 - x1.toInt < (n : Int) → ok (e_Sleep_getUp_2 n P F A J x1) (NPc P F A h q k) := by
  intro n
  induction n with
  | zero =>
    intro F A J x1 hm R H L N hx hn
    have rm : 0 ≤ (F h 17).toInt ∧ (F h 17).toInt ≤ 6 := by have := R.1 h 17; rw [hk] at this; exact this
    unfold cf at hm
    exact absurd hn (by omega)
  | succ n ih =>
    intro F A J x1 hm R H L N hx hn
    have l0 : (0 : Int32).toInt = 0 := by decide
    have l1 : (1 : Int32).toInt = 1 := by decide
    have n1 := k2ne hq
    have n2 := k6ne hk
    have rm : 0 ≤ (F h 17).toInt ∧ (F h 17).toInt ≤ 6 := by have := R.1 h 17; rw [hk] at this; exact this
    have hm' := hm
    unfold cf at hm'
    unfold e_Sleep_getUp_2
    rw [e8, e9]
    refine ok_chk hk ?_
    refine ok_cond (fun c => ?_) (fun c => ?_)
    · rw [i_ge] at c
      have e : k = x1.toInt := by omega
      subst e
      exact ok_some ⟨rfl, R, NFc.rfl', N⟩
    · rw [i_nge] at c
      have e2 := i_add (x := x1) (y := 1) (by omega) (by omega)
      refine ok_chk hq ?_
      refine ok_ldc R hq (by omega) (by omega) ?_
      intro v4 v4e _
      refine ok_cst (by omega) (by omega) ?_
      intro A5 U5
      refine ok_cst (by omega) (by omega) ?_
      intro A6 U6
      refine ok_cst (by omega) (by omega) ?_
      intro A7 U7
      refine ok_cst (by omega) (by omega) ?_
      intro A8 U8
      refine ok_chk hq ?_
      refine ok_cst (by omega) (by omega) ?_
      intro A10 U10
      have w10 : NFc h q F F A A10 := (NFc.st U5 (.inl rfl)).tr ((NFc.st U6 (.inl rfl)).tr ((NFc.st U7 (.inl rfl)).tr ((NFc.st U8 (.inl rfl)).tr (NFc.st U10 (.inr ⟨rfl, by decide⟩)))))
      have R10 : Rc F A10 := ((((R.st U5 (show -1 ≤ (-1 : Int32).toInt ∧ (-1 : Int32).toInt ≤ 5 by decide)).st U6 trivial).st U7 trivial).st U8 trivial).st U10 (nt2 hq _ _)
      have b3 : ci A10 36 3 = ci A8 36 3 := ci_fr (U10.2.2 36 3 (fun e => n1 e.1.symm))
      have b3' : ci A7 36 3 = ci A 36 3 := by rw [ci_fr (U7.2.2 36 3 (by simp)), ci_fr (U6.2.2 36 3 (by simp)), ci_fr (U5.2.2 36 3 (by simp))]
      have b4 : ci A10 36 4 = ci A5 36 4 := by rw [ci_fr (U10.2.2 36 4 (fun e => n1 e.1.symm)), ci_fr (U8.2.2 36 4 (by simp)), ci_fr (U7.2.2 36 4 (by simp)), ci_fr (U6.2.2 36 4 (by simp))]
      have b5 : ci A10 36 5 = ci A 36 5 := by rw [ci_fr (U10.2.2 36 5 (fun e => n1 e.1.symm)), ci_fr (U8.2.2 36 5 (by simp)), ci_fr (U7.2.2 36 5 (by simp)), ci_fr (U6.2.2 36 5 (by simp)), ci_fr (U5.2.2 36 5 (by simp))]
      have old : ∀ m, 0 ≤ m → m < x1.toInt → NMc A10 h q m := fun m m0 m1 => (N m m0 m1).cg (w10.h5 hk hq) (w10.q3 hk hq) (by rw [b3, U8.2.1 m m0 (by omega), b3']) (by rw [b4, U5.2.1 m m0 (by omega)]) (by rw [b5])
      have lv := L x1.toInt (by omega) (by omega)
      have L10 : LVc A10 h q := L.cg (w10.h5 hk hq) (w10.q3 hk hq)
      have d10 : ci A10 36 4 x1.toInt = -1 := by rw [b4, U5.1]; decide
      refine ok_cond (fun c4 => ?_) (fun c4 => ?_)
      · rw [i_lt] at c4
        unfold e_Sleep_getUp_145
        refine ok_mono (ih hm R10 (w10.hv hk hq H) L10 (fun m m0 m1 => ?_) (by omega) (by omega)) (fun r hr => hr.go w10)
        by_cases e : m = x1.toInt
        · subst e
          unfold NMc
          rw [ci_fr (w10.q3 hk hq)]
          exact ⟨lv.cg (w10.h5 hk hq), fun z => absurd z (by omega), fun _ => by rw [b3, U8.1]; decide⟩
        · exact old m m0 (by omega)
      · rw [i_nlt] at c4
        have lv2 : v4.toInt < 36 ∧ v4.toInt % 6 < ci A h 5 (v4.toInt / 6) := by
          rw [v4e]
          rcases lv with z | z
          · omega
          · exact ⟨z.2.1, z.2.2⟩
        refine ok_rem1 (by decide) ?_
        intro v12 e12
        have d12 : v12.toInt = v4.toInt % 6 := by rw [e12]; exact i_rem6 (by omega)
        refine ok_cst (by omega) (by omega) ?_
        intro A13 U13
        have w13 : NFc h q F F A10 A13 := NFc.st U13 (.inl rfl)
        have R13 : Rc F A13 := R10.st U13 (show 0 ≤ v12.toInt ∧ v12.toInt ≤ 5 by omega)
        have H13 : HVc F A13 h := (w10.tr w13).hv hk hq H
        refine ok_chk hk ?_
        refine ok_div1 (by decide) ?_
        intro v15 e15
        have d15 : v15.toInt = v4.toInt / 6 := by rw [e15]; exact i_div6 (by omega)
        refine ok_ldc R13 hk (by omega) (by omega) ?_
        intro v16 v16e v16r
        change -1 ≤ v16.toInt ∧ v16.toInt ≤ 7 at v16r
        have p16 := H13.2.2.1 v15.toInt (by omega) (by omega) (by rw [ci_fr (w13.h5 hk hq), ci_fr (w10.h5 hk hq), d15]; omega)
        refine ok_chk hk ?_
        refine ok_chk hq ?_
        refine ok_chk hk ?_
        refine ok_ldc R13 hk (by omega) (by omega) ?_
        intro v20 v20e v20r
        change -1 ≤ v20.toInt ∧ v20.toInt ≤ 7 at v20r
        have p20 := H13.2.1 x1.toInt (by omega) (by unfold cf; omega)
        refine ok_call (s_between hk R13 H13 ⟨by omega, by omega⟩ ⟨by omega, by omega⟩ (by omega)) ?_
        rintro ⟨v21, P2, F2, A24, J2⟩ ⟨g1, g2, g3, g4⟩
        dsimp only at g1 g2 g3 g4 ⊢
        subst g1
        have w24 : NFc h q F F2 A13 A24 := ⟨fun r o a b c => g3 r o (fun e => a e.1), g2⟩
        refine ok_cst (by omega) (by omega) ?_
        intro A26 U26
        have w26 : NFc h q F2 F2 A24 A26 := NFc.st U26 (.inl rfl)
        have R26 : Rc F2 A26 := g4.st U26 trivial
        have wz : NFc h q F F2 A A26 := (w10.tr w13).tr (w24.tr w26)
        have hm2 : k = cf F2 h 17 := by unfold cf; rw [g2 h 17 (fun e => n2 e.1)]; exact hm
        have N26 : ∀ m, 0 ≤ m → m < x1.toInt + 1 → NMc A26 h q m := fun m m0 m1 => by
          have t5 : A26 h 5 = A10 h 5 := (w26.h5 hk hq).trans ((w24.h5 hk hq).trans (w13.h5 hk hq))
          have t3 : A26 q 3 = A10 q 3 := (w26.q3 hk hq).trans ((w24.q3 hk hq).trans (w13.q3 hk hq))
          have s4 : ci A26 36 4 = ci A10 36 4 := by rw [ci_fr (U26.2.2 36 4 (by simp)), ci_fr (g3 36 4 (by simp)), ci_fr (U13.2.2 36 4 (by simp))]
          have s5 : ci A26 36 5 = ci A13 36 5 := by rw [ci_fr (U26.2.2 36 5 (by simp)), ci_fr (g3 36 5 (by simp))]
          by_cases e : m = x1.toInt
          · subst e
            unfold NMc
            rw [ci_fr t3, ci_fr t5, ci_fr (w10.q3 hk hq), ci_fr (w10.h5 hk hq), s4, s5, U13.1, d10, ← v4e]
            refine ⟨?_, fun _ => ⟨by omega, fun z => absurd z (by omega)⟩, fun z => absurd z (by omega)⟩
            unfold LVx
            rw [ci_fr t5, ci_fr (w10.h5 hk hq)]
            exact .inr ⟨by omega, by omega, by omega⟩
          · refine (old m m0 (by omega)).cg t5 t3 ?_ (by rw [s4]) (by rw [s5, U13.2.1 m m0 e])
            rw [U26.2.1 m m0 e, ci_fr (g3 36 3 (by simp)), ci_fr (U13.2.2 36 3 (by simp))]
        have L26 : LVc A26 h q := L.cg (wz.h5 hk hq) (wz.q3 hk hq)
        refine ok_ldn (by omega) (by omega) (fun v27 => ?_)
        refine ok_cond (fun _ => ?_) (fun _ => ?_)
        · unfold e_Sleep_getUp_145
          exact ok_mono (ih hm2 R26 (wz.hv hk hq H) L26 (by rw [e2, l1]; exact N26) (by omega) (by omega)) (fun r hr => hr.go wz)
        · rw [e9]
          refine ok_chk hq ?_
          refine ok_cst (by omega) (by omega) ?_
          intro A30 U30
          have w30 : NFc h q F2 F2 A26 A30 := NFc.st U30 (.inr ⟨rfl, by decide⟩)
          exact ok_mono (ih hm2 (R26.st U30 (nt2 hq _ _)) ((wz.tr w30).hv hk hq H) (L26.cg (w30.h5 hk hq) (w30.q3 hk hq)) (by rw [e2, l1]; exact NVc.cg N26 (w30.h5 hk hq) (w30.q3 hk hq) (fun o _ => U30.2.2 36 o (fun e => n1 e.1.symm))) (by omega) (by omega)) (fun r hr => hr.go (wz.tr w30))
/-- morning -/
def MPc (P : Nat → Nat → Nat) (F : Nat → Nat → Int32) (A : Nat → Nat → Nat → Int32) (h q : Nat) (r : Unit × (Nat → Nat → Nat) × (Nat → Nat → Int32) × (Nat → Nat → Nat → Int32) × (Nat → Nat → Nat → Int64)) : Prop := r.2.1 = P ∧ Rc r.2.2.1 r.2.2.2.1 ∧ (∀ r' o, r' ≠ 36 → r' ≠ q → (r' = h → o ≠ 17) → r.2.2.2.1 r' o = A r' o) ∧ (∀ r' k, ¬ (r' = 36 ∧ k = 101) → r.2.2.1 r' k = F r' k) ∧ LVc r.2.2.2.1 h q
theorem MPc.go {F F1 : Nat → Nat → Int32} {A A1 : Nat → Nat → Nat → Int32} {r : Unit × (Nat → Nat → Nat) × (Nat → Nat → Int32) × (Nat → Nat → Nat → Int32) × (Nat → Nat → Nat → Int64)} (a : ∀ r' o, r' ≠ 36 → r' ≠ q → (r' = h → o ≠ 17) → A1 r' o = A r' o) (b : ∀ r' k, ¬ (r' = 36 ∧ k = 101) → F1 r' k = F r' k) (m : MPc P F1 A1 h q r) : MPc P F A h q r := ⟨m.1, m.2.1, fun r' o x y z => (m.2.2.1 r' o x y z).trans (a r' o x y z), fun r' k x => (m.2.2.2.1 r' k x).trans (b r' k x), m.2.2.2.2⟩
theorem s_wakeUp_2 {F : Nat → Nat → Int32} (e8 : P 36 8 = h) (e9 : P 36 9 = q) (hk : c_kind h = 6) (hq : c_kind q = 2) (hm : k = cf F h 17) : ∀ {n : Nat} {A : Nat → Nat → Nat → Int32} {J : Nat → Nat → Nat → Int64} {x1 : Int32}, Rc F A → LVc A h q → (∀ m, x1.toInt ≤ m → m < k → NMc A h q m) → 0 ≤ x1.toInt ∧ x1.toInt ≤ 6 → 7 - x1.toInt < (n : Int) → ok (e_Sleep_wakeUp_2 n P F A J x1) (MPc P F A h q) := by
  intro n
  induction n with
  | zero => intro A J x1 R L N hx hn; exact absurd hn (by omega)
  | succ n ih =>
    intro A J x1 R L N hx hn
    have l0 : (0 : Int32).toInt = 0 := by decide
    have l1 : (1 : Int32).toInt = 1 := by decide
    have n1 := k2ne hq
    have n2 := k6ne hk
    have nh := k62 hk hq
    have rm : 0 ≤ (F h 17).toInt ∧ (F h 17).toInt ≤ 6 := by have := R.1 h 17; rw [hk] at this; exact this
    have hm' := hm
    unfold cf at hm'
    unfold e_Sleep_wakeUp_2
    rw [e8, e9]
    refine ok_chk hk ?_
    refine ok_cond (fun c => ok_some ⟨rfl, R, fun _ _ _ _ _ => rfl, fun _ _ _ => rfl, L⟩) (fun c => ?_)
    rw [i_nge] at c
    have e2 := i_add (x := x1) (y := 1) (by omega) (by omega)
    refine ok_chk hq ?_
    refine ok_ldc R hq (by omega) (by omega) ?_
    intro v4 v4e _
    refine ok_chk hq ?_
    refine ok_ldn (by omega) (by omega) (fun v6 => ?_)
    refine ok_cst (by omega) (by omega) ?_
    intro A7 U7
    refine ok_chk hq ?_
    refine ok_ldn (by omega) (by omega) (fun v9 => ?_)
    refine ok_ldn (by omega) (by omega) (fun v10 => ?_)
    refine ok_cst (by omega) (by omega) ?_
    intro A11 U11
    have R11 : Rc F A11 := (R.st U7 (nt2 hq _ _)).st U11 (nt2 hq _ _)
    have oth : ∀ r o, r ≠ q → A11 r o = A r o := fun r o hr => (U11.2.2 r o (fun e => hr e.1)).trans (U7.2.2 r o (fun e => hr e.1))
    have a3 : A11 q 3 = A q 3 := (U11.2.2 q 3 (by simp)).trans (U7.2.2 q 3 (by simp))
    have a5 : A11 h 5 = A h 5 := oth h 5 nh
    have L11 : LVc A11 h q := L.cg a5 a3
    have N11 : ∀ m, x1.toInt ≤ m → m < k → NMc A11 h q m := fun m m0 m1 => (N m m0 m1).cg a5 a3 (by rw [ci_fr (oth 36 3 n1.symm)]) (by rw [ci_fr (oth 36 4 n1.symm)]) (by rw [ci_fr (oth 36 5 n1.symm)])
    have nm := N11 x1.toInt (Int.le_refl _) (by omega)
    have go : ∀ {A' J'}, Rc F A' → (∀ r o, r ≠ q → A' r o = A11 r o) → LVc A' h q → (∀ m, 0 ≤ m → m ≠ x1.toInt → ci A' q 3 m = ci A11 q 3 m) → ok (e_Sleep_wakeUp_2 n P F A' J' (x1 + 1)) (MPc P F A h q) := by
      intro A' J' R' o' L' k3
      refine ok_mono (ih R' L' (fun m m0 m1 => ?_) (by omega) (by omega)) (fun r hr => hr.go (fun r' o x y z => (o' r' o y).trans (oth r' o y)) (fun _ _ _ => rfl))
      obtain ⟨y1, y2, y3⟩ := N11 m (by omega) m1
      unfold NMc
      rw [k3 m (by omega) (by omega), ci_fr (o' h 5 nh), ci_fr (o' 36 3 n1.symm), ci_fr (o' 36 4 n1.symm), ci_fr (o' 36 5 n1.symm)]
      exact ⟨y1.cg (o' h 5 nh), y2, y3⟩
    refine ok_cond (fun _ => ?_) (fun c4 => ?_)
    · unfold e_Sleep_wakeUp_99
      exact go R11 (fun _ _ _ => rfl) L11 (fun _ _ _ => rfl)
    · rw [i_nlt] at c4
      have lft : ci A11 q 3 x1.toInt = v4.toInt := by rw [ci_fr a3]; exact v4e.symm
      have cn := nm.cnt (by omega)
      have ls := (nm.2.1 (by omega)).1
      refine ok_div1 (by decide) ?_
      intro v13 e13
      have d13 : v13.toInt = v4.toInt / 6 := by rw [e13]; exact i_div6 (by omega)
      refine ok_chk hq ?_
      have f98 : ∀ {s2 : Int32}, LVx A11 h s2.toInt → ok (e_Sleep_wakeUp_98 (e_Sleep_wakeUp_2 n) n P F A11 J x1 q x1 s2) (MPc P F A h q) := by
        intro s2 hs
        unfold e_Sleep_wakeUp_98
        refine ok_cst (by omega) (by omega) ?_
        intro A18 U18
        refine go (R11.st U18 (nt2 hq _ _)) (fun r o hr => U18.2.2 r o (fun e => hr e.1)) (fun m m0 m1 => ?_) U18.2.1
        by_cases e : m = x1.toInt
        · subst e
          rw [U18.1]
          exact hs.cg (U18.2.2 h 5 (fun e => nh e.1))
        · rw [U18.2.1 m m0 e]
          exact (L11 m m0 m1).cg (U18.2.2 h 5 (fun e => nh e.1))
      refine ok_ldn (by omega) (by omega) (fun v15 => ?_)
      refine ok_cond (fun _ => ?_) (fun _ => f98 (.inl (by decide)))
      refine ok_ldc (K := 10) R11 (by decide) (by omega) (by omega) ?_
      intro v17 v17e v17r
      change 0 ≤ v17.toInt ∧ v17.toInt ≤ 5 at v17r
      have m13 := i_mulR (c := 6) (k := 6) (x := v13) (by decide) (by omega) (by omega)
      have a13 := i_add (x := v13 * 6) (y := v17) (by omega) (by omega)
      refine f98 (.inr ⟨by omega, by omega, ?_⟩)
      rw [show (v13 * 6 + v17).toInt % 6 = v17.toInt by omega, show (v13 * 6 + v17).toInt / 6 = ci A11 q 3 x1.toInt / 6 by omega, v17e]
      exact ls
/-- a night till a minute -/
theorem s_goTill_31 {x1 : Int32} (e8 : P 36 8 = h) (e9 : P 36 9 = q) (hk : c_kind h = 6) (hq : c_kind q = 2) (h1 : x1.toInt ≤ 600) : ∀ {n : Nat} {F : Nat → Nat → Int32} {A : Nat → Nat → Nat → Int32} {J : Nat → Nat → Nat → Int64} {x4 x5 : Int32}, Rc F A → HVc F A h → LVc A h q → NVc A h q (cf F h 17) → 0 ≤ x5.toInt ∧ x5.toInt ≤ 601 → 1300 - x5.toInt < (n : Int) → ok (e_Sleep_goTill_31 n P F A J x1 x4 x5) (MPc P F A h q) := by
  intro n
  induction n with
  | zero => intro F A J x4 x5 R H L N hx hn; exact absurd hn (by omega)
  | succ n ih =>
    intro F A J x4 x5 R H L N hx hn
    have l0 : (0 : Int32).toInt = 0 := by decide
    have l1 : (1 : Int32).toInt = 1 := by decide
    have n1 := k2ne hq
    have n2 := k6ne hk
    have nh := k62 hk hq
    have e5 := i_add (x := x5) (y := 1) (by omega) (by omega)
    have stop : ok (e_Sleep_goTill_119 n P F A J) (MPc P F A h q) := by
      unfold e_Sleep_goTill_119 e_Sleep_wakeUp
      refine ok_call (s_wakeUp_2 e8 e9 hk hq rfl R L (fun m m0 m1 => N m (by have := l0; omega) m1) (by decide) (by omega)) ?_
      rintro ⟨u, P2, F2, A2, J2⟩ hr
      exact ok_some hr
    unfold e_Sleep_goTill_31
    refine ok_cond (fun _ => stop) (fun c1 => ?_)
    rw [i_ngt] at c1
    refine ok_cond (fun _ => stop) (fun c2 => ?_)
    rw [i_ngt] at c2
    unfold e_Sleep_finishAll
    refine ok_call (s_finishAll_2 e8 e9 hk hq rfl (by omega) R H N (by decide) (by omega)) ?_
    rintro ⟨u, P2, F2, A2, J2⟩ ⟨g0, g1, g2, g3, g4⟩
    dsimp only at g0 g1 g2 g3 g4 ⊢
    subst g1
    subst g0
    have R2 := g2
    have H2 := g3.hv hk hq H
    have L2 : LVc A2 h q := L.cg (g3.h5 hk hq) (g3.q3 hk hq)
    have rm : 0 ≤ (F2 h 17).toInt ∧ (F2 h 17).toInt ≤ 6 := by have := R.1 h 17; rw [hk] at this; exact this
    -- the next turn
    have turn : ∀ {F3 A3 J3 y}, Rc F3 A3 → NFc h q F2 F3 A A3 → NVc A3 h q (cf F2 h 17) → ok (e_Sleep_goTill_31 n P2 F3 A3 J3 x1 y (x5 + 1)) (MPc P2 F2 A h q) := by
      intro F3 A3 J3 y R3 w3 N3
      refine ok_mono (ih R3 (w3.hv hk hq H) (L.cg (w3.h5 hk hq) (w3.q3 hk hq)) (by unfold cf; rw [w3.2 h 17 (fun e => n2 e.1)]; exact N3) (by omega) (by omega)) (fun r hr => hr.go (fun r' o x y z => w3.1 r' o x (fun e => absurd e y) z) w3.2)
    have f96 : ∀ {F3 A3 J3}, Rc F3 A3 → NFc h q F2 F3 A A3 → NVc A3 h q (cf F2 h 17) → ok (e_Sleep_goTill_96 (e_Sleep_goTill_31 n) n P2 F3 A3 J3 x1 x4 x5) (MPc P2 F2 A h q) := by
      intro F3 A3 J3 R3 w3 N3
      unfold e_Sleep_goTill_96
      refine ok_cond (fun _ => ?_) (fun _ => ?_)
      · unfold e_Sleep_goTill_111
        exact turn R3 w3 N3
      · refine ok_call (s_nextMinute e8 hk R3 (by omega)) ?_
        rintro ⟨v, P3, F4, A4, J4⟩ hr
        dsimp only at hr ⊢
        injection hr with q1 hr
        injection hr with q2 hr
        injection hr with q3 q4
        subst q1
        subst q2
        subst q3
        unfold e_Sleep_goTill_111
        exact turn R3 w3 N3
    have f52 : ∀ {m : Nat} {F3 : Nat → Nat → Int32} {A3 : Nat → Nat → Nat → Int32} {J3 : Nat → Nat → Nat → Int64} {x6 : Int32}, m ≤ n → Rc F3 A3 → NFc h q F2 F3 A A3 → NVc A3 h q (cf F2 h 17) → 0 ≤ x6.toInt ∧ x6.toInt ≤ 6 → 450 - x6.toInt < (m : Int) → ok (e_Sleep_goTill_52 (e_Sleep_goTill_31 n) m P2 F3 A3 J3 x1 x4 x5 x6) (MPc P2 F2 A h q) := by
      intro m
      induction m with
      | zero => intro F3 A3 J3 x6 hmn R3 w3 N3 h6 hm; exact absurd hm (by omega)
      | succ m ih2 =>
        intro F3 A3 J3 x6 hmn R3 w3 N3 h6 hm
        have t17 : F3 h 17 = F2 h 17 := w3.2 h 17 (fun e => n2 e.1)
        have f96' : ok (e_Sleep_goTill_96 (e_Sleep_goTill_31 n) m P2 F3 A3 J3 x1 x4 x5) (MPc P2 F2 A h q) := by
          unfold e_Sleep_goTill_96
          refine ok_cond (fun _ => ?_) (fun _ => ?_)
          · unfold e_Sleep_goTill_111
            exact turn R3 w3 N3
          · refine ok_call (s_nextMinute e8 hk R3 (by omega)) ?_
            rintro ⟨v, P3, F4, A4, J4⟩ hr
            dsimp only at hr ⊢
            injection hr with q1 hr
            injection hr with q2 hr
            injection hr with q3 q4
            subst q1
            subst q2
            subst q3
            unfold e_Sleep_goTill_111
            exact turn R3 w3 N3
        unfold e_Sleep_goTill_52
        rw [e8]
        refine ok_chk hk ?_
        refine ok_cond (fun _ => f96') (fun c3 => ?_)
        rw [i_nge, t17] at c3
        refine ok_cond (fun _ => f96') (fun _ => ?_)
        have e6 := i_add (x := x6) (y := 1) (by omega) (by omega)
        refine ok_ldc (K := 10) R3 (by decide) (by omega) (by omega) ?_
        intro v29 v29e _
        refine ok_cond (fun _ => ?_) (fun c4 => ?_)
        · unfold e_Sleep_goTill_90
          exact ih2 (by omega) R3 w3 N3 (by omega) (by omega)
        · rw [i_nne] at c4
          have nm := N3 x6.toInt h6.1 (by unfold cf; omega)
          have hl : 0 ≤ ci A3 q 3 x6.toInt := by
            by_cases z : ci A3 q 3 x6.toInt < 0
            · have := nm.2.2 z; omega
            · omega
          refine ok_call (s_begin (k := cf F2 h 17) e8 e9 hk hq R3 (w3.hv hk hq H) N3 ⟨h6.1, by unfold cf; omega⟩ (by unfold cf; omega) hl (by omega)) ?_
          rintro ⟨u, P4, F4, A4, J4⟩ ⟨b1, b2, b3, b4⟩
          dsimp only at b1 b2 b3 b4 ⊢
          subst b1
          exact ih2 (by omega) b2 (w3.tr b3) b4 (by omega) (by omega)
    exact f52 (Nat.le_refl _) R2 g3 g4 (by decide) (by omega)
theorem s_goTill {n : Nat} {F : Nat → Nat → Int32} {A : Nat → Nat → Nat → Int32} {x1 : Int32} (hk : c_kind h = 6) (hq : c_kind q = 2) (R : Rc F A) (H : HVc F A h) (L : LVc A h q) (h1 : x1.toInt ≤ 600) (hn : 1400 ≤ n) : ok (e_Sleep_goTill n P F A J x1 h q) (fun r => (∀ r' k, r' ≠ 36 → r.2.1 r' k = P r' k) ∧ MPc r.2.1 F A h q r) := by
  have l0 : (0 : Int32).toInt = 0 := by decide
  have n1 := k2ne hq
  have n2 := k6ne hk
  unfold e_Sleep_goTill
  refine ok_cpp ?_
  intro P1 p1 o1
  refine ok_cpp ?_
  intro P2 p2 o2
  have e8 : P2 36 8 = h := (o2 36 8 (by simp)).trans p1
  have e9 : P2 36 9 = q := p2
  have oP : ∀ r' k, r' ≠ 36 → P2 r' k = P r' k := fun r' k hr => (o2 r' k (fun e => hr e.1)).trans (o1 r' k (fun e => hr e.1))
  refine ok_cfi ?_
  intro A3 f1 f2 f3
  have w3 : NFc h q F F A A3 := ⟨fun r o a _ _ => f3 r o (fun e => a e.1), fun _ _ _ => rfl⟩
  have R3 : Rc F A3 := R.fi f1 f2 f3 trivial
  unfold e_Sleep_getUp
  have rm : 0 ≤ (F h 17).toInt ∧ (F h 17).toInt ≤ 6 := by have := R.1 h 17; rw [hk] at this; exact this
  refine ok_call (s_getUp_2 (k := cf F h 17) e8 e9 hk hq rfl R3 (w3.hv hk hq H) (L.cg (w3.h5 hk hq) (w3.q3 hk hq)) (fun m m0 m1 => absurd m1 (by omega)) ⟨by decide, by unfold cf; omega⟩ (by omega)) ?_
  rintro ⟨u, P5, F6, A7, J8⟩ ⟨g1, g2, g3, g4⟩
  dsimp only at g1 g2 g3 g4 ⊢
  subst g1
  refine ok_call (s_nextMinute e8 hk g2 (by omega)) ?_
  rintro ⟨v, P9, F9, A9, J9⟩ hr
  dsimp only at hr ⊢
  injection hr with q1 hr
  injection hr with q2 hr
  injection hr with q3 q4
  subst q1
  subst q2
  subst q3
  have wz := w3.tr g3
  refine ok_mono (s_goTill_31 e8 e9 hk hq h1 g2 (wz.hv hk hq H) (L.cg (wz.h5 hk hq) (wz.q3 hk hq)) (by unfold cf; rw [wz.2 h 17 (fun e => n2 e.1)]; exact g4) (by decide) (by omega)) (fun r hr => ?_)
  have hz := hr.go (fun r' o x y z => wz.1 r' o x (fun e => absurd e y) z) wz.2
  rw [hz.1]
  exact ⟨oP, hz⟩
end S91
