/-! the class: evenings -/
section E93
variable {J : Nat → Nat → Nat → Int64}
theorem s_forOne_13 {x1 : Int32} (h1 : 0 ≤ x1.toInt ∧ x1.toInt ≤ 5) : ∀ {n : Nat} {P : Nat → Nat → Nat} {F : Nat → Nat → Int32} {A : Nat → Nat → Nat → Int32} {J : Nat → Nat → Nat → Int64} {x2 : Int32}, Gc P F A → -1 ≤ x2.toInt ∧ x2.toInt ≤ 36 → 1500 - x2.toInt < (n : Int) → ok (e_Evening_seekForOne_13 n P F A J x1 x2) (fun r => QKc P r.2.1 F r.2.2.1 A r.2.2.2.1) := by
  intro n
  induction n with
  | zero => intro P F A J x2 G hx hn; exact absurd hn (by omega)
  | succ n ih =>
    intro P F A J x2 G hx hn
    have l1 : (1 : Int32).toInt = 1 := by decide
    have l36 : (36 : Int32).toInt = 36 := by decide
    have e2 : (x2 + 1).toInt = x2.toInt + 1 := by rw [i_add (by omega) (by omega), l1]
    unfold e_Evening_seekForOne_13
    refine ok_cond (fun _ => ok_some (QKc.rfl' G.1)) (fun c => ?_)
    rw [i_nge] at c
    refine ok_chk G.k324 ?_
    refine ok_call (s_mayBeLeft G.k324 G.1 ⟨by omega, by omega⟩) ?_
    intro v vp
    refine ok_cond (fun _ => ?_) (fun c2 => ?_)
    · unfold e_Evening_seekForOne_73
      exact ih G (by omega) (by omega)
    · rw [i_neq] at c2
      have lx : LVx A (P 0 8) x2.toInt := by
        rw [← G.2.2.1]
        rcases vp with z | z
        · exact absurd z (by rw [show (0 : Int32).toInt = 0 by decide] at c2; exact c2)
        · exact z.2
      refine ok_call (q_trial G) ?_
      rintro ⟨u, P2, F2, A2, J2⟩ ⟨g1, q2, L2, -⟩
      dsimp only at g1 q2 L2 ⊢
      subst g1
      have G2 := q2.g G
      refine ok_cst (by omega) (by omega) ?_
      intro A3 U3
      have q3 := q2.st U3 trivial tf33
      have G3 := q3.g G
      have L3 : LVc A3 (P2 0 8) 33 := L2.put U3 G2.n33 (lx.cg ((q2.2.2.1 _ G.live).2 5 (by decide)))
      refine ok_call (q_gainOfTrial G3 L3 (by omega)) ?_
      rintro ⟨v4, P4, F4, A4, J4⟩ q4
      dsimp only at q4 ⊢
      have G4 := q4.g G3
      refine ok_call (q_offer G4) ?_
      rintro ⟨u5, P5, F5, A5, J5⟩ q5
      dsimp only at q5 ⊢
      have G5 := q5.g G4
      have qa := (q3.tr q4).tr q5
      refine ok_cond (fun _ => ?_) (fun _ => ?_)
      · unfold e_Evening_seekForOne_73
        exact ok_mono (ih G5 (by omega) (by omega)) (fun r hr => qa.tr hr)
      · refine ok_cpf ?_
        intro F6 U6
        have q6 := (QKc.rfl' (P := P5) G5.1).pf U6 trivial (by decide)
        exact ok_mono (ih (q6.g G5) (by omega) (by omega)) (fun r hr => (qa.tr q6).tr hr)
theorem s_forOne {n : Nat} {P : Nat → Nat → Nat} {F : Nat → Nat → Int32} {A : Nat → Nat → Nat → Int32} {x1 : Int32} (G : Gc P F A) (h1 : 0 ≤ x1.toInt ∧ x1.toInt ≤ 5) (hn : 1600 ≤ n) : ok (e_Evening_seekForOne n P F A J x1) (fun r => QKc P r.2.1 F r.2.2.1 A r.2.2.2.1) := by
  have lm : (-1 : Int32).toInt = -1 := by decide
  unfold e_Evening_seekForOne
  refine ok_call (q_isAnswered G (by omega)) ?_
  rintro ⟨v, P2, F2, A2, J2⟩ q2
  dsimp only at q2 ⊢
  refine ok_cond (fun _ => ?_) (fun _ => ok_some q2)
  exact ok_mono (s_forOne_13 h1 (q2.g G) (by decide) (by omega)) (fun r hr => q2.tr hr)
theorem s_forTwo_22 {Q : Unit × (Nat → Nat → Nat) × (Nat → Nat → Int32) × (Nat → Nat → Nat → Int32) × (Nat → Nat → Nat → Int64) → Prop} {K13 : (Nat → Nat → Nat) → (Nat → Nat → Int32) → (Nat → Nat → Nat → Int32) → (Nat → Nat → Nat → Int64) → Int32 → Int32 → Int32 → Option (Unit × (Nat → Nat → Nat) × (Nat → Nat → Int32) × (Nat → Nat → Nat → Int32) × (Nat → Nat → Nat → Int64))} {P0 : Nat → Nat → Nat} {F0 : Nat → Nat → Int32} {A0 : Nat → Nat → Nat → Int32} {x1 x2 x3 : Int32} (h1 : 0 ≤ x1.toInt ∧ x1.toInt ≤ 5) (h2 : 0 ≤ x2.toInt ∧ x2.toInt ≤ 5) (h3 : -1 ≤ x3.toInt ∧ x3.toInt ≤ 35) (G0 : Gc P0 F0 A0) (hK : ∀ P F A J, QKc P0 P F0 F A0 A → ok (K13 P F A J x1 x2 (x3 + 1)) Q) : ∀ {n : Nat} {P : Nat → Nat → Nat} {F : Nat → Nat → Int32} {A : Nat → Nat → Nat → Int32} {J : Nat → Nat → Nat → Int64} {x4 : Int32}, QKc P0 P F0 F A0 A → -1 ≤ x4.toInt ∧ x4.toInt ≤ 36 → 1500 - x4.toInt < (n : Int) → ok (e_Evening_seekForTwo_22 K13 n P F A J x1 x2 x3 x4) Q := by
  intro n
  induction n with
  | zero => intro P F A J x4 q hx hn; exact absurd hn (by omega)
  | succ n ih =>
    intro P F A J x4 q hx hn
    have G := q.g G0
    have l0 : (0 : Int32).toInt = 0 := by decide
    have l1 : (1 : Int32).toInt = 1 := by decide
    have l36 : (36 : Int32).toInt = 36 := by decide
    have e4 : (x4 + 1).toInt = x4.toInt + 1 := by rw [i_add (by omega) (by omega), l1]
    have f101 : ok (e_Evening_seekForTwo_101 K13 n P F A J x1 x2 x3) Q := by
      unfold e_Evening_seekForTwo_101
      exact hK P F A J q
    unfold e_Evening_seekForTwo_22
    refine ok_cond (fun _ => f101) (fun c => ?_)
    rw [i_nge] at c
    refine ok_chk G.k324 ?_
    refine ok_call (s_mayBeLeft G.k324 G.1 ⟨by omega, by omega⟩) ?_
    intro v vp
    refine ok_cond (fun _ => f101) (fun c2 => ?_)
    rw [i_neq, l0] at c2
    have la : LVx A (P 0 8) x3.toInt := by rw [← G.2.2.1]; exact (vp.resolve_left c2).2
    refine ok_chk G.k324 ?_
    refine ok_call (s_mayBeLeft G.k324 G.1 ⟨by omega, by omega⟩) ?_
    intro w wp
    refine ok_cond (fun _ => ?_) (fun c3 => ?_)
    · unfold e_Evening_seekForTwo_95
      exact ih q (by omega) (by omega)
    · rw [i_neq, l0] at c3
      have lb : LVx A (P 0 8) x4.toInt := by rw [← G.2.2.1]; exact (wp.resolve_left c3).2
      refine ok_call (q_trial G) ?_
      rintro ⟨u, P2, F2, A2, J2⟩ ⟨g1, q2, L2, -⟩
      dsimp only at g1 q2 L2 ⊢
      subst g1
      have G2 := q2.g G
      have k5 := (q2.2.2.1 _ G.live).2 5 (by decide)
      refine ok_cst (by omega) (by omega) ?_
      intro A3 U3
      refine ok_cst (by omega) (by omega) ?_
      intro A4 U4
      have q4 := (q2.st U3 trivial tf33).st U4 trivial tf33
      have G4 := q4.g G
      have L3 : LVc A3 (P2 0 8) 33 := L2.put U3 G2.n33 (la.cg k5)
      have L4 : LVc A4 (P2 0 8) 33 := L3.put U4 G2.n33 ((lb.cg k5).cg (U3.2.2 _ 5 (fun e => G2.n33 e.1)))
      refine ok_call (q_gainOfTrial G4 L4 (by omega)) ?_
      rintro ⟨v5, P5, F5, A5, J5⟩ q5
      dsimp only at q5 ⊢
      refine ok_call (q_offer (q5.g G4)) ?_
      rintro ⟨u6, P6, F6, A6, J6⟩ q6
      dsimp only at q6 ⊢
      exact ih (q.tr ((q4.tr q5).tr q6)) (by omega) (by omega)
theorem s_forTwo_13 {x1 x2 : Int32} (h1 : 0 ≤ x1.toInt ∧ x1.toInt ≤ 5) (h2 : 0 ≤ x2.toInt ∧ x2.toInt ≤ 5) {P0 : Nat → Nat → Nat} {F0 : Nat → Nat → Int32} {A0 : Nat → Nat → Nat → Int32} (G0 : Gc P0 F0 A0) : ∀ {n : Nat} {P : Nat → Nat → Nat} {F : Nat → Nat → Int32} {A : Nat → Nat → Nat → Int32} {J : Nat → Nat → Nat → Int64} {x3 : Int32}, QKc P0 P F0 F A0 A → -1 ≤ x3.toInt ∧ x3.toInt ≤ 36 → 1600 - x3.toInt < (n : Int) → ok (e_Evening_seekForTwo_13 n P F A J x1 x2 x3) (fun r => QKc P0 r.2.1 F0 r.2.2.1 A0 r.2.2.2.1) := by
  intro n
  induction n with
  | zero => intro P F A J x3 q hx hn; exact absurd hn (by omega)
  | succ n ih =>
    intro P F A J x3 q hx hn
    have l1 : (1 : Int32).toInt = 1 := by decide
    have lm : (-1 : Int32).toInt = -1 := by decide
    have l36 : (36 : Int32).toInt = 36 := by decide
    have e3 : (x3 + 1).toInt = x3.toInt + 1 := by rw [i_add (by omega) (by omega), l1]
    unfold e_Evening_seekForTwo_13
    refine ok_cond (fun _ => ok_some q) (fun c => ?_)
    rw [i_nge] at c
    exact s_forTwo_22 h1 h2 ⟨by omega, by omega⟩ G0 (fun P F A J q => ih q (by omega) (by omega)) q (by decide) (by omega)
theorem s_forTwo {n : Nat} {P : Nat → Nat → Nat} {F : Nat → Nat → Int32} {A : Nat → Nat → Nat → Int32} {x1 x2 : Int32} (G : Gc P F A) (h1 : 0 ≤ x1.toInt ∧ x1.toInt ≤ 5) (h2 : 0 ≤ x2.toInt ∧ x2.toInt ≤ 5) (hn : 1700 ≤ n) : ok (e_Evening_seekForTwo n P F A J x1 x2) (fun r => QKc P r.2.1 F r.2.2.1 A r.2.2.2.1) := by
  have lm : (-1 : Int32).toInt = -1 := by decide
  unfold e_Evening_seekForTwo
  refine ok_call (q_isAnswered G (by omega)) ?_
  rintro ⟨v, P2, F2, A2, J2⟩ q2
  dsimp only at q2 ⊢
  refine ok_cond (fun _ => ?_) (fun _ => ok_some q2)
  exact s_forTwo_13 h1 h2 G q2 (by decide) (by omega)
theorem s_hide_13 {x1 : Int32} (h1 : 0 ≤ x1.toInt ∧ x1.toInt ≤ 5) : ∀ {n : Nat} {P : Nat → Nat → Nat} {F : Nat → Nat → Int32} {A : Nat → Nat → Nat → Int32} {J : Nat → Nat → Nat → Int64} {x2 : Int32}, Gc P F A → 0 ≤ x2.toInt ∧ x2.toInt ≤ 14 → 1500 - x2.toInt < (n : Int) → ok (e_Evening_seekHidingPlace_13 n P F A J x1 x2) (fun r => QKc P r.2.1 F r.2.2.1 A r.2.2.2.1) := by
  intro n
  induction n with
  | zero => intro P F A J x2 G hx hn; exact absurd hn (by omega)
  | succ n ih =>
    intro P F A J x2 G hx hn
    have l1 : (1 : Int32).toInt = 1 := by decide
    have e2 : (x2 + 1).toInt = x2.toInt + 1 := by rw [i_add (by omega) (by omega), l1]
    have a1 : 0 ≤ (F (P 32 4) 13).toInt ∧ (F (P 32 4) 13).toInt ≤ 8 := by have := G.1.1 (P 32 4) 13; rw [G.k324] at this; exact this
    have a2 : 0 ≤ (F (P 32 4) 17).toInt ∧ (F (P 32 4) 17).toInt ≤ 6 := by have := G.1.1 (P 32 4) 17; rw [G.k324] at this; exact this
    have a3 := i_add (x := F (P 32 4) 13) (y := F (P 32 4) 17) (by omega) (by omega)
    have f59 : x2.toInt < 14 → ∀ s0 : Int32, ok (e_Evening_seekHidingPlace_59 (e_Evening_seekHidingPlace_13 n) n P F A J x1 x2 s0) (fun r => QKc P r.2.1 F r.2.2.1 A r.2.2.2.1) := by
      intro hlt s0
      unfold e_Evening_seekHidingPlace_59
      refine ok_call (q_trial G) ?_
      rintro ⟨u, P2, F2, A2, J2⟩ ⟨g1, q2, L2, -⟩
      dsimp only at g1 q2 L2 ⊢
      subst g1
      have G2 := q2.g G
      refine ok_cst (by omega) (by omega) ?_
      intro A3 U3
      have q3 := q2.st U3 trivial tf33'
      have G3 := q3.g G
      have L3 : LVc A3 (P2 0 8) 33 := L2.cg (U3.2.2 _ 5 (fun e => G2.n33 e.1)) (U3.2.2 33 3 (by simp))
      refine ok_call (q_gainOfTrial G3 L3 (by omega)) ?_
      rintro ⟨v4, P4, F4, A4, J4⟩ q4
      dsimp only at q4 ⊢
      refine ok_call (q_offer (q4.g G3)) ?_
      rintro ⟨u5, P5, F5, A5, J5⟩ q5
      dsimp only at q5 ⊢
      exact ok_mono (ih (q5.g (q4.g G3)) (by omega) (by omega)) (fun r hr => ((q3.tr q4).tr q5).tr hr)
    unfold e_Evening_seekHidingPlace_13
    refine ok_chk G.k324 ?_
    refine ok_chk G.k324 ?_
    refine ok_cond (fun _ => ok_some (QKc.rfl' G.1)) (fun c => ?_)
    rw [i_nge] at c
    refine ok_chk G.k324 ?_
    refine ok_cond (fun _ => ?_) (fun _ => f59 (by omega) _)
    refine ok_chk G.k324 ?_
    exact f59 (by omega) _
theorem s_hide {n : Nat} {P : Nat → Nat → Nat} {F : Nat → Nat → Int32} {A : Nat → Nat → Nat → Int32} {x1 : Int32} (G : Gc P F A) (h1 : 0 ≤ x1.toInt ∧ x1.toInt ≤ 5) (hn : 1600 ≤ n) : ok (e_Evening_seekHidingPlace n P F A J x1) (fun r => QKc P r.2.1 F r.2.2.1 A r.2.2.2.1) := by
  have l0 : (0 : Int32).toInt = 0 := by decide
  unfold e_Evening_seekHidingPlace
  refine ok_call (q_isAnswered G (by omega)) ?_
  rintro ⟨v, P2, F2, A2, J2⟩ q2
  dsimp only at q2 ⊢
  refine ok_cond (fun _ => ?_) (fun _ => ok_some q2)
  exact ok_mono (s_hide_13 h1 (q2.g G) (by decide) (by omega)) (fun r hr => q2.tr hr)
theorem s_isSoIn_2 {P : Nat → Nat → Nat} {F : Nat → Nat → Int32} {A : Nat → Nat → Nat → Int32} {r1 : Nat} {x2 : Int32} (R : Rc F A) : ∀ {n : Nat} {x3 : Int32}, 0 ≤ x3.toInt ∧ x3.toInt ≤ 30 → 31 - x3.toInt < (n : Int) → ok (e_Told_isSoIn_2 n P F A J r1 x2 x3) (fun _ => True) := by
  intro n
  induction n with
  | zero => intro x3 hx hn; exact absurd hn (by omega)
  | succ n ih =>
    intro x3 hx hn
    have l1 : (1 : Int32).toInt = 1 := by decide
    have a1 : 0 ≤ (F 25 2).toInt ∧ (F 25 2).toInt ≤ 30 := R.1 25 2
    unfold e_Told_isSoIn_2
    refine ok_cond (fun _ => ok_some trivial) (fun _ => ?_)
    refine ok_cond (fun _ => ok_some trivial) (fun c => ?_)
    rw [i_nge] at c
    have e3 := i_add (x := x3) (y := 1) (by omega) (by omega)
    refine ok_ldc (K := 4) R (by decide) (by omega) (by omega) ?_
    intro v3 _ v3r
    change 0 ≤ v3.toInt ∧ v3.toInt ≤ 35 at v3r
    refine ok_ldn (by omega) (by omega) (fun v4 => ?_)
    refine ok_ldn (by omega) (by omega) (fun v5 => ?_)
    exact ok_cond (fun _ => ih (by omega) (by omega)) (fun _ => ok_some trivial)
theorem s_isSoIn {n : Nat} {P : Nat → Nat → Nat} {F : Nat → Nat → Int32} {A : Nat → Nat → Nat → Int32} {r1 : Nat} {x2 : Int32} (R : Rc F A) (hn : 40 ≤ n) : ok (e_Told_isSoIn n P F A J r1 x2) (fun _ => True) := by
  have l0 : (0 : Int32).toInt = 0 := by decide
  unfold e_Told_isSoIn
  exact s_isSoIn_2 R (by decide) (by omega)
theorem s_fits_18 {x1 x2 : Int32} (h1 : 0 ≤ x1.toInt ∧ x1.toInt ≤ 5) : ∀ {n : Nat} {P : Nat → Nat → Nat} {F : Nat → Nat → Int32} {A : Nat → Nat → Nat → Int32} {J : Nat → Nat → Nat → Int64} {x3 : Int32}, Gc P F A → -1 ≤ x3.toInt ∧ x3.toInt ≤ 36 → cf F 32 15 ≤ x3.toInt + 1 → 1500 - x3.toInt < (n : Int) → ok (e_Evening_seekFits_18 n P F A J x1 x2 x3) (fun r => QKc P r.2.1 F r.2.2.1 A r.2.2.2.1) := by
  intro n
  induction n with
  | zero => intro P F A J x3 G hx hf hn; exact absurd hn (by omega)
  | succ n ih =>
    intro P F A J x3 G hx hf hn
    have l0 : (0 : Int32).toInt = 0 := by decide
    have l1 : (1 : Int32).toInt = 1 := by decide
    have l36 : (36 : Int32).toInt = 36 := by decide
    have e3 : (x3 + 1).toInt = x3.toInt + 1 := by rw [i_add (by omega) (by omega), l1]
    unfold e_Evening_seekFits_18
    refine ok_cond (fun _ => ok_some (QKc.rfl' G.1)) (fun c => ?_)
    rw [i_nge] at c
    refine ok_chk G.k324 ?_
    refine ok_call (s_mayBeLeft G.k324 G.1 ⟨by omega, by omega⟩) ?_
    intro v vp
    refine ok_cond (fun _ => ?_) (fun c2 => ?_)
    · unfold e_Evening_seekFits_113
      exact ih G (by omega) (by omega) (by omega)
    · rw [i_neq, l0] at c2
      have la : LVx A (P 0 8) x3.toInt := by rw [← G.2.2.1]; exact (vp.resolve_left c2).2
      refine ok_call (q_trial G) ?_
      rintro ⟨u, P2, F2, A2, J2⟩ ⟨g1, q2, L2, k2⟩
      dsimp only at g1 q2 L2 k2 ⊢
      subst g1
      have G2 := q2.g G
      refine ok_cst (by omega) (by omega) ?_
      intro A3 U3
      have q3 := q2.st U3 trivial tf33
      have G3 := q3.g G
      have L3 : LVc A3 (P2 0 8) 33 := L2.put U3 G2.n33 (la.cg ((q2.2.2.1 _ G.live).2 5 (by decide)))
      refine ok_chk G3.k324 ?_
      refine ok_chk G3.k324 ?_
      refine ok_call (q_goTill G3 L3 (by rw [G3.2.2.1]; exact G3.2.2.2.1.2.2.2.2.2.2) (by omega)) ?_
      rintro ⟨u4, P4, F4, A4, J4⟩ ⟨q4, k4⟩
      dsimp only at q4 k4 ⊢
      have G4 := q4.g G3
      have qa := q3.tr q4
      have k15 : F4 32 15 = F 32 15 := (k4 15).trans (k2 15)
      refine ok_call (s_isSoIn G4.1 (by omega)) ?_
      intro v5 _
      unfold cf at hf
      refine ok_cond (fun _ => ?_) (fun _ => ?_)
      · unfold e_Evening_seekFits_113
        exact ok_mono (ih G4 (by omega) (by unfold cf; rw [k15]; omega) (by omega)) (fun r hr => qa.tr hr)
      · have a1 : 0 ≤ (F4 32 15).toInt ∧ (F4 32 15).toInt ≤ 37 := G4.1.1 32 15
        rw [k15] at a1
        have e15 : (F4 32 15 + 1).toInt = (F 32 15).toInt + 1 := by rw [k15, i_add (by omega) (by omega), l1]
        refine ok_cst (by rw [k15]; omega) (by rw [k15]; omega) ?_
        intro A6 U6
        refine ok_cpf ?_
        intro F7 U7
        have q7 := ((QKc.rfl' (P := P4) G4.1).st U6 trivial ⟨fun h => absurd h (by decide), fun h => absurd h (by decide)⟩).pf U7 (show 0 ≤ (F4 32 15 + 1).toInt ∧ (F4 32 15 + 1).toInt ≤ 37 by omega) (by decide)
        exact ok_mono (ih (q7.g G4) (by omega) (by unfold cf; rw [U7.1]; omega) (by omega)) (fun r hr => (qa.tr q7).tr hr)
theorem s_fits {n : Nat} {P : Nat → Nat → Nat} {F : Nat → Nat → Int32} {A : Nat → Nat → Nat → Int32} {x1 x2 : Int32} (G : Gc P F A) (h1 : 0 ≤ x1.toInt ∧ x1.toInt ≤ 5) (hn : 1600 ≤ n) : ok (e_Evening_seekFits n P F A J x1 x2) (fun r => QKc P r.2.1 F r.2.2.1 A r.2.2.2.1) := by
  have lm : (-1 : Int32).toInt = -1 := by decide
  have l0 : (0 : Int32).toInt = 0 := by decide
  unfold e_Evening_seekFits
  refine ok_call (q_isAnswered G (by omega)) ?_
  rintro ⟨v, P2, F2, A2, J2⟩ q2
  dsimp only at q2 ⊢
  refine ok_cond (fun _ => ?_) (fun _ => ok_some q2)
  refine ok_cpf ?_
  intro F3 U3
  have q3 := q2.pf U3 (show 0 ≤ (0 : Int32).toInt ∧ (0 : Int32).toInt ≤ 37 by decide) (by decide)
  exact ok_mono (s_fits_18 h1 (q3.g G) (by decide) (by unfold cf; rw [U3.1]; omega) (by omega)) (fun r hr => q3.tr hr)
theorem s_isSuspect_2 {x1 x2 : Int32} (h1 : 0 ≤ x1.toInt ∧ x1.toInt ≤ 5) : ∀ {n : Nat} {P : Nat → Nat → Nat} {F : Nat → Nat → Int32} {A : Nat → Nat → Nat → Int32} {J : Nat → Nat → Nat → Int64} {x3 : Int32}, Gc P F A → -1 ≤ x3.toInt ∧ x3.toInt ≤ 36 → 1500 - x3.toInt < (n : Int) → ok (e_Evening_isSuspect_2 n P F A J x1 x2 x3) (fun r => QKc P r.2.1 F r.2.2.1 A r.2.2.2.1) := by
  intro n
  induction n with
  | zero => intro P F A J x3 G hx hn; exact absurd hn (by omega)
  | succ n ih =>
    intro P F A J x3 G hx hn
    have l0 : (0 : Int32).toInt = 0 := by decide
    have l1 : (1 : Int32).toInt = 1 := by decide
    have l36 : (36 : Int32).toInt = 36 := by decide
    have e3 : (x3 + 1).toInt = x3.toInt + 1 := by rw [i_add (by omega) (by omega), l1]
    unfold e_Evening_isSuspect_2
    refine ok_cond (fun _ => ok_some (QKc.rfl' G.1)) (fun c => ?_)
    rw [i_nge] at c
    refine ok_chk G.k324 ?_
    refine ok_call (s_mayBeLeft G.k324 G.1 ⟨by omega, by omega⟩) ?_
    intro v vp
    have next : ∀ {P' F' A' J'}, QKc P P' F F' A A' → ok (e_Evening_isSuspect_92 (e_Evening_isSuspect_2 n) n P' F' A' J' x1 x2 x3) (fun r => QKc P r.2.1 F r.2.2.1 A r.2.2.2.1) := fun q => by
      unfold e_Evening_isSuspect_92
      exact ok_mono (ih (q.g G) (by omega) (by omega)) (fun r hr => q.tr hr)
    refine ok_cond (fun _ => next (QKc.rfl' G.1)) (fun c2 => ?_)
    rw [i_neq, l0] at c2
    have la : LVx A (P 0 8) x3.toInt := by rw [← G.2.2.1]; exact (vp.resolve_left c2).2
    refine ok_ldn (by omega) (by omega) (fun v5 => ?_)
    refine ok_cond (fun _ => next (QKc.rfl' G.1)) (fun _ => ?_)
    refine ok_call (q_trial G) ?_
    rintro ⟨u, P2, F2, A2, J2⟩ ⟨g1, q2, L2, k2⟩
    dsimp only at g1 q2 L2 k2 ⊢
    subst g1
    have G2 := q2.g G
    refine ok_cst (by omega) (by omega) ?_
    intro A3 U3
    have q3 := q2.st U3 trivial tf33
    have G3 := q3.g G
    have L3 : LVc A3 (P2 0 8) 33 := L2.put U3 G2.n33 (la.cg ((q2.2.2.1 _ G.live).2 5 (by decide)))
    refine ok_chk G3.k324 ?_
    refine ok_chk G3.k324 ?_
    refine ok_call (q_goTill G3 L3 (by rw [G3.2.2.1]; exact G3.2.2.2.1.2.2.2.2.2.2) (by omega)) ?_
    rintro ⟨u4, P4, F4, A4, J4⟩ ⟨q4, k4⟩
    dsimp only at q4 k4 ⊢
    refine ok_call (s_isSoIn (q4.g G3).1 (by omega)) ?_
    intro v5 _
    exact ok_cond (fun _ => next (q3.tr q4)) (fun _ => ok_some (q3.tr q4))
theorem s_suspectBits_4 {x1 : Int32} : ∀ {n : Nat} {P : Nat → Nat → Nat} {F : Nat → Nat → Int32} {A : Nat → Nat → Nat → Int32} {J : Nat → Nat → Nat → Int64} {x2 x3 : Int32}, Gc P F A → 0 ≤ x3.toInt ∧ x3.toInt ≤ 6 → 1600 - x3.toInt < (n : Int) → ok (e_Evening_suspectBits_4 n P F A J x1 x2 x3) (fun r => QKc P r.2.1 F r.2.2.1 A r.2.2.2.1) := by
  intro n
  induction n with
  | zero => intro P F A J x2 x3 G hx hn; exact absurd hn (by omega)
  | succ n ih =>
    intro P F A J x2 x3 G hx hn
    have l1 : (1 : Int32).toInt = 1 := by decide
    have lm : (-1 : Int32).toInt = -1 := by decide
    have e3 : (x3 + 1).toInt = x3.toInt + 1 := by rw [i_add (by omega) (by omega), l1]
    have a2 : 0 ≤ (F (P 32 4) 17).toInt ∧ (F (P 32 4) 17).toInt ≤ 6 := by have := G.1.1 (P 32 4) 17; rw [G.k324] at this; exact this
    unfold e_Evening_suspectBits_4
    refine ok_chk G.k324 ?_
    refine ok_cond (fun _ => ok_some (QKc.rfl' G.1)) (fun c => ?_)
    rw [i_nge] at c
    unfold e_Evening_isSuspect
    refine ok_call (s_isSuspect_2 ⟨by omega, by omega⟩ G (by decide) (by omega)) ?_
    rintro ⟨v, P2, F2, A2, J2⟩ q2
    dsimp only at q2 ⊢
    refine ok_cond (fun _ => ?_) (fun _ => ?_)
    · unfold e_Evening_suspectBits_30
      exact ok_mono (ih (q2.g G) (by omega) (by omega)) (fun r hr => q2.tr hr)
    · unfold e_Evening_suspectBits_30
      exact ok_mono (ih (q2.g G) (by omega) (by omega)) (fun r hr => q2.tr hr)
theorem s_pairs_16 {Q : Int32 × (Nat → Nat → Nat) × (Nat → Nat → Int32) × (Nat → Nat → Nat → Int32) × (Nat → Nat → Nat → Int64) → Prop} {K6 : (Nat → Nat → Nat) → (Nat → Nat → Int32) → (Nat → Nat → Nat → Int32) → (Nat → Nat → Nat → Int64) → Int32 → Int32 → Int32 → Int32 → Int32 → Option (Int32 × (Nat → Nat → Nat) × (Nat → Nat → Int32) × (Nat → Nat → Nat → Int32) × (Nat → Nat → Nat → Int64))} {P0 : Nat → Nat → Nat} {F0 : Nat → Nat → Int32} {A0 : Nat → Nat → Nat → Int32} {x1 x2 x3 x5 : Int32} (h1 : 0 ≤ x1.toInt ∧ x1.toInt ≤ 5) (h2 : 0 ≤ x2.toInt ∧ x2.toInt ≤ 5) (h5 : -1 ≤ x5.toInt ∧ x5.toInt ≤ 35) (G0 : Gc P0 F0 A0) (hK : ∀ P F A J x4, QKc P0 P F0 F A0 A → ok (K6 P F A J x1 x2 x3 x4 (x5 + 1)) Q) : ∀ {n : Nat} {P : Nat → Nat → Nat} {F : Nat → Nat → Int32} {A : Nat → Nat → Nat → Int32} {J : Nat → Nat → Nat → Int64} {x4 x6 : Int32}, QKc P0 P F0 F A0 A → -1 ≤ x6.toInt ∧ x6.toInt ≤ 36 → 1500 - x6.toInt < (n : Int) → ok (e_Evening_fittingPairs_16 K6 n P F A J x1 x2 x3 x4 x5 x6) Q := by
  intro n
  induction n with
  | zero => intro P F A J x4 x6 q hx hn; exact absurd hn (by omega)
  | succ n ih =>
    intro P F A J x4 x6 q hx hn
    have G := q.g G0
    have l0 : (0 : Int32).toInt = 0 := by decide
    have l1 : (1 : Int32).toInt = 1 := by decide
    have l36 : (36 : Int32).toInt = 36 := by decide
    have e6 : (x6 + 1).toInt = x6.toInt + 1 := by rw [i_add (by omega) (by omega), l1]
    have f133 : ok (e_Evening_fittingPairs_133 K6 n P F A J x1 x2 x3 x4 x5) Q := by
      unfold e_Evening_fittingPairs_133
      exact hK P F A J x4 q
    unfold e_Evening_fittingPairs_16
    refine ok_cond (fun _ => f133) (fun c => ?_)
    rw [i_nge] at c
    refine ok_chk G.k324 ?_
    refine ok_call (s_mayBeLeft G.k324 G.1 ⟨by omega, by omega⟩) ?_
    intro v vp
    refine ok_cond (fun _ => f133) (fun c2 => ?_)
    rw [i_neq, l0] at c2
    have la : LVx A (P 0 8) x5.toInt := by rw [← G.2.2.1]; exact (vp.resolve_left c2).2
    refine ok_chk G.k324 ?_
    refine ok_call (s_mayBeLeft G.k324 G.1 ⟨by omega, by omega⟩) ?_
    intro w wp
    refine ok_cond (fun _ => ?_) (fun c3 => ?_)
    · unfold e_Evening_fittingPairs_127
      exact ih q (by omega) (by omega)
    · rw [i_neq, l0] at c3
      have lb : LVx A (P 0 8) x6.toInt := by rw [← G.2.2.1]; exact (wp.resolve_left c3).2
      refine ok_call (q_trial G) ?_
      rintro ⟨u, P2, F2, A2, J2⟩ ⟨g1, q2, L2, -⟩
      dsimp only at g1 q2 L2 ⊢
      subst g1
      have G2 := q2.g G
      have k5 := (q2.2.2.1 _ G.live).2 5 (by decide)
      refine ok_cst (by omega) (by omega) ?_
      intro A3 U3
      refine ok_cst (by omega) (by omega) ?_
      intro A4 U4
      have q4 := (q2.st U3 trivial tf33).st U4 trivial tf33
      have G4 := q4.g G
      have L3 : LVc A3 (P2 0 8) 33 := L2.put U3 G2.n33 (la.cg k5)
      have L4 : LVc A4 (P2 0 8) 33 := L3.put U4 G2.n33 ((lb.cg k5).cg (U3.2.2 _ 5 (fun e => G2.n33 e.1)))
      refine ok_chk G4.k324 ?_
      refine ok_chk G4.k324 ?_
      refine ok_call (q_goTill G4 L4 (by rw [G4.2.2.1]; exact G4.2.2.2.1.2.2.2.2.2.2) (by omega)) ?_
      rintro ⟨u5, P5, F5, A5, J5⟩ ⟨q5, k5⟩
      dsimp only at q5 k5 ⊢
      refine ok_call (s_isSoIn (q5.g G4).1 (by omega)) ?_
      intro v6 _
      refine ok_cond (fun _ => ?_) (fun _ => ?_)
      · unfold e_Evening_fittingPairs_124 e_Evening_fittingPairs_127
        exact ih (q.tr (q4.tr q5)) (by omega) (by omega)
      · unfold e_Evening_fittingPairs_124 e_Evening_fittingPairs_127
        exact ih (q.tr (q4.tr q5)) (by omega) (by omega)
theorem s_pairs_6 {x1 x2 x3 : Int32} (h1 : 0 ≤ x1.toInt ∧ x1.toInt ≤ 5) (h2 : 0 ≤ x2.toInt ∧ x2.toInt ≤ 5) {P0 : Nat → Nat → Nat} {F0 : Nat → Nat → Int32} {A0 : Nat → Nat → Nat → Int32} (G0 : Gc P0 F0 A0) : ∀ {n : Nat} {P : Nat → Nat → Nat} {F : Nat → Nat → Int32} {A : Nat → Nat → Nat → Int32} {J : Nat → Nat → Nat → Int64} {x4 x5 : Int32}, QKc P0 P F0 F A0 A → -1 ≤ x5.toInt ∧ x5.toInt ≤ 36 → 1600 - x5.toInt < (n : Int) → ok (e_Evening_fittingPairs_6 n P F A J x1 x2 x3 x4 x5) (fun r => QKc P0 r.2.1 F0 r.2.2.1 A0 r.2.2.2.1) := by
  intro n
  induction n with
  | zero => intro P F A J x4 x5 q hx hn; exact absurd hn (by omega)
  | succ n ih =>
    intro P F A J x4 x5 q hx hn
    have l1 : (1 : Int32).toInt = 1 := by decide
    have lm : (-1 : Int32).toInt = -1 := by decide
    have l36 : (36 : Int32).toInt = 36 := by decide
    have e3 : (x5 + 1).toInt = x5.toInt + 1 := by rw [i_add (by omega) (by omega), l1]
    unfold e_Evening_fittingPairs_6
    refine ok_cond (fun _ => ok_some q) (fun c => ?_)
    rw [i_nge] at c
    exact s_pairs_16 h1 h2 ⟨by omega, by omega⟩ G0 (fun P F A J x4 q => ih q (by omega) (by omega)) q (by decide) (by omega)
end E93
