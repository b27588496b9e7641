section Qz151
/-! tries of the class leave what is kept (printed by wip/quiet/quiet.py) -/
section H9f5
variable {P P' : Nat → Nat → Nat} {F F' : Nat → Nat → Int32} {A A' : Nat → Nat → Nat → Int32} {J : Nat → Nat → Nat → Int64}
theorem f_q_gainOfTrial {n : Nat} (G : Gc P F A) (L : LVc A (P 0 8) 33) (hn : 1400 ≤ n) : ok (e_Evening_gainOfTrial n P F A J) (fun r => QFc P r.2.1 F r.2.2.1 A r.2.2.2.1) := by
  have hm := G.2.2.2.1.2.2.2.2.2
  unfold e_Evening_gainOfTrial
  refine ok_chk G.k324 ?_
  refine ok_chk G.k324 ?_
  refine ok_call (fq_goTill G L (by rw [G.2.2.1]; exact hm.2) hn) ?_
  rintro ⟨u, P2, F2, A2, J2⟩ ⟨q, -⟩
  dsimp only at q ⊢
  have G2 := q.g G
  refine ok_chk G2.k324 ?_
  refine ok_call (s_worthOfAll G2.k324 G2.1 (by omega)) ?_
  intro v _
  exact ok_some q
theorem f_q_offer {x1 x2 x3 : Int32} (G : Gc P F A) : ok (e_Evening_offer P F A J x1 x2 x3) (fun r => QFc P r.2.1 F r.2.2.1 A r.2.2.2.1) := by
  unfold e_Evening_offer
  refine ok_cond (fun _ => ok_some (QFc.rfl' G.1)) (fun _ => ?_)
  refine ok_cpf ?_
  intro F2 U2
  refine ok_cpf ?_
  intro F3 U3
  refine ok_cpf ?_
  intro F4 U4
  exact ok_some ((((QFc.rfl' G.1).pf U2 trivial (by decide)).pf U3 trivial (by decide)).pf U4 trivial (by decide))
theorem f_q_isAnswered {n : Nat} {x1 x2 x3 : Int32} (G : Gc P F A) (hn : 60 ≤ n) : ok (e_Evening_isAnswered n P F A J x1 x2 x3) (fun r => QFc P r.2.1 F r.2.2.1 A r.2.2.2.1) := by
  have f26 : ok (e_Evening_isAnswered_26 n P F A J x1 x2 x3) (fun r => QFc P r.2.1 F r.2.2.1 A r.2.2.2.1) := by
    unfold e_Evening_isAnswered_26
    refine ok_cpf ?_
    intro F2 U2
    refine ok_cpf ?_
    intro F3 U3
    refine ok_cpf ?_
    intro F4 U4
    have q4 : QFc P P F F4 A A := (((QFc.rfl' G.1).pf U2 trivial (by decide)).pf U3 trivial (by decide)).pf U4 trivial (by decide)
    refine ok_chk G.k324 ?_
    refine ok_call (s_worthOfAll G.k324 q4.1.2.1 hn) ?_
    intro v _
    refine ok_cpf ?_
    intro F5 U5
    refine ok_cpf ?_
    intro F6 U6
    exact ok_some ((q4.pf U5 trivial (by decide)).pf U6 trivial (by decide))
  unfold e_Evening_isAnswered
  exact ok_cond (fun _ => f26) (fun _ => ok_cond (fun _ => f26) (fun _ => ok_cond (fun _ => f26) (fun _ => ok_some (QFc.rfl' G.1))))
theorem f_s_forOne_13 {x1 : Int32} (h1 : 0 ≤ x1.toInt ∧ x1.toInt ≤ 5) : ∀ {n : Nat} {P : Nat → Nat → Nat} {F : Nat → Nat → Int32} {A : Nat → Nat → Nat → Int32} {J : Nat → Nat → Nat → Int64} {x2 : Int32}, Gc P F A → -1 ≤ x2.toInt ∧ x2.toInt ≤ 36 → 1500 - x2.toInt < (n : Int) → ok (e_Evening_seekForOne_13 n P F A J x1 x2) (fun r => QFc P r.2.1 F r.2.2.1 A r.2.2.2.1) := by
  intro n
  induction n with
  | zero => intro P F A J x2 G hx hn; exact absurd hn (by omega)
  | succ n ih =>
    intro P F A J x2 G hx hn
    have l1 : (1 : Int32).toInt = 1 := by decide
    have l36 : (36 : Int32).toInt = 36 := by decide
    have e2 : (x2 + 1).toInt = x2.toInt + 1 := by rw [i_add (by omega) (by omega), l1]
    unfold e_Evening_seekForOne_13
    refine ok_cond (fun _ => ok_some (QFc.rfl' G.1)) (fun c => ?_)
    rw [i_nge] at c
    refine ok_chk G.k324 ?_
    refine ok_call (s_mayBeLeft G.k324 G.1 ⟨by omega, by omega⟩) ?_
    intro v vp
    refine ok_cond (fun _ => ?_) (fun c2 => ?_)
    · unfold e_Evening_seekForOne_73
      exact ih G (by omega) (by omega)
    · rw [i_neq] at c2
      have lx : LVx A (P 0 8) x2.toInt := by
        rw [← G.2.2.1]
        rcases vp with z | z
        · exact absurd z (by rw [show (0 : Int32).toInt = 0 by decide] at c2; exact c2)
        · exact z.2
      refine ok_call (fq_trial G) ?_
      rintro ⟨u, P2, F2, A2, J2⟩ ⟨g1, q2, L2, -⟩
      dsimp only at g1 q2 L2 ⊢
      subst g1
      have G2 := q2.g G
      refine ok_cst (by omega) (by omega) ?_
      intro A3 U3
      have q3 := q2.st U3 trivial tg33
      have G3 := q3.g G
      have L3 : LVc A3 (P2 0 8) 33 := L2.put U3 G2.n33 (lx.cg ((q2.1.2.2.1 _ G.live).2 5 (by decide)))
      refine ok_call (f_q_gainOfTrial G3 L3 (by omega)) ?_
      rintro ⟨v4, P4, F4, A4, J4⟩ q4
      dsimp only at q4 ⊢
      have G4 := q4.g G3
      refine ok_call (f_q_offer G4) ?_
      rintro ⟨u5, P5, F5, A5, J5⟩ q5
      dsimp only at q5 ⊢
      have G5 := q5.g G4
      have qa := (q3.tr q4).tr q5
      refine ok_cond (fun _ => ?_) (fun _ => ?_)
      · unfold e_Evening_seekForOne_73
        exact ok_mono (ih G5 (by omega) (by omega)) (fun r hr => qa.tr hr)
      · refine ok_cpf ?_
        intro F6 U6
        have q6 := (QFc.rfl' (P := P5) G5.1).pf U6 trivial (by decide)
        exact ok_mono (ih (q6.g G5) (by omega) (by omega)) (fun r hr => (qa.tr q6).tr hr)
theorem f_s_forOne {n : Nat} {P : Nat → Nat → Nat} {F : Nat → Nat → Int32} {A : Nat → Nat → Nat → Int32} {x1 : Int32} (G : Gc P F A) (h1 : 0 ≤ x1.toInt ∧ x1.toInt ≤ 5) (hn : 1600 ≤ n) : ok (e_Evening_seekForOne n P F A J x1) (fun r => QFc P r.2.1 F r.2.2.1 A r.2.2.2.1) := by
  have lm : (-1 : Int32).toInt = -1 := by decide
  unfold e_Evening_seekForOne
  refine ok_call (f_q_isAnswered G (by omega)) ?_
  rintro ⟨v, P2, F2, A2, J2⟩ q2
  dsimp only at q2 ⊢
  refine ok_cond (fun _ => ?_) (fun _ => ok_some q2)
  exact ok_mono (f_s_forOne_13 h1 (q2.g G) (by decide) (by omega)) (fun r hr => q2.tr hr)
theorem f_s_forTwo_22 {Q : Unit × (Nat → Nat → Nat) × (Nat → Nat → Int32) × (Nat → Nat → Nat → Int32) × (Nat → Nat → Nat → Int64) → Prop} {K13 : (Nat → Nat → Nat) → (Nat → Nat → Int32) → (Nat → Nat → Nat → Int32) → (Nat → Nat → Nat → Int64) → Int32 → Int32 → Int32 → Option (Unit × (Nat → Nat → Nat) × (Nat → Nat → Int32) × (Nat → Nat → Nat → Int32) × (Nat → Nat → Nat → Int64))} {P0 : Nat → Nat → Nat} {F0 : Nat → Nat → Int32} {A0 : Nat → Nat → Nat → Int32} {x1 x2 x3 : Int32} (h1 : 0 ≤ x1.toInt ∧ x1.toInt ≤ 5) (h2 : 0 ≤ x2.toInt ∧ x2.toInt ≤ 5) (h3 : -1 ≤ x3.toInt ∧ x3.toInt ≤ 35) (G0 : Gc P0 F0 A0) (hK : ∀ P F A J, QFc P0 P F0 F A0 A → ok (K13 P F A J x1 x2 (x3 + 1)) Q) : ∀ {n : Nat} {P : Nat → Nat → Nat} {F : Nat → Nat → Int32} {A : Nat → Nat → Nat → Int32} {J : Nat → Nat → Nat → Int64} {x4 : Int32}, QFc P0 P F0 F A0 A → -1 ≤ x4.toInt ∧ x4.toInt ≤ 36 → 1500 - x4.toInt < (n : Int) → ok (e_Evening_seekForTwo_22 K13 n P F A J x1 x2 x3 x4) Q := by
  intro n
  induction n with
  | zero => intro P F A J x4 q hx hn; exact absurd hn (by omega)
  | succ n ih =>
    intro P F A J x4 q hx hn
    have G := q.g G0
    have l0 : (0 : Int32).toInt = 0 := by decide
    have l1 : (1 : Int32).toInt = 1 := by decide
    have l36 : (36 : Int32).toInt = 36 := by decide
    have e4 : (x4 + 1).toInt = x4.toInt + 1 := by rw [i_add (by omega) (by omega), l1]
    have f101 : ok (e_Evening_seekForTwo_101 K13 n P F A J x1 x2 x3) Q := by
      unfold e_Evening_seekForTwo_101
      exact hK P F A J q
    unfold e_Evening_seekForTwo_22
    refine ok_cond (fun _ => f101) (fun c => ?_)
    rw [i_nge] at c
    refine ok_chk G.k324 ?_
    refine ok_call (s_mayBeLeft G.k324 G.1 ⟨by omega, by omega⟩) ?_
    intro v vp
    refine ok_cond (fun _ => f101) (fun c2 => ?_)
    rw [i_neq, l0] at c2
    have la : LVx A (P 0 8) x3.toInt := by rw [← G.2.2.1]; exact (vp.resolve_left c2).2
    refine ok_chk G.k324 ?_
    refine ok_call (s_mayBeLeft G.k324 G.1 ⟨by omega, by omega⟩) ?_
    intro w wp
    refine ok_cond (fun _ => ?_) (fun c3 => ?_)
    · unfold e_Evening_seekForTwo_95
      exact ih q (by omega) (by omega)
    · rw [i_neq, l0] at c3
      have lb : LVx A (P 0 8) x4.toInt := by rw [← G.2.2.1]; exact (wp.resolve_left c3).2
      refine ok_call (fq_trial G) ?_
      rintro ⟨u, P2, F2, A2, J2⟩ ⟨g1, q2, L2, -⟩
      dsimp only at g1 q2 L2 ⊢
      subst g1
      have G2 := q2.g G
      have k5 := (q2.1.2.2.1 _ G.live).2 5 (by decide)
      refine ok_cst (by omega) (by omega) ?_
      intro A3 U3
      refine ok_cst (by omega) (by omega) ?_
      intro A4 U4
      have q4 := (q2.st U3 trivial tg33).st U4 trivial tg33
      have G4 := q4.g G
      have L3 : LVc A3 (P2 0 8) 33 := L2.put U3 G2.n33 (la.cg k5)
      have L4 : LVc A4 (P2 0 8) 33 := L3.put U4 G2.n33 ((lb.cg k5).cg (U3.2.2 _ 5 (fun e => G2.n33 e.1)))
      refine ok_call (f_q_gainOfTrial G4 L4 (by omega)) ?_
      rintro ⟨v5, P5, F5, A5, J5⟩ q5
      dsimp only at q5 ⊢
      refine ok_call (f_q_offer (q5.g G4)) ?_
      rintro ⟨u6, P6, F6, A6, J6⟩ q6
      dsimp only at q6 ⊢
      exact ih (q.tr ((q4.tr q5).tr q6)) (by omega) (by omega)
theorem f_s_forTwo_13 {x1 x2 : Int32} (h1 : 0 ≤ x1.toInt ∧ x1.toInt ≤ 5) (h2 : 0 ≤ x2.toInt ∧ x2.toInt ≤ 5) {P0 : Nat → Nat → Nat} {F0 : Nat → Nat → Int32} {A0 : Nat → Nat → Nat → Int32} (G0 : Gc P0 F0 A0) : ∀ {n : Nat} {P : Nat → Nat → Nat} {F : Nat → Nat → Int32} {A : Nat → Nat → Nat → Int32} {J : Nat → Nat → Nat → Int64} {x3 : Int32}, QFc P0 P F0 F A0 A → -1 ≤ x3.toInt ∧ x3.toInt ≤ 36 → 1600 - x3.toInt < (n : Int) → ok (e_Evening_seekForTwo_13 n P F A J x1 x2 x3) (fun r => QFc P0 r.2.1 F0 r.2.2.1 A0 r.2.2.2.1) := by
  intro n
  induction n with
  | zero => intro P F A J x3 q hx hn; exact absurd hn (by omega)
  | succ n ih =>
    intro P F A J x3 q hx hn
    have l1 : (1 : Int32).toInt = 1 := by decide
    have lm : (-1 : Int32).toInt = -1 := by decide
    have l36 : (36 : Int32).toInt = 36 := by decide
    have e3 : (x3 + 1).toInt = x3.toInt + 1 := by rw [i_add (by omega) (by omega), l1]
    unfold e_Evening_seekForTwo_13
    refine ok_cond (fun _ => ok_some q) (fun c => ?_)
    rw [i_nge] at c
    exact f_s_forTwo_22 h1 h2 ⟨by omega, by omega⟩ G0 (fun P F A J q => ih q (by omega) (by omega)) q (by decide) (by omega)
theorem f_s_forTwo {n : Nat} {P : Nat → Nat → Nat} {F : Nat → Nat → Int32} {A : Nat → Nat → Nat → Int32} {x1 x2 : Int32} (G : Gc P F A) (h1 : 0 ≤ x1.toInt ∧ x1.toInt ≤ 5) (h2 : 0 ≤ x2.toInt ∧ x2.toInt ≤ 5) (hn : 1700 ≤ n) : ok (e_Evening_seekForTwo n P F A J x1 x2) (fun r => QFc P r.2.1 F r.2.2.1 A r.2.2.2.1) := by
  have lm : (-1 : Int32).toInt = -1 := by decide
  unfold e_Evening_seekForTwo
  refine ok_call (f_q_isAnswered G (by omega)) ?_
  rintro ⟨v, P2, F2, A2, J2⟩ q2
  dsimp only at q2 ⊢
  refine ok_cond (fun _ => ?_) (fun _ => ok_some q2)
  exact f_s_forTwo_13 h1 h2 G q2 (by decide) (by omega)
theorem f_s_hide_13 {x1 : Int32} (h1 : 0 ≤ x1.toInt ∧ x1.toInt ≤ 5) : ∀ {n : Nat} {P : Nat → Nat → Nat} {F : Nat → Nat → Int32} {A : Nat → Nat → Nat → Int32} {J : Nat → Nat → Nat → Int64} {x2 : Int32}, Gc P F A → 0 ≤ x2.toInt ∧ x2.toInt ≤ 14 → 1500 - x2.toInt < (n : Int) → ok (e_Evening_seekHidingPlace_13 n P F A J x1 x2) (fun r => QFc P r.2.1 F r.2.2.1 A r.2.2.2.1) := by
  intro n
  induction n with
  | zero => intro P F A J x2 G hx hn; exact absurd hn (by omega)
  | succ n ih =>
    intro P F A J x2 G hx hn
    have l1 : (1 : Int32).toInt = 1 := by decide
    have e2 : (x2 + 1).toInt = x2.toInt + 1 := by rw [i_add (by omega) (by omega), l1]
    have a1 : 0 ≤ (F (P 32 4) 13).toInt ∧ (F (P 32 4) 13).toInt ≤ 8 := by have := G.1.1 (P 32 4) 13; rw [G.k324] at this; exact this
    have a2 : 0 ≤ (F (P 32 4) 17).toInt ∧ (F (P 32 4) 17).toInt ≤ 6 := by have := G.1.1 (P 32 4) 17; rw [G.k324] at this; exact this
    have a3 := i_add (x := F (P 32 4) 13) (y := F (P 32 4) 17) (by omega) (by omega)
    have f59 : x2.toInt < 14 → ∀ s0 : Int32, ok (e_Evening_seekHidingPlace_59 (e_Evening_seekHidingPlace_13 n) n P F A J x1 x2 s0) (fun r => QFc P r.2.1 F r.2.2.1 A r.2.2.2.1) := by
      intro hlt s0
      unfold e_Evening_seekHidingPlace_59
      refine ok_call (fq_trial G) ?_
      rintro ⟨u, P2, F2, A2, J2⟩ ⟨g1, q2, L2, -⟩
      dsimp only at g1 q2 L2 ⊢
      subst g1
      have G2 := q2.g G
      refine ok_cst (by omega) (by omega) ?_
      intro A3 U3
      have q3 := q2.st U3 trivial tg33'
      have G3 := q3.g G
      have L3 : LVc A3 (P2 0 8) 33 := L2.cg (U3.2.2 _ 5 (fun e => G2.n33 e.1)) (U3.2.2 33 3 (by simp))
      refine ok_call (f_q_gainOfTrial G3 L3 (by omega)) ?_
      rintro ⟨v4, P4, F4, A4, J4⟩ q4
      dsimp only at q4 ⊢
      refine ok_call (f_q_offer (q4.g G3)) ?_
      rintro ⟨u5, P5, F5, A5, J5⟩ q5
      dsimp only at q5 ⊢
      exact ok_mono (ih (q5.g (q4.g G3)) (by omega) (by omega)) (fun r hr => ((q3.tr q4).tr q5).tr hr)
    unfold e_Evening_seekHidingPlace_13
    refine ok_chk G.k324 ?_
    refine ok_chk G.k324 ?_
    refine ok_cond (fun _ => ok_some (QFc.rfl' G.1)) (fun c => ?_)
    rw [i_nge] at c
    refine ok_chk G.k324 ?_
    refine ok_cond (fun _ => ?_) (fun _ => f59 (by omega) _)
    refine ok_chk G.k324 ?_
    exact f59 (by omega) _
theorem f_s_hide {n : Nat} {P : Nat → Nat → Nat} {F : Nat → Nat → Int32} {A : Nat → Nat → Nat → Int32} {x1 : Int32} (G : Gc P F A) (h1 : 0 ≤ x1.toInt ∧ x1.toInt ≤ 5) (hn : 1600 ≤ n) : ok (e_Evening_seekHidingPlace n P F A J x1) (fun r => QFc P r.2.1 F r.2.2.1 A r.2.2.2.1) := by
  have l0 : (0 : Int32).toInt = 0 := by decide
  unfold e_Evening_seekHidingPlace
  refine ok_call (f_q_isAnswered G (by omega)) ?_
  rintro ⟨v, P2, F2, A2, J2⟩ q2
  dsimp only at q2 ⊢
  refine ok_cond (fun _ => ?_) (fun _ => ok_some q2)
  exact ok_mono (f_s_hide_13 h1 (q2.g G) (by decide) (by omega)) (fun r hr => q2.tr hr)
theorem f_s_fits_18 {x1 x2 : Int32} (h1 : 0 ≤ x1.toInt ∧ x1.toInt ≤ 5) : ∀ {n : Nat} {P : Nat → Nat → Nat} {F : Nat → Nat → Int32} {A : Nat → Nat → Nat → Int32} {J : Nat → Nat → Nat → Int64} {x3 : Int32}, Gc P F A → -1 ≤ x3.toInt ∧ x3.toInt ≤ 36 → cf F 32 15 ≤ x3.toInt + 1 → 1500 - x3.toInt < (n : Int) → ok (e_Evening_seekFits_18 n P F A J x1 x2 x3) (fun r => QFc P r.2.1 F r.2.2.1 A r.2.2.2.1) := by
  intro n
  induction n with
  | zero => intro P F A J x3 G hx hf hn; exact absurd hn (by omega)
  | succ n ih =>
    intro P F A J x3 G hx hf hn
    have l0 : (0 : Int32).toInt = 0 := by decide
    have l1 : (1 : Int32).toInt = 1 := by decide
    have l36 : (36 : Int32).toInt = 36 := by decide
    have e3 : (x3 + 1).toInt = x3.toInt + 1 := by rw [i_add (by omega) (by omega), l1]
    unfold e_Evening_seekFits_18
    refine ok_cond (fun _ => ok_some (QFc.rfl' G.1)) (fun c => ?_)
    rw [i_nge] at c
    refine ok_chk G.k324 ?_
    refine ok_call (s_mayBeLeft G.k324 G.1 ⟨by omega, by omega⟩) ?_
    intro v vp
    refine ok_cond (fun _ => ?_) (fun c2 => ?_)
    · unfold e_Evening_seekFits_113
      exact ih G (by omega) (by omega) (by omega)
    · rw [i_neq, l0] at c2
      have la : LVx A (P 0 8) x3.toInt := by rw [← G.2.2.1]; exact (vp.resolve_left c2).2
      refine ok_call (fq_trial G) ?_
      rintro ⟨u, P2, F2, A2, J2⟩ ⟨g1, q2, L2, k2⟩
      dsimp only at g1 q2 L2 k2 ⊢
      subst g1
      have G2 := q2.g G
      refine ok_cst (by omega) (by omega) ?_
      intro A3 U3
      have q3 := q2.st U3 trivial tg33
      have G3 := q3.g G
      have L3 : LVc A3 (P2 0 8) 33 := L2.put U3 G2.n33 (la.cg ((q2.1.2.2.1 _ G.live).2 5 (by decide)))
      refine ok_chk G3.k324 ?_
      refine ok_chk G3.k324 ?_
      refine ok_call (fq_goTill G3 L3 (by rw [G3.2.2.1]; exact G3.2.2.2.1.2.2.2.2.2.2) (by omega)) ?_
      rintro ⟨u4, P4, F4, A4, J4⟩ ⟨q4, k4⟩
      dsimp only at q4 k4 ⊢
      have G4 := q4.g G3
      have qa := q3.tr q4
      have k15 : F4 32 15 = F 32 15 := (k4 15).trans (k2 15)
      refine ok_call (s_isSoIn G4.1 (by omega)) ?_
      intro v5 _
      unfold cf at hf
      refine ok_cond (fun _ => ?_) (fun _ => ?_)
      · unfold e_Evening_seekFits_113
        exact ok_mono (ih G4 (by omega) (by unfold cf; rw [k15]; omega) (by omega)) (fun r hr => qa.tr hr)
      · have a1 : 0 ≤ (F4 32 15).toInt ∧ (F4 32 15).toInt ≤ 37 := G4.1.1 32 15
        rw [k15] at a1
        have e15 : (F4 32 15 + 1).toInt = (F 32 15).toInt + 1 := by rw [k15, i_add (by omega) (by omega), l1]
        refine ok_cst (by rw [k15]; omega) (by rw [k15]; omega) ?_
        intro A6 U6
        refine ok_cpf ?_
        intro F7 U7
        have q7 := ((QFc.rfl' (P := P4) G4.1).st U6 trivial (by decide)).pf U7 (show 0 ≤ (F4 32 15 + 1).toInt ∧ (F4 32 15 + 1).toInt ≤ 37 by omega) (by decide)
        exact ok_mono (ih (q7.g G4) (by omega) (by unfold cf; rw [U7.1]; omega) (by omega)) (fun r hr => (qa.tr q7).tr hr)
theorem f_s_fits {n : Nat} {P : Nat → Nat → Nat} {F : Nat → Nat → Int32} {A : Nat → Nat → Nat → Int32} {x1 x2 : Int32} (G : Gc P F A) (h1 : 0 ≤ x1.toInt ∧ x1.toInt ≤ 5) (hn : 1600 ≤ n) : ok (e_Evening_seekFits n P F A J x1 x2) (fun r => QFc P r.2.1 F r.2.2.1 A r.2.2.2.1) := by
  have lm : (-1 : Int32).toInt = -1 := by decide
  have l0 : (0 : Int32).toInt = 0 := by decide
  unfold e_Evening_seekFits
  refine ok_call (f_q_isAnswered G (by omega)) ?_
  rintro ⟨v, P2, F2, A2, J2⟩ q2
  dsimp only at q2 ⊢
  refine ok_cond (fun _ => ?_) (fun _ => ok_some q2)
  refine ok_cpf ?_
  intro F3 U3
  have q3 := q2.pf U3 (show 0 ≤ (0 : Int32).toInt ∧ (0 : Int32).toInt ≤ 37 by decide) (by decide)
  exact ok_mono (f_s_fits_18 h1 (q3.g G) (by decide) (by unfold cf; rw [U3.1]; omega) (by omega)) (fun r hr => q3.tr hr)
theorem f_s_isSuspect_2 {x1 x2 : Int32} (h1 : 0 ≤ x1.toInt ∧ x1.toInt ≤ 5) : ∀ {n : Nat} {P : Nat → Nat → Nat} {F : Nat → Nat → Int32} {A : Nat → Nat → Nat → Int32} {J : Nat → Nat → Nat → Int64} {x3 : Int32}, Gc P F A → -1 ≤ x3.toInt ∧ x3.toInt ≤ 36 → 1500 - x3.toInt < (n : Int) → ok (e_Evening_isSuspect_2 n P F A J x1 x2 x3) (fun r => QFc P r.2.1 F r.2.2.1 A r.2.2.2.1) := by
  intro n
  induction n with
  | zero => intro P F A J x3 G hx hn; exact absurd hn (by omega)
  | succ n ih =>
    intro P F A J x3 G hx hn
    have l0 : (0 : Int32).toInt = 0 := by decide
    have l1 : (1 : Int32).toInt = 1 := by decide
    have l36 : (36 : Int32).toInt = 36 := by decide
    have e3 : (x3 + 1).toInt = x3.toInt + 1 := by rw [i_add (by omega) (by omega), l1]
    unfold e_Evening_isSuspect_2
    refine ok_cond (fun _ => ok_some (QFc.rfl' G.1)) (fun c => ?_)
    rw [i_nge] at c
    refine ok_chk G.k324 ?_
    refine ok_call (s_mayBeLeft G.k324 G.1 ⟨by omega, by omega⟩) ?_
    intro v vp
    have next : ∀ {P' F' A' J'}, QFc P P' F F' A A' → ok (e_Evening_isSuspect_92 (e_Evening_isSuspect_2 n) n P' F' A' J' x1 x2 x3) (fun r => QFc P r.2.1 F r.2.2.1 A r.2.2.2.1) := fun q => by
      unfold e_Evening_isSuspect_92
      exact ok_mono (ih (q.g G) (by omega) (by omega)) (fun r hr => q.tr hr)
    refine ok_cond (fun _ => next (QFc.rfl' G.1)) (fun c2 => ?_)
    rw [i_neq, l0] at c2
    have la : LVx A (P 0 8) x3.toInt := by rw [← G.2.2.1]; exact (vp.resolve_left c2).2
    refine ok_ldn (by omega) (by omega) (fun v5 => ?_)
    refine ok_cond (fun _ => next (QFc.rfl' G.1)) (fun _ => ?_)
    refine ok_call (fq_trial G) ?_
    rintro ⟨u, P2, F2, A2, J2⟩ ⟨g1, q2, L2, k2⟩
    dsimp only at g1 q2 L2 k2 ⊢
    subst g1
    have G2 := q2.g G
    refine ok_cst (by omega) (by omega) ?_
    intro A3 U3
    have q3 := q2.st U3 trivial tg33
    have G3 := q3.g G
    have L3 : LVc A3 (P2 0 8) 33 := L2.put U3 G2.n33 (la.cg ((q2.1.2.2.1 _ G.live).2 5 (by decide)))
    refine ok_chk G3.k324 ?_
    refine ok_chk G3.k324 ?_
    refine ok_call (fq_goTill G3 L3 (by rw [G3.2.2.1]; exact G3.2.2.2.1.2.2.2.2.2.2) (by omega)) ?_
    rintro ⟨u4, P4, F4, A4, J4⟩ ⟨q4, k4⟩
    dsimp only at q4 k4 ⊢
    refine ok_call (s_isSoIn (q4.g G3).1 (by omega)) ?_
    intro v5 _
    exact ok_cond (fun _ => next (q3.tr q4)) (fun _ => ok_some (q3.tr q4))
theorem f_s_suspectBits_4 {x1 : Int32} : ∀ {n : Nat} {P : Nat → Nat → Nat} {F : Nat → Nat → Int32} {A : Nat → Nat → Nat → Int32} {J : Nat → Nat → Nat → Int64} {x2 x3 : Int32}, Gc P F A → 0 ≤ x3.toInt ∧ x3.toInt ≤ 6 → 1600 - x3.toInt < (n : Int) → ok (e_Evening_suspectBits_4 n P F A J x1 x2 x3) (fun r => QFc P r.2.1 F r.2.2.1 A r.2.2.2.1) := by
  intro n
  induction n with
  | zero => intro P F A J x2 x3 G hx hn; exact absurd hn (by omega)
  | succ n ih =>
    intro P F A J x2 x3 G hx hn
    have l1 : (1 : Int32).toInt = 1 := by decide
    have lm : (-1 : Int32).toInt = -1 := by decide
    have e3 : (x3 + 1).toInt = x3.toInt + 1 := by rw [i_add (by omega) (by omega), l1]
    have a2 : 0 ≤ (F (P 32 4) 17).toInt ∧ (F (P 32 4) 17).toInt ≤ 6 := by have := G.1.1 (P 32 4) 17; rw [G.k324] at this; exact this
    unfold e_Evening_suspectBits_4
    refine ok_chk G.k324 ?_
    refine ok_cond (fun _ => ok_some (QFc.rfl' G.1)) (fun c => ?_)
    rw [i_nge] at c
    unfold e_Evening_isSuspect
    refine ok_call (f_s_isSuspect_2 ⟨by omega, by omega⟩ G (by decide) (by omega)) ?_
    rintro ⟨v, P2, F2, A2, J2⟩ q2
    dsimp only at q2 ⊢
    refine ok_cond (fun _ => ?_) (fun _ => ?_)
    · unfold e_Evening_suspectBits_30
      exact ok_mono (ih (q2.g G) (by omega) (by omega)) (fun r hr => q2.tr hr)
    · unfold e_Evening_suspectBits_30
      exact ok_mono (ih (q2.g G) (by omega) (by omega)) (fun r hr => q2.tr hr)
theorem f_s_pairs_16 {Q : Int32 × (Nat → Nat → Nat) × (Nat → Nat → Int32) × (Nat → Nat → Nat → Int32) × (Nat → Nat → Nat → Int64) → Prop} {K6 : (Nat → Nat → Nat) → (Nat → Nat → Int32) → (Nat → Nat → Nat → Int32) → (Nat → Nat → Nat → Int64) → Int32 → Int32 → Int32 → Int32 → Int32 → Option (Int32 × (Nat → Nat → Nat) × (Nat → Nat → Int32) × (Nat → Nat → Nat → Int32) × (Nat → Nat → Nat → Int64))} {P0 : Nat → Nat → Nat} {F0 : Nat → Nat → Int32} {A0 : Nat → Nat → Nat → Int32} {x1 x2 x3 x5 : Int32} (h1 : 0 ≤ x1.toInt ∧ x1.toInt ≤ 5) (h2 : 0 ≤ x2.toInt ∧ x2.toInt ≤ 5) (h5 : -1 ≤ x5.toInt ∧ x5.toInt ≤ 35) (G0 : Gc P0 F0 A0) (hK : ∀ P F A J x4, QFc P0 P F0 F A0 A → ok (K6 P F A J x1 x2 x3 x4 (x5 + 1)) Q) : ∀ {n : Nat} {P : Nat → Nat → Nat} {F : Nat → Nat → Int32} {A : Nat → Nat → Nat → Int32} {J : Nat → Nat → Nat → Int64} {x4 x6 : Int32}, QFc P0 P F0 F A0 A → -1 ≤ x6.toInt ∧ x6.toInt ≤ 36 → 1500 - x6.toInt < (n : Int) → ok (e_Evening_fittingPairs_16 K6 n P F A J x1 x2 x3 x4 x5 x6) Q := by
  intro n
  induction n with
  | zero => intro P F A J x4 x6 q hx hn; exact absurd hn (by omega)
  | succ n ih =>
    intro P F A J x4 x6 q hx hn
    have G := q.g G0
    have l0 : (0 : Int32).toInt = 0 := by decide
    have l1 : (1 : Int32).toInt = 1 := by decide
    have l36 : (36 : Int32).toInt = 36 := by decide
    have e6 : (x6 + 1).toInt = x6.toInt + 1 := by rw [i_add (by omega) (by omega), l1]
    have f133 : ok (e_Evening_fittingPairs_133 K6 n P F A J x1 x2 x3 x4 x5) Q := by
      unfold e_Evening_fittingPairs_133
      exact hK P F A J x4 q
    unfold e_Evening_fittingPairs_16
    refine ok_cond (fun _ => f133) (fun c => ?_)
    rw [i_nge] at c
    refine ok_chk G.k324 ?_
    refine ok_call (s_mayBeLeft G.k324 G.1 ⟨by omega, by omega⟩) ?_
    intro v vp
    refine ok_cond (fun _ => f133) (fun c2 => ?_)
    rw [i_neq, l0] at c2
    have la : LVx A (P 0 8) x5.toInt := by rw [← G.2.2.1]; exact (vp.resolve_left c2).2
    refine ok_chk G.k324 ?_
    refine ok_call (s_mayBeLeft G.k324 G.1 ⟨by omega, by omega⟩) ?_
    intro w wp
    refine ok_cond (fun _ => ?_) (fun c3 => ?_)
    · unfold e_Evening_fittingPairs_127
      exact ih q (by omega) (by omega)
    · rw [i_neq, l0] at c3
      have lb : LVx A (P 0 8) x6.toInt := by rw [← G.2.2.1]; exact (wp.resolve_left c3).2
      refine ok_call (fq_trial G) ?_
      rintro ⟨u, P2, F2, A2, J2⟩ ⟨g1, q2, L2, -⟩
      dsimp only at g1 q2 L2 ⊢
      subst g1
      have G2 := q2.g G
      have k5 := (q2.1.2.2.1 _ G.live).2 5 (by decide)
      refine ok_cst (by omega) (by omega) ?_
      intro A3 U3
      refine ok_cst (by omega) (by omega) ?_
      intro A4 U4
      have q4 := (q2.st U3 trivial tg33).st U4 trivial tg33
      have G4 := q4.g G
      have L3 : LVc A3 (P2 0 8) 33 := L2.put U3 G2.n33 (la.cg k5)
      have L4 : LVc A4 (P2 0 8) 33 := L3.put U4 G2.n33 ((lb.cg k5).cg (U3.2.2 _ 5 (fun e => G2.n33 e.1)))
      refine ok_chk G4.k324 ?_
      refine ok_chk G4.k324 ?_
      refine ok_call (fq_goTill G4 L4 (by rw [G4.2.2.1]; exact G4.2.2.2.1.2.2.2.2.2.2) (by omega)) ?_
      rintro ⟨u5, P5, F5, A5, J5⟩ ⟨q5, k5⟩
      dsimp only at q5 k5 ⊢
      refine ok_call (s_isSoIn (q5.g G4).1 (by omega)) ?_
      intro v6 _
      refine ok_cond (fun _ => ?_) (fun _ => ?_)
      · unfold e_Evening_fittingPairs_124 e_Evening_fittingPairs_127
        exact ih (q.tr (q4.tr q5)) (by omega) (by omega)
      · unfold e_Evening_fittingPairs_124 e_Evening_fittingPairs_127
        exact ih (q.tr (q4.tr q5)) (by omega) (by omega)
theorem f_s_pairs_6 {x1 x2 x3 : Int32} (h1 : 0 ≤ x1.toInt ∧ x1.toInt ≤ 5) (h2 : 0 ≤ x2.toInt ∧ x2.toInt ≤ 5) {P0 : Nat → Nat → Nat} {F0 : Nat → Nat → Int32} {A0 : Nat → Nat → Nat → Int32} (G0 : Gc P0 F0 A0) : ∀ {n : Nat} {P : Nat → Nat → Nat} {F : Nat → Nat → Int32} {A : Nat → Nat → Nat → Int32} {J : Nat → Nat → Nat → Int64} {x4 x5 : Int32}, QFc P0 P F0 F A0 A → -1 ≤ x5.toInt ∧ x5.toInt ≤ 36 → 1600 - x5.toInt < (n : Int) → ok (e_Evening_fittingPairs_6 n P F A J x1 x2 x3 x4 x5) (fun r => QFc P0 r.2.1 F0 r.2.2.1 A0 r.2.2.2.1) := by
  intro n
  induction n with
  | zero => intro P F A J x4 x5 q hx hn; exact absurd hn (by omega)
  | succ n ih =>
    intro P F A J x4 x5 q hx hn
    have l1 : (1 : Int32).toInt = 1 := by decide
    have lm : (-1 : Int32).toInt = -1 := by decide
    have l36 : (36 : Int32).toInt = 36 := by decide
    have e3 : (x5 + 1).toInt = x5.toInt + 1 := by rw [i_add (by omega) (by omega), l1]
    unfold e_Evening_fittingPairs_6
    refine ok_cond (fun _ => ok_some q) (fun c => ?_)
    rw [i_nge] at c
    exact f_s_pairs_16 h1 h2 ⟨by omega, by omega⟩ G0 (fun P F A J x4 q => ih q (by omega) (by omega)) q (by decide) (by omega)
theorem f_s_arrivals_5 {x1 : Int32} : ∀ {n : Nat} {P : Nat → Nat → Nat} {F : Nat → Nat → Int32} {A : Nat → Nat → Nat → Int32} {J : Nat → Nat → Nat → Int64} {x2 : Int64} {x4 : Int32}, Gc P F A → 0 ≤ x4.toInt ∧ x4.toInt ≤ 6 → 100 - x4.toInt < (n : Int) → ok (e_Evening_arrivals_5 n P F A J x1 x2 x4) (fun r => QFc P r.2.1 F r.2.2.1 A r.2.2.2.1) := by
  intro n
  induction n with
  | zero => intro P F A J x2 x4 G hx hn; exact absurd hn (by omega)
  | succ n ih =>
    intro P F A J x2 x4 G hx hn
    have l0 : (0 : Int32).toInt = 0 := by decide
    have l1 : (1 : Int32).toInt = 1 := by decide
    have e4 : (x4 + 1).toInt = x4.toInt + 1 := by rw [i_add (by omega) (by omega), l1]
    have a2 : 0 ≤ (F (P 32 4) 17).toInt ∧ (F (P 32 4) 17).toInt ≤ 6 := by have := G.1.1 (P 32 4) 17; rw [G.k324] at this; exact this
    have f82 : x4.toInt < 6 → ∀ {P2 F2 A2 J2} {x6 : Int32}, QFc P P2 F F2 A A2 → ok (e_Evening_arrivals_82 (e_Evening_arrivals_5 n) n P2 F2 A2 J2 x1 x2 x4 x6) (fun r => QFc P r.2.1 F r.2.2.1 A r.2.2.2.1) := by
      intro hlt P2 F2 A2 J2 x6 q
      have G2 := q.g G
      unfold e_Evening_arrivals_82
      refine ok_chk G2.k324 ?_
      refine ok_cond (fun _ => ?_) (fun _ => ?_)
      · unfold e_Evening_arrivals_110
        exact ok_mono (ih G2 (by omega) (by omega)) (fun r hr => q.tr hr)
      · unfold e_Evening_arrivals_110
        exact ok_mono (ih G2 (by omega) (by omega)) (fun r hr => q.tr hr)
    unfold e_Evening_arrivals_5
    refine ok_chk G.k324 ?_
    refine ok_cond (fun _ => ok_some (QFc.rfl' G.1)) (fun c => ?_)
    rw [i_nge] at c
    have hlt6 : x4.toInt < 6 := by omega
    refine ok_ldc (K := 2) G.1 (by decide) (by omega) (by omega) ?_
    intro v3 v3e _
    refine ok_cond (fun _ => f82 hlt6 (QFc.rfl' G.1)) (fun c3 => ?_)
    rw [i_nlt] at c3
    have lv := G.2.2.2.2.1 x4.toInt (by omega) (by omega)
    have l2 : v3.toInt < 36 ∧ v3.toInt % 6 < ci A (P 0 8) 5 (v3.toInt / 6) := by
      rw [v3e]
      rcases lv with z | z
      · omega
      · exact ⟨z.2.1, z.2.2⟩
    refine ok_chk G.k324 ?_
    refine ok_div1 (by decide) ?_
    intro v6 e6
    have d6 : v6.toInt = v3.toInt / 6 := by rw [e6]; exact i_div6 (by omega)
    rw [G.2.2.1]
    refine ok_ldc G.1 G.k08 (by omega) (by omega) ?_
    intro v7 v7e v7r
    change -1 ≤ v7.toInt ∧ v7.toInt ≤ 7 at v7r
    have h7 := G.2.2.2.1.2.2.1 v6.toInt (by omega) (by omega) (by rw [d6]; omega)
    refine ok_chk G.k08 ?_
    refine ok_chk G.k08 ?_
    refine ok_ldc G.1 G.k08 (by omega) (by omega) ?_
    intro v10 v10e v10r
    change -1 ≤ v10.toInt ∧ v10.toInt ≤ 7 at v10r
    rw [G.2.2.1] at c
    have h10 := G.2.2.2.1.2.1 x4.toInt (by omega) c
    refine ok_call (fq_between G ⟨by omega, by omega⟩ ⟨by omega, by omega⟩ (by omega)) ?_
    rintro ⟨v, P2, F2, A2, J2⟩ ⟨-, q⟩
    exact f82 hlt6 q
theorem f_s_arrivals {n : Nat} {P : Nat → Nat → Nat} {F : Nat → Nat → Int32} {A : Nat → Nat → Nat → Int32} {x1 : Int32} (G : Gc P F A) (hn : 200 ≤ n) : ok (e_Evening_arrivals n P F A J x1) (fun r => QFc P r.2.1 F r.2.2.1 A r.2.2.2.1) := by
  have l0 : (0 : Int32).toInt = 0 := by decide
  unfold e_Evening_arrivals
  exact f_s_arrivals_5 G (by decide) (by omega)
theorem f_q_minutesBetween {n : Nat} {x1 x2 : Int32} (G : Gc P F A) (h1 : 0 ≤ x1.toInt ∧ x1.toInt ≤ 7) (h2 : 0 ≤ x2.toInt ∧ x2.toInt ≤ 7) (hn : 70 ≤ n) : ok (e_Evening_minutesBetween n P F A J x1 x2) (fun r => QFc P r.2.1 F r.2.2.1 A r.2.2.2.1) := by
  unfold e_Evening_minutesBetween
  refine ok_chk G.k324 ?_
  rw [G.2.2.1]
  refine ok_call (fq_between G h1 h2 hn) ?_
  rintro ⟨v, P2, F2, A2, J2⟩ ⟨-, q⟩
  exact ok_some q
theorem f_s_cWay {n : Nat} {x1 x2 : Int32} (G : Gc P F A) (hn : 70 ≤ n) : ok (e_SleepWork_way n P F A J x1 x2) (fun r => QFc P r.2.1 F r.2.2.1 A r.2.2.2.1) := by
  have l0 : (0 : Int32).toInt = 0 := by decide
  unfold e_SleepWork_way
  refine ok_call (s_isRoom G) ?_
  intro v vp
  refine ok_cond (fun _ => fq0 G) (fun c => ?_)
  rw [i_neq, l0] at c
  have a := vp.resolve_left c
  refine ok_call (s_isRoom G) ?_
  intro w wp
  refine ok_cond (fun c2 => ?_) (fun _ => fq0 G)
  rw [i_ne, l0] at c2
  have b := wp.resolve_left c2
  refine ok_call (f_q_minutesBetween G ⟨by omega, by omega⟩ ⟨by omega, by omega⟩ hn) ?_
  rintro ⟨v5, P2, F2, A2, J2⟩ q
  dsimp only at q ⊢
  exact ok_cond (fun _ => ok_some (q)) (fun _ => ok_some (q))
theorem f_s_cWhere {n : Nat} {x1 x2 : Int32} (G : Gc P F A) (hn : 70 ≤ n) : ok (e_SleepWork_where n P F A J x1 x2) (fun r => QFc P r.2.1 F r.2.2.1 A r.2.2.2.1) := by
  have l0 : (0 : Int32).toInt = 0 := by decide
  unfold e_SleepWork_where
  refine ok_call (s_isMan G) ?_
  intro v vp
  refine ok_cond (fun _ => fq0 G) (fun c => ?_)
  rw [i_neq, l0] at c
  have a := vp.resolve_left c
  refine ok_cond (fun _ => fq0 G) (fun _ => ?_)
  refine ok_chk G.k08 ?_
  refine ok_cond (fun _ => ?_) (fun _ => fq0 G)
  refine ok_chk G.k08 ?_
  refine ok_ldc G.1 G.k08 (by omega) (by omega) ?_
  intro v7 v7e v7r
  change -1 ≤ v7.toInt ∧ v7.toInt ≤ 7 at v7r
  have h7 := G.2.2.2.1.2.1 x1.toInt (by omega) a.2.2.1
  refine ok_ldc (K := 2) G.1 (by decide) (by omega) (by omega) ?_
  intro v8 v8e _
  refine ok_cond (fun c8 => ?_) (fun _ => fq0 G)
  rw [i_ge] at c8
  have lv := G.2.2.2.2.1 x1.toInt (by omega) (by omega)
  have l2 : v8.toInt < 36 ∧ v8.toInt % 6 < ci A (P 0 8) 5 (v8.toInt / 6) := by
    rw [v8e]
    rcases lv with z | z
    · omega
    · exact ⟨z.2.1, z.2.2⟩
  refine ok_chk G.k08 ?_
  refine ok_div1 (by decide) ?_
  intro v11 e11
  have d11 : v11.toInt = v8.toInt / 6 := by rw [e11]; exact i_div6 (by omega)
  refine ok_ldc G.1 G.k08 (by omega) (by omega) ?_
  intro v12 v12e v12r
  change -1 ≤ v12.toInt ∧ v12.toInt ≤ 7 at v12r
  have h12 := G.2.2.2.1.2.2.1 v11.toInt (by omega) (by omega) (by rw [d11]; omega)
  refine ok_call (f_q_minutesBetween G ⟨by omega, by omega⟩ ⟨by omega, by omega⟩ hn) ?_
  rintro ⟨v5, P2, F2, A2, J2⟩ q
  dsimp only at q ⊢
  exact ok_cond (fun _ => ok_some (q)) (fun _ => ok_some (q))
theorem f_s_cGain {n : Nat} (G : Gc P F A) (hn : 1500 ≤ n) : ok (e_SleepWork_gain n P F A J) (fun r => QFc P r.2.1 F r.2.2.1 A r.2.2.2.1) := by
  unfold e_SleepWork_gain e_Evening_gainAsItIs
  have body : ok ((c_chk 6 (P 32 4)).bind fun q1 => (e_House_worthOfAll n P F A J q1 2).bind fun v2 => (c_pf F 32 5 v2).bind fun F3 => (e_State_copy P F3 A J 33 2).bind fun (_, P5, F6, A7, J8) => (e_Evening_gainOfTrial n P5 F6 A7 J8).bind fun (v9, P10, F11, A12, J13) => some (v9, P10, F11, A12, J13)) (fun r => QFc P r.2.1 F r.2.2.1 A r.2.2.2.1) := by
    refine ok_chk G.k324 ?_
    refine ok_call (s_worthOfAll G.k324 G.1 (by omega)) ?_
    intro v2 _
    refine ok_cpf ?_
    intro F3 U3
    have q3 := (QFc.rfl' (P := P) G.1).pf U3 trivial (by decide)
    have G3 := q3.g G
    refine ok_call (fq_trial G3) ?_
    rintro ⟨u, P2, F2, A2, J2⟩ ⟨g1, q2, L2, -⟩
    dsimp only at g1 q2 L2 ⊢
    subst g1
    refine ok_call (f_q_gainOfTrial (q2.g G3) L2 (by omega)) ?_
    rintro ⟨v4, P4, F4, A4, J4⟩ q4
    dsimp only at q4 ⊢
    exact ok_some (((q3.tr q2).tr q4))
  refine ok_call body ?_
  rintro ⟨v, P2, F2, A2, J2⟩ hr
  exact ok_some hr
theorem f_s_cBest {n : Nat} {x1 x2 : Int32} (G : Gc P F A) (hn : 1800 ≤ n) : ok (e_SleepWork_best n P F A J x1 x2) (fun r => QFc P r.2.1 F r.2.2.1 A r.2.2.2.1) := by
  have l0 : (0 : Int32).toInt = 0 := by decide
  unfold e_SleepWork_best
  refine ok_call (s_isMan G) ?_
  intro v vp
  refine ok_cond (fun _ => fq0 G) (fun c => ?_)
  rw [i_neq, l0] at c
  have a := vp.resolve_left c
  refine ok_cond (fun _ => fq0 G) (fun _ => ?_)
  refine ok_cond (fun _ => ?_) (fun _ => fq0 G)
  refine ok_call (f_s_forOne G ⟨by omega, by omega⟩ (by omega)) ?_
  rintro ⟨u, P2, F2, A2, J2⟩ q
  dsimp only at q ⊢
  refine ok_cond (fun _ => ?_) (fun _ => ok_some (q))
  exact ok_call s_codeOf (fun v _ => ok_some (q))
theorem f_s_cBestOfTwo {n : Nat} {x1 x2 x3 : Int32} (G : Gc P F A) (hn : 1800 ≤ n) : ok (e_SleepWork_bestOfTwo n P F A J x1 x2 x3) (fun r => QFc P r.2.1 F r.2.2.1 A r.2.2.2.1) := by
  have l0 : (0 : Int32).toInt = 0 := by decide
  unfold e_SleepWork_bestOfTwo
  refine ok_call (s_areTwoMen G) ?_
  intro v vp
  refine ok_cond (fun _ => fq0 G) (fun c => ?_)
  rw [i_neq, l0] at c
  have a := vp.resolve_left c
  refine ok_cond (fun _ => fq0 G) (fun _ => ?_)
  refine ok_cond (fun _ => ?_) (fun _ => fq0 G)
  refine ok_call (f_s_forTwo G ⟨by omega, by omega⟩ ⟨by omega, by omega⟩ (by omega)) ?_
  rintro ⟨u, P2, F2, A2, J2⟩ q
  dsimp only at q ⊢
  refine ok_cond (fun _ => ok_cond (fun _ => ?_) (fun _ => ?_)) (fun _ => ok_some (q))
  · exact ok_call s_codeOf (fun v _ => ok_some (q))
  · unfold e_SleepWork_bestOfTwo_63
    exact ok_call s_codeOf (fun v _ => ok_some (q))
theorem f_s_cHire {n : Nat} {x1 : Int32} (G : Gc P F A) (hn : 1800 ≤ n) : ok (e_SleepWork_hire n P F A J x1) (fun r => QFc P r.2.1 F r.2.2.1 A r.2.2.2.1) := by
  have l0 : (0 : Int32).toInt = 0 := by decide
  unfold e_SleepWork_hire
  refine ok_call (s_isMan G) ?_
  intro v vp
  refine ok_cond (fun c => ?_) (fun _ => fq0 G)
  rw [i_ne, l0] at c
  have a := vp.resolve_left c
  refine ok_call (f_s_forOne G ⟨by omega, by omega⟩ (by omega)) ?_
  rintro ⟨u, P2, F2, A2, J2⟩ q
  exact ok_some (q)
theorem f_s_cHide {n : Nat} {x1 x2 : Int32} (G : Gc P F A) (hn : 1800 ≤ n) : ok (e_SleepWork_hide n P F A J x1 x2) (fun r => QFc P r.2.1 F r.2.2.1 A r.2.2.2.1) := by
  have l0 : (0 : Int32).toInt = 0 := by decide
  unfold e_SleepWork_hide
  refine ok_call (s_isTool G) ?_
  intro v vp
  refine ok_cond (fun _ => fq0 G) (fun c => ?_)
  rw [i_neq, l0] at c
  have a := vp.resolve_left c
  refine ok_chk G.k08 ?_
  refine ok_cond (fun _ => fq0 G) (fun _ => ?_)
  refine ok_cond (fun _ => fq0 G) (fun _ => ?_)
  refine ok_cond (fun _ => ?_) (fun _ => fq0 G)
  refine ok_call (f_s_hide G ⟨by omega, by omega⟩ (by omega)) ?_
  rintro ⟨u, P2, F2, A2, J2⟩ q
  dsimp only at q ⊢
  exact ok_cond (fun _ => ok_some (q)) (fun _ => ok_some (q))
theorem f_s_cStrokes {n : Nat} {x1 x2 : Int32} (G : Gc P F A) (hn : 1500 ≤ n) : ok (e_SleepWork_strokes n P F A J x1 x2) (fun r => QFc P r.2.1 F r.2.2.1 A r.2.2.2.1) := by
  have l0 : (0 : Int32).toInt = 0 := by decide
  have h6 : (F (P 0 8) 18).toInt ≤ 600 := G.2.2.2.1.2.2.2.2.2.2
  unfold e_SleepWork_strokes
  refine ok_call (s_isMan G) ?_
  intro v vp
  refine ok_cond (fun _ => fq0 G) (fun c => ?_)
  rw [i_neq, l0] at c
  have a := vp.resolve_left c
  refine ok_cond (fun _ => fq0 G) (fun _ => ?_)
  refine ok_chk G.k08 ?_
  refine ok_cond (fun c2 => ?_) (fun _ => fq0 G)
  rw [i_le] at c2
  unfold e_Evening_strokesTill
  have body : ok ((e_State_copy P F A J 33 2).bind fun (_, P2, F3, A4, J5) => (c_chk 6 (P2 32 4)).bind fun q6 => (e_Sleep_goTill n P2 F3 A4 J5 x2 q6 33).bind fun (_, P8, F9, A10, J11) => (m_ld (A10 33 5) 6 x1).bind fun v12 => some (v12, P8, F9, A10, J11)) (fun r => QFc P r.2.1 F r.2.2.1 A r.2.2.2.1) := by
    refine ok_call (fq_trial G) ?_
    rintro ⟨u, P2, F2, A2, J2⟩ ⟨g1, q2, L2, -⟩
    dsimp only at g1 q2 L2 ⊢
    subst g1
    have G2 := q2.g G
    refine ok_chk G2.k324 ?_
    refine ok_call (fq_goTill G2 L2 (by omega) (by omega)) ?_
    rintro ⟨u3, P3, F3, A3, J3⟩ ⟨q3, -⟩
    dsimp only at q3 ⊢
    exact ok_ldn (by omega) (by omega) (fun v => ok_some ((q2.tr q3)))
  refine ok_call body ?_
  rintro ⟨v, P2, F2, A2, J2⟩ hr
  exact ok_some hr
theorem f_s_cFits {n : Nat} {x1 x2 x3 : Int32} (G : Gc P F A) (hn : 1800 ≤ n) : ok (e_SleepWork_fits n P F A J x1 x2 x3) (fun r => QFc P r.2.1 F r.2.2.1 A r.2.2.2.1) := by
  have l0 : (0 : Int32).toInt = 0 := by decide
  have lm : (-1 : Int32).toInt = -1 := by decide
  unfold e_SleepWork_fits
  refine ok_call (s_isMan G) ?_
  intro v vp
  refine ok_cond (fun _ => fq0 G) (fun c => ?_)
  rw [i_neq, l0] at c
  have a := vp.resolve_left c
  refine ok_call s_isKnownBy ?_
  intro w _
  refine ok_cond (fun _ => fq0 G) (fun _ => ?_)
  refine ok_cond (fun c3 => ?_) (fun _ => fq0 G)
  rw [i_ge] at c3
  refine ok_call (f_s_fits G ⟨by omega, by omega⟩ (by omega)) ?_
  rintro ⟨u, P2, F2, A2, J2⟩ q
  dsimp only at q ⊢
  refine ok_cond (fun c4 => ?_) (fun _ => ok_some (q))
  rw [i_ne] at c4
  refine ok_cond (fun _ => ok_some (q)) (fun c5 => ?_)
  rw [i_nge] at c5
  have a1 : 0 ≤ (F2 32 15).toInt ∧ (F2 32 15).toInt ≤ 37 := q.1.2.1.1 32 15
  refine ok_ldn (by omega) (by omega) (fun v13 => ?_)
  exact ok_call s_codeOf (fun v _ => ok_some (q))
theorem f_s_cSuspects {n : Nat} {x1 : Int32} (G : Gc P F A) (hn : 1800 ≤ n) : ok (e_SleepWork_suspects n P F A J x1) (fun r => QFc P r.2.1 F r.2.2.1 A r.2.2.2.1) := by
  have l0 : (0 : Int32).toInt = 0 := by decide
  unfold e_SleepWork_suspects
  refine ok_call s_isKnownBy ?_
  intro w _
  refine ok_cond (fun _ => fq0 G) (fun _ => ?_)
  unfold e_Evening_suspectBits
  refine ok_call (f_s_suspectBits_4 G (by decide) (by omega)) ?_
  rintro ⟨v, P2, F2, A2, J2⟩ q
  exact ok_some (q)
theorem f_s_cPairs {n : Nat} {x1 x2 x3 : Int32} (G : Gc P F A) (hn : 1800 ≤ n) : ok (e_SleepWork_pairs n P F A J x1 x2 x3) (fun r => QFc P r.2.1 F r.2.2.1 A r.2.2.2.1) := by
  have l0 : (0 : Int32).toInt = 0 := by decide
  have lm : (-1 : Int32).toInt = -1 := by decide
  unfold e_SleepWork_pairs
  refine ok_call (s_areTwoMen G) ?_
  intro v vp
  refine ok_cond (fun _ => fq0 G) (fun c => ?_)
  rw [i_neq, l0] at c
  have a := vp.resolve_left c
  refine ok_call s_isKnownBy ?_
  intro w _
  refine ok_cond (fun _ => ?_) (fun _ => fq0 G)
  unfold e_Evening_fittingPairs
  refine ok_call (f_s_pairs_6 ⟨by omega, by omega⟩ ⟨by omega, by omega⟩ G (QFc.rfl' G.1) (by decide) (by omega)) ?_
  rintro ⟨v, P2, F2, A2, J2⟩ q
  exact ok_some (q)
end H9f5
end Qz151
section Qz152
/-! what tries of the reference leave (frames printed by wip/frames.py) -/
section H9f6
variable {Fr : Nat → Int32} {Ar : Nat → Nat → Int32}
/-- a try writes into the rows of a night alone -/
def KT (F0 : Nat → Int32) (A0 : Nat → Nat → Int32) (F : Nat → Int32) (A : Nat → Nat → Int32) : Prop := (∀ k, k ≠ 63 → k ≠ 76 → F k = F0 k) ∧ ∀ q, q < 45 ∨ q = 47 ∨ 57 ≤ q → A q = A0 q
theorem KT.rfl' {F : Nat → Int32} {A : Nat → Nat → Int32} : KT F A F A := ⟨fun _ _ _ => rfl, fun _ _ => rfl⟩
theorem KT.tr {F F1 F2 : Nat → Int32} {A A1 A2 : Nat → Nat → Int32} (h : KT F A F1 A1) (k : KT F1 A1 F2 A2) : KT F A F2 A2 := ⟨fun q a b => (k.1 q a b).trans (h.1 q a b), fun q hq => (k.2 q hq).trans (h.2 q hq)⟩
theorem kt_pf {γ : Type} {k : Nat} {x : Int32} {F : Nat → Int32} {A : Nat → Nat → Int32} {g : (Nat → Int32) → Option γ} {Q : γ → Prop} (h : KT Fr Ar F A) (hk : k = 63 ∨ k = 76) (kk : ∀ F', KT Fr Ar F' A → po (g F') Q) : po ((m_pf F k x).bind g) Q :=
  po_bl (fun F' e => kk F' ⟨fun q a b => ((gg_pf e).2 q (by omega)).trans (h.1 q a b), h.2⟩)
theorem kt_pz {γ : Type} {k : Nat} {x : Int32} {F : Nat → Int32} {A : Nat → Nat → Int32} {g : (Nat → Int32) → Option γ} {Q : γ → Prop} (h : KT Fr Ar F A) (hk : k = 63 ∨ k = 76) (kk : ∀ F', KT Fr Ar F' A → po (g F') Q) : po ((m_pfz F k x).bind g) Q :=
  po_bl (fun F' e => kk F' ⟨fun q a b => ((gg_pz e).2 q (by omega)).trans (h.1 q a b), h.2⟩)
theorem kt_st {γ : Type} {j n : Nat} {i x : Int32} {F : Nat → Int32} {A : Nat → Nat → Int32} {g : (Nat → Nat → Int32) → Option γ} {Q : γ → Prop} (h : KT Fr Ar F A) (hj : ¬ (j < 45 ∨ j = 47 ∨ 57 ≤ j)) (kk : ∀ A', KT Fr Ar F A' → po (g A') Q) : po ((m_st A j n i x).bind g) Q :=
  po_bl (fun A' e => kk A' ⟨h.1, fun q hq => ((gg_st e).2.2.1 q (fun e => hj (by rw [← e]; exact hq))).trans (h.2 q hq)⟩)
theorem kt_d_takes_2   : ∀ {n : Nat} {F : Nat → Int32} {A : Nat → Nat → Int32} {J : Nat → Nat → Int64} {x1 : Int32}, KT Fr Ar F A → po (d_takes_2  n F A J x1) (fun r => KT Fr Ar r.2.1 r.2.2.1) := by
  intro n
  induction n with
  | zero => intro F A J x1 _ r hr; cases hr
  | succ n ih =>
    intro F A J x1 h
    unfold d_takes_2
    repeat' (first
      | with_reducible exact po_some (by assumption)
      | (with_reducible refine kt_pf (by assumption) (by decide) ?_; intro _ _)
      | (with_reducible refine kt_st (by assumption) (by decide) ?_; intro _ _)
      | (with_reducible refine kt_pz (by assumption) (by decide) ?_; intro _ _)
      | with_reducible exact ih (by assumption)
      | (with_reducible refine po_call (ih (by assumption)) ?_; rintro ⟨_, _, _, _⟩ _; try dsimp only)
      | (intros; with_reducible exact ih (by assumption))
      | with_reducible refine po_cond (fun _ => ?_) (fun _ => ?_)
      | with_reducible refine po_bind_cond (fun _ => ?_) (fun _ => ?_)
      | with_reducible refine po_bl (fun _ _ => ?_))
theorem kt_d_takes {n : Nat} {F : Nat → Int32} {A : Nat → Nat → Int32} {J : Nat → Nat → Int64}  (h : KT Fr Ar F A) : po (d_takes n F A J) (fun r => KT Fr Ar r.2.1 r.2.2.1) := by
  unfold d_takes
  repeat' (first
    | with_reducible exact po_some (by assumption)
    | (with_reducible refine kt_pf (by assumption) (by decide) ?_; intro _ _)
    | (with_reducible refine kt_st (by assumption) (by decide) ?_; intro _ _)
    | (with_reducible refine kt_pz (by assumption) (by decide) ?_; intro _ _)
    | with_reducible exact kt_d_takes_2 (by assumption)
    | (with_reducible refine po_call (kt_d_takes_2 (by assumption)) ?_; rintro ⟨_, _, _, _⟩ _; try dsimp only)
    | with_reducible refine po_cond (fun _ => ?_) (fun _ => ?_)
    | with_reducible refine po_bind_cond (fun _ => ?_) (fun _ => ?_)
    | with_reducible refine po_bl (fun _ _ => ?_))
theorem kt_d_fillsWays_263 {K170 : (Nat → Int32) → (Nat → Nat → Int32) → (Nat → Nat → Int64) → Int32 → Option (Unit × (Nat → Int32) × (Nat → Nat → Int32) × (Nat → Nat → Int64))} {K178 : (Nat → Int32) → (Nat → Nat → Int32) → (Nat → Nat → Int64) → Int32 → Int32 → Option (Unit × (Nat → Int32) × (Nat → Nat → Int32) × (Nat → Nat → Int64))} {K186 : (Nat → Int32) → (Nat → Nat → Int32) → (Nat → Nat → Int64) → Int32 → Int32 → Int32 → Option (Unit × (Nat → Int32) × (Nat → Nat → Int32) × (Nat → Nat → Int64))} {n : Nat} {F : Nat → Int32} {A : Nat → Nat → Int32} {J : Nat → Nat → Int64} {x1 : Int32} {x2 : Int32} {x3 : Int32} (hK170 : ∀ (a0 : Nat → Int32) (a1 : Nat → Nat → Int32) (a2 : Nat → Nat → Int64) (a3 : Int32), KT Fr Ar a0 a1 → po (K170 a0 a1 a2 a3) (fun r => KT Fr Ar r.2.1 r.2.2.1)) (hK178 : ∀ (a0 : Nat → Int32) (a1 : Nat → Nat → Int32) (a2 : Nat → Nat → Int64) (a3 : Int32) (a4 : Int32), KT Fr Ar a0 a1 → po (K178 a0 a1 a2 a3 a4) (fun r => KT Fr Ar r.2.1 r.2.2.1)) (hK186 : ∀ (a0 : Nat → Int32) (a1 : Nat → Nat → Int32) (a2 : Nat → Nat → Int64) (a3 : Int32) (a4 : Int32) (a5 : Int32), KT Fr Ar a0 a1 → po (K186 a0 a1 a2 a3 a4 a5) (fun r => KT Fr Ar r.2.1 r.2.2.1)) (h : KT Fr Ar F A) : po (d_fillsWays_263 K170 K178 K186 n F A J x1 x2 x3) (fun r => KT Fr Ar r.2.1 r.2.2.1) := by
  unfold d_fillsWays_263
  repeat' (first
    | with_reducible exact po_some (by assumption)
    | (with_reducible refine kt_pf (by assumption) (by decide) ?_; intro _ _)
    | (with_reducible refine kt_st (by assumption) (by decide) ?_; intro _ _)
    | (with_reducible refine kt_pz (by assumption) (by decide) ?_; intro _ _)
    | with_reducible exact hK170 _ _ _ _ (by assumption)
    | (intros; with_reducible exact hK170 _ _ _ _ (by assumption))
    | with_reducible exact hK178 _ _ _ _ _ (by assumption)
    | (intros; with_reducible exact hK178 _ _ _ _ _ (by assumption))
    | with_reducible exact hK186 _ _ _ _ _ _ (by assumption)
    | (intros; with_reducible exact hK186 _ _ _ _ _ _ (by assumption))
    | with_reducible refine po_cond (fun _ => ?_) (fun _ => ?_)
    | with_reducible refine po_bind_cond (fun _ => ?_) (fun _ => ?_)
    | with_reducible refine po_bl (fun _ _ => ?_))
theorem kt_d_fillsWays_186 {K170 : (Nat → Int32) → (Nat → Nat → Int32) → (Nat → Nat → Int64) → Int32 → Option (Unit × (Nat → Int32) × (Nat → Nat → Int32) × (Nat → Nat → Int64))} {K178 : (Nat → Int32) → (Nat → Nat → Int32) → (Nat → Nat → Int64) → Int32 → Int32 → Option (Unit × (Nat → Int32) × (Nat → Nat → Int32) × (Nat → Nat → Int64))} (hK170 : ∀ (a0 : Nat → Int32) (a1 : Nat → Nat → Int32) (a2 : Nat → Nat → Int64) (a3 : Int32), KT Fr Ar a0 a1 → po (K170 a0 a1 a2 a3) (fun r => KT Fr Ar r.2.1 r.2.2.1)) (hK178 : ∀ (a0 : Nat → Int32) (a1 : Nat → Nat → Int32) (a2 : Nat → Nat → Int64) (a3 : Int32) (a4 : Int32), KT Fr Ar a0 a1 → po (K178 a0 a1 a2 a3 a4) (fun r => KT Fr Ar r.2.1 r.2.2.1)) : ∀ {n : Nat} {F : Nat → Int32} {A : Nat → Nat → Int32} {J : Nat → Nat → Int64} {x1 : Int32} {x2 : Int32} {x3 : Int32}, KT Fr Ar F A → po (d_fillsWays_186 K170 K178 n F A J x1 x2 x3) (fun r => KT Fr Ar r.2.1 r.2.2.1) := by
  intro n
  induction n with
  | zero => intro F A J x1 x2 x3 _ r hr; cases hr
  | succ n ih =>
    intro F A J x1 x2 x3 h
    unfold d_fillsWays_186
    repeat' (first
      | with_reducible exact po_some (by assumption)
      | (with_reducible refine kt_pf (by assumption) (by decide) ?_; intro _ _)
      | (with_reducible refine kt_st (by assumption) (by decide) ?_; intro _ _)
      | (with_reducible refine kt_pz (by assumption) (by decide) ?_; intro _ _)
      | with_reducible refine kt_d_fillsWays_263 ?_ ?_ ?_ (by assumption)
      | (with_reducible refine po_call (kt_d_fillsWays_263 ?_ ?_ ?_ (by assumption)) ?_)
      | with_reducible exact hK170 _ _ _ _ (by assumption)
      | (intros; with_reducible exact hK170 _ _ _ _ (by assumption))
      | with_reducible exact hK178 _ _ _ _ _ (by assumption)
      | (intros; with_reducible exact hK178 _ _ _ _ _ (by assumption))
      | with_reducible exact ih (by assumption)
      | (with_reducible refine po_call (ih (by assumption)) ?_; rintro ⟨_, _, _, _⟩ _; try dsimp only)
      | (intros; with_reducible exact ih (by assumption))
      | with_reducible refine po_cond (fun _ => ?_) (fun _ => ?_)
      | with_reducible refine po_bind_cond (fun _ => ?_) (fun _ => ?_)
      | with_reducible refine po_bl (fun _ _ => ?_))
theorem kt_d_fillsWays_178 {K170 : (Nat → Int32) → (Nat → Nat → Int32) → (Nat → Nat → Int64) → Int32 → Option (Unit × (Nat → Int32) × (Nat → Nat → Int32) × (Nat → Nat → Int64))} (hK170 : ∀ (a0 : Nat → Int32) (a1 : Nat → Nat → Int32) (a2 : Nat → Nat → Int64) (a3 : Int32), KT Fr Ar a0 a1 → po (K170 a0 a1 a2 a3) (fun r => KT Fr Ar r.2.1 r.2.2.1)) : ∀ {n : Nat} {F : Nat → Int32} {A : Nat → Nat → Int32} {J : Nat → Nat → Int64} {x1 : Int32} {x2 : Int32}, KT Fr Ar F A → po (d_fillsWays_178 K170 n F A J x1 x2) (fun r => KT Fr Ar r.2.1 r.2.2.1) := by
  intro n
  induction n with
  | zero => intro F A J x1 x2 _ r hr; cases hr
  | succ n ih =>
    intro F A J x1 x2 h
    unfold d_fillsWays_178
    repeat' (first
      | with_reducible exact po_some (by assumption)
      | (with_reducible refine kt_pf (by assumption) (by decide) ?_; intro _ _)
      | (with_reducible refine kt_st (by assumption) (by decide) ?_; intro _ _)
      | (with_reducible refine kt_pz (by assumption) (by decide) ?_; intro _ _)
      | with_reducible refine kt_d_fillsWays_186 ?_ ?_ (by assumption)
      | (with_reducible refine po_call (kt_d_fillsWays_186 ?_ ?_ (by assumption)) ?_)
      | with_reducible exact hK170 _ _ _ _ (by assumption)
      | (intros; with_reducible exact hK170 _ _ _ _ (by assumption))
      | with_reducible exact ih (by assumption)
      | (with_reducible refine po_call (ih (by assumption)) ?_; rintro ⟨_, _, _, _⟩ _; try dsimp only)
      | (intros; with_reducible exact ih (by assumption))
      | with_reducible refine po_cond (fun _ => ?_) (fun _ => ?_)
      | with_reducible refine po_bind_cond (fun _ => ?_) (fun _ => ?_)
      | with_reducible refine po_bl (fun _ _ => ?_))
theorem kt_d_fillsWays_170   : ∀ {n : Nat} {F : Nat → Int32} {A : Nat → Nat → Int32} {J : Nat → Nat → Int64} {x1 : Int32}, KT Fr Ar F A → po (d_fillsWays_170  n F A J x1) (fun r => KT Fr Ar r.2.1 r.2.2.1) := by
  intro n
  induction n with
  | zero => intro F A J x1 _ r hr; cases hr
  | succ n ih =>
    intro F A J x1 h
    unfold d_fillsWays_170
    repeat' (first
      | with_reducible exact po_some (by assumption)
      | (with_reducible refine kt_pf (by assumption) (by decide) ?_; intro _ _)
      | (with_reducible refine kt_st (by assumption) (by decide) ?_; intro _ _)
      | (with_reducible refine kt_pz (by assumption) (by decide) ?_; intro _ _)
      | with_reducible refine kt_d_fillsWays_178 ?_ (by assumption)
      | (with_reducible refine po_call (kt_d_fillsWays_178 ?_ (by assumption)) ?_)
      | with_reducible exact ih (by assumption)
      | (with_reducible refine po_call (ih (by assumption)) ?_; rintro ⟨_, _, _, _⟩ _; try dsimp only)
      | (intros; with_reducible exact ih (by assumption))
      | with_reducible refine po_cond (fun _ => ?_) (fun _ => ?_)
      | with_reducible refine po_bind_cond (fun _ => ?_) (fun _ => ?_)
      | with_reducible refine po_bl (fun _ _ => ?_))
theorem kt_d_fillsWays_162 {K40 : (Nat → Int32) → (Nat → Nat → Int32) → (Nat → Nat → Int64) → Int32 → Option (Unit × (Nat → Int32) × (Nat → Nat → Int32) × (Nat → Nat → Int64))} {n : Nat} {F : Nat → Int32} {A : Nat → Nat → Int32} {J : Nat → Nat → Int64} {x1 : Int32} (hK40 : ∀ (a0 : Nat → Int32) (a1 : Nat → Nat → Int32) (a2 : Nat → Nat → Int64) (a3 : Int32), KT Fr Ar a0 a1 → po (K40 a0 a1 a2 a3) (fun r => KT Fr Ar r.2.1 r.2.2.1)) (h : KT Fr Ar F A) : po (d_fillsWays_162 K40 n F A J x1) (fun r => KT Fr Ar r.2.1 r.2.2.1) := by
  unfold d_fillsWays_162
  repeat' (first
    | with_reducible exact po_some (by assumption)
    | (with_reducible refine kt_pf (by assumption) (by decide) ?_; intro _ _)
    | (with_reducible refine kt_st (by assumption) (by decide) ?_; intro _ _)
    | (with_reducible refine kt_pz (by assumption) (by decide) ?_; intro _ _)
    | with_reducible exact hK40 _ _ _ _ (by assumption)
    | (intros; with_reducible exact hK40 _ _ _ _ (by assumption))
    | with_reducible refine po_cond (fun _ => ?_) (fun _ => ?_)
    | with_reducible refine po_bind_cond (fun _ => ?_) (fun _ => ?_)
    | with_reducible refine po_bl (fun _ _ => ?_))
theorem kt_d_fillsWays_40   : ∀ {n : Nat} {F : Nat → Int32} {A : Nat → Nat → Int32} {J : Nat → Nat → Int64} {x1 : Int32}, KT Fr Ar F A → po (d_fillsWays_40  n F A J x1) (fun r => KT Fr Ar r.2.1 r.2.2.1) := by
  intro n
  induction n with
  | zero => intro F A J x1 _ r hr; cases hr
  | succ n ih =>
    intro F A J x1 h
    unfold d_fillsWays_40
    repeat' (first
      | with_reducible exact po_some (by assumption)
      | (with_reducible refine kt_pf (by assumption) (by decide) ?_; intro _ _)
      | (with_reducible refine kt_st (by assumption) (by decide) ?_; intro _ _)
      | (with_reducible refine kt_pz (by assumption) (by decide) ?_; intro _ _)
      | with_reducible exact kt_d_fillsWays_170 (by assumption)
      | (with_reducible refine po_call (kt_d_fillsWays_170 (by assumption)) ?_; rintro ⟨_, _, _, _⟩ _; try dsimp only)
      | with_reducible refine kt_d_fillsWays_162 ?_ (by assumption)
      | (with_reducible refine po_call (kt_d_fillsWays_162 ?_ (by assumption)) ?_)
      | with_reducible exact ih (by assumption)
      | (with_reducible refine po_call (ih (by assumption)) ?_; rintro ⟨_, _, _, _⟩ _; try dsimp only)
      | (intros; with_reducible exact ih (by assumption))
      | with_reducible refine po_cond (fun _ => ?_) (fun _ => ?_)
      | with_reducible refine po_bind_cond (fun _ => ?_) (fun _ => ?_)
      | with_reducible refine po_bl (fun _ _ => ?_))
theorem kt_d_fillsWays_31 {K2 : (Nat → Int32) → (Nat → Nat → Int32) → (Nat → Nat → Int64) → Int32 → Option (Unit × (Nat → Int32) × (Nat → Nat → Int32) × (Nat → Nat → Int64))} {n : Nat} {F : Nat → Int32} {A : Nat → Nat → Int32} {J : Nat → Nat → Int64} {x1 : Int32} {s1 : Int32} {s2 : Int32} (hK2 : ∀ (a0 : Nat → Int32) (a1 : Nat → Nat → Int32) (a2 : Nat → Nat → Int64) (a3 : Int32), KT Fr Ar a0 a1 → po (K2 a0 a1 a2 a3) (fun r => KT Fr Ar r.2.1 r.2.2.1)) (h : KT Fr Ar F A) : po (d_fillsWays_31 K2 n F A J x1 s1 s2) (fun r => KT Fr Ar r.2.1 r.2.2.1) := by
  unfold d_fillsWays_31
  repeat' (first
    | with_reducible exact po_some (by assumption)
    | (with_reducible refine kt_pf (by assumption) (by decide) ?_; intro _ _)
    | (with_reducible refine kt_st (by assumption) (by decide) ?_; intro _ _)
    | (with_reducible refine kt_pz (by assumption) (by decide) ?_; intro _ _)
    | with_reducible exact hK2 _ _ _ _ (by assumption)
    | (intros; with_reducible exact hK2 _ _ _ _ (by assumption))
    | with_reducible refine po_cond (fun _ => ?_) (fun _ => ?_)
    | with_reducible refine po_bind_cond (fun _ => ?_) (fun _ => ?_)
    | with_reducible refine po_bl (fun _ _ => ?_))
theorem kt_d_fillsWays_2   : ∀ {n : Nat} {F : Nat → Int32} {A : Nat → Nat → Int32} {J : Nat → Nat → Int64} {x1 : Int32}, KT Fr Ar F A → po (d_fillsWays_2  n F A J x1) (fun r => KT Fr Ar r.2.1 r.2.2.1) := by
  intro n
  induction n with
  | zero => intro F A J x1 _ r hr; cases hr
  | succ n ih =>
    intro F A J x1 h
    unfold d_fillsWays_2
    repeat' (first
      | with_reducible exact po_some (by assumption)
      | (with_reducible refine kt_pf (by assumption) (by decide) ?_; intro _ _)
      | (with_reducible refine kt_st (by assumption) (by decide) ?_; intro _ _)
      | (with_reducible refine kt_pz (by assumption) (by decide) ?_; intro _ _)
      | with_reducible exact kt_d_fillsWays_40 (by assumption)
      | (with_reducible refine po_call (kt_d_fillsWays_40 (by assumption)) ?_; rintro ⟨_, _, _, _⟩ _; try dsimp only)
      | with_reducible refine kt_d_fillsWays_31 ?_ (by assumption)
      | (with_reducible refine po_call (kt_d_fillsWays_31 ?_ (by assumption)) ?_)
      | with_reducible exact ih (by assumption)
      | (with_reducible refine po_call (ih (by assumption)) ?_; rintro ⟨_, _, _, _⟩ _; try dsimp only)
      | (intros; with_reducible exact ih (by assumption))
      | with_reducible refine po_cond (fun _ => ?_) (fun _ => ?_)
      | with_reducible refine po_bind_cond (fun _ => ?_) (fun _ => ?_)
      | with_reducible refine po_bl (fun _ _ => ?_))
theorem kt_d_fillsWays {n : Nat} {F : Nat → Int32} {A : Nat → Nat → Int32} {J : Nat → Nat → Int64}  (h : KT Fr Ar F A) : po (d_fillsWays n F A J) (fun r => KT Fr Ar r.2.1 r.2.2.1) := by
  unfold d_fillsWays
  repeat' (first
    | with_reducible exact po_some (by assumption)
    | (with_reducible refine kt_pf (by assumption) (by decide) ?_; intro _ _)
    | (with_reducible refine kt_st (by assumption) (by decide) ?_; intro _ _)
    | (with_reducible refine kt_pz (by assumption) (by decide) ?_; intro _ _)
    | with_reducible exact kt_d_fillsWays_2 (by assumption)
    | (with_reducible refine po_call (kt_d_fillsWays_2 (by assumption)) ?_; rintro ⟨_, _, _, _⟩ _; try dsimp only)
    | with_reducible refine po_cond (fun _ => ?_) (fun _ => ?_)
    | with_reducible refine po_bind_cond (fun _ => ?_) (fun _ => ?_)
    | with_reducible refine po_bl (fun _ _ => ?_))
theorem kt_d_goesTill_128 {K27 : (Nat → Int32) → (Nat → Nat → Int32) → (Nat → Nat → Int64) → Int32 → Int32 → Option (Unit × (Nat → Int32) × (Nat → Nat → Int32) × (Nat → Nat → Int64))} {n : Nat} {F : Nat → Int32} {A : Nat → Nat → Int32} {J : Nat → Nat → Int64} {x1 : Int32} {x2 : Int32} (hK27 : ∀ (a0 : Nat → Int32) (a1 : Nat → Nat → Int32) (a2 : Nat → Nat → Int64) (a3 : Int32) (a4 : Int32), KT Fr Ar a0 a1 → po (K27 a0 a1 a2 a3 a4) (fun r => KT Fr Ar r.2.1 r.2.2.1)) (h : KT Fr Ar F A) : po (d_goesTill_128 K27 n F A J x1 x2) (fun r => KT Fr Ar r.2.1 r.2.2.1) := by
  unfold d_goesTill_128
  repeat' (first
    | with_reducible exact po_some (by assumption)
    | (with_reducible refine kt_pf (by assumption) (by decide) ?_; intro _ _)
    | (with_reducible refine kt_st (by assumption) (by decide) ?_; intro _ _)
    | (with_reducible refine kt_pz (by assumption) (by decide) ?_; intro _ _)
    | with_reducible exact hK27 _ _ _ _ _ (by assumption)
    | (intros; with_reducible exact hK27 _ _ _ _ _ (by assumption))
    | with_reducible refine po_cond (fun _ => ?_) (fun _ => ?_)
    | with_reducible refine po_bind_cond (fun _ => ?_) (fun _ => ?_)
    | with_reducible refine po_bl (fun _ _ => ?_))
theorem kt_d_goesTill_122 {K27 : (Nat → Int32) → (Nat → Nat → Int32) → (Nat → Nat → Int64) → Int32 → Int32 → Option (Unit × (Nat → Int32) × (Nat → Nat → Int32) × (Nat → Nat → Int64))} {K75 : (Nat → Int32) → (Nat → Nat → Int32) → (Nat → Nat → Int64) → Int32 → Int32 → Int32 → Option (Unit × (Nat → Int32) × (Nat → Nat → Int32) × (Nat → Nat → Int64))} {n : Nat} {F : Nat → Int32} {A : Nat → Nat → Int32} {J : Nat → Nat → Int64} {x1 : Int32} {x2 : Int32} {x3 : Int32} (hK27 : ∀ (a0 : Nat → Int32) (a1 : Nat → Nat → Int32) (a2 : Nat → Nat → Int64) (a3 : Int32) (a4 : Int32), KT Fr Ar a0 a1 → po (K27 a0 a1 a2 a3 a4) (fun r => KT Fr Ar r.2.1 r.2.2.1)) (hK75 : ∀ (a0 : Nat → Int32) (a1 : Nat → Nat → Int32) (a2 : Nat → Nat → Int64) (a3 : Int32) (a4 : Int32) (a5 : Int32), KT Fr Ar a0 a1 → po (K75 a0 a1 a2 a3 a4 a5) (fun r => KT Fr Ar r.2.1 r.2.2.1)) (h : KT Fr Ar F A) : po (d_goesTill_122 K27 K75 n F A J x1 x2 x3) (fun r => KT Fr Ar r.2.1 r.2.2.1) := by
  unfold d_goesTill_122
  repeat' (first
    | with_reducible exact po_some (by assumption)
    | (with_reducible refine kt_pf (by assumption) (by decide) ?_; intro _ _)
    | (with_reducible refine kt_st (by assumption) (by decide) ?_; intro _ _)
    | (with_reducible refine kt_pz (by assumption) (by decide) ?_; intro _ _)
    | with_reducible exact hK27 _ _ _ _ _ (by assumption)
    | (intros; with_reducible exact hK27 _ _ _ _ _ (by assumption))
    | with_reducible exact hK75 _ _ _ _ _ _ (by assumption)
    | (intros; with_reducible exact hK75 _ _ _ _ _ _ (by assumption))
    | with_reducible refine po_cond (fun _ => ?_) (fun _ => ?_)
    | with_reducible refine po_bind_cond (fun _ => ?_) (fun _ => ?_)
    | with_reducible refine po_bl (fun _ _ => ?_))
theorem kt_d_termOf_158 {K5 : (Nat → Int32) → (Nat → Nat → Int32) → (Nat → Nat → Int64) → Int32 → Int32 → Int32 → Option (Int32 × (Nat → Int32) × (Nat → Nat → Int32) × (Nat → Nat → Int64))} {n : Nat} {F : Nat → Int32} {A : Nat → Nat → Int32} {J : Nat → Nat → Int64} {x2 : Int32} {x3 : Int32} {x4 : Int32} {s1 : Int32} {s2 : Int32} (hK5 : ∀ (a0 : Nat → Int32) (a1 : Nat → Nat → Int32) (a2 : Nat → Nat → Int64) (a3 : Int32) (a4 : Int32) (a5 : Int32), KT Fr Ar a0 a1 → po (K5 a0 a1 a2 a3 a4 a5) (fun r => KT Fr Ar r.2.1 r.2.2.1)) (h : KT Fr Ar F A) : po (d_termOf_158 K5 n F A J x2 x3 x4 s1 s2) (fun r => KT Fr Ar r.2.1 r.2.2.1) := by
  unfold d_termOf_158
  repeat' (first
    | with_reducible exact po_some (by assumption)
    | (with_reducible refine kt_pf (by assumption) (by decide) ?_; intro _ _)
    | (with_reducible refine kt_st (by assumption) (by decide) ?_; intro _ _)
    | (with_reducible refine kt_pz (by assumption) (by decide) ?_; intro _ _)
    | with_reducible exact hK5 _ _ _ _ _ _ (by assumption)
    | (intros; with_reducible exact hK5 _ _ _ _ _ _ (by assumption))
    | with_reducible refine po_cond (fun _ => ?_) (fun _ => ?_)
    | with_reducible refine po_bind_cond (fun _ => ?_) (fun _ => ?_)
    | with_reducible refine po_bl (fun _ _ => ?_))
theorem kt_d_termOf_104 {K5 : (Nat → Int32) → (Nat → Nat → Int32) → (Nat → Nat → Int64) → Int32 → Int32 → Int32 → Option (Int32 × (Nat → Int32) × (Nat → Nat → Int32) × (Nat → Nat → Int64))} {n : Nat} {F : Nat → Int32} {A : Nat → Nat → Int32} {J : Nat → Nat → Int64} {x2 : Int32} {x3 : Int32} {x4 : Int32} {x5 : Int32} {x6 : Int32} {x7 : Int32} (hK5 : ∀ (a0 : Nat → Int32) (a1 : Nat → Nat → Int32) (a2 : Nat → Nat → Int64) (a3 : Int32) (a4 : Int32) (a5 : Int32), KT Fr Ar a0 a1 → po (K5 a0 a1 a2 a3 a4 a5) (fun r => KT Fr Ar r.2.1 r.2.2.1)) (h : KT Fr Ar F A) : po (d_termOf_104 K5 n F A J x2 x3 x4 x5 x6 x7) (fun r => KT Fr Ar r.2.1 r.2.2.1) := by
  unfold d_termOf_104
  repeat' (first
    | with_reducible exact po_some (by assumption)
    | (with_reducible refine kt_pf (by assumption) (by decide) ?_; intro _ _)
    | (with_reducible refine kt_st (by assumption) (by decide) ?_; intro _ _)
    | (with_reducible refine kt_pz (by assumption) (by decide) ?_; intro _ _)
    | with_reducible refine kt_d_termOf_158 ?_ (by assumption)
    | (with_reducible refine po_call (kt_d_termOf_158 ?_ (by assumption)) ?_)
    | with_reducible exact hK5 _ _ _ _ _ _ (by assumption)
    | (intros; with_reducible exact hK5 _ _ _ _ _ _ (by assumption))
    | with_reducible refine po_cond (fun _ => ?_) (fun _ => ?_)
    | with_reducible refine po_bind_cond (fun _ => ?_) (fun _ => ?_)
    | with_reducible refine po_bl (fun _ _ => ?_))
theorem kt_d_termOf_159 {K5 : (Nat → Int32) → (Nat → Nat → Int32) → (Nat → Nat → Int64) → Int32 → Int32 → Int32 → Option (Int32 × (Nat → Int32) × (Nat → Nat → Int32) × (Nat → Nat → Int64))} {n : Nat} {F : Nat → Int32} {A : Nat → Nat → Int32} {J : Nat → Nat → Int64} {x2 : Int32} {x3 : Int32} {x4 : Int32} (hK5 : ∀ (a0 : Nat → Int32) (a1 : Nat → Nat → Int32) (a2 : Nat → Nat → Int64) (a3 : Int32) (a4 : Int32) (a5 : Int32), KT Fr Ar a0 a1 → po (K5 a0 a1 a2 a3 a4 a5) (fun r => KT Fr Ar r.2.1 r.2.2.1)) (h : KT Fr Ar F A) : po (d_termOf_159 K5 n F A J x2 x3 x4) (fun r => KT Fr Ar r.2.1 r.2.2.1) := by
  unfold d_termOf_159
  repeat' (first
    | with_reducible exact po_some (by assumption)
    | (with_reducible refine kt_pf (by assumption) (by decide) ?_; intro _ _)
    | (with_reducible refine kt_st (by assumption) (by decide) ?_; intro _ _)
    | (with_reducible refine kt_pz (by assumption) (by decide) ?_; intro _ _)
    | with_reducible exact hK5 _ _ _ _ _ _ (by assumption)
    | (intros; with_reducible exact hK5 _ _ _ _ _ _ (by assumption))
    | with_reducible refine po_cond (fun _ => ?_) (fun _ => ?_)
    | with_reducible refine po_bind_cond (fun _ => ?_) (fun _ => ?_)
    | with_reducible refine po_bl (fun _ _ => ?_))
theorem kt_d_termOf_58 {K5 : (Nat → Int32) → (Nat → Nat → Int32) → (Nat → Nat → Int64) → Int32 → Int32 → Int32 → Option (Int32 × (Nat → Int32) × (Nat → Nat → Int32) × (Nat → Nat → Int64))} {n : Nat} {F : Nat → Int32} {A : Nat → Nat → Int32} {J : Nat → Nat → Int64} {x2 : Int32} {x3 : Int32} {x4 : Int32} {s1 : Int32} {s2 : Int32} (hK5 : ∀ (a0 : Nat → Int32) (a1 : Nat → Nat → Int32) (a2 : Nat → Nat → Int64) (a3 : Int32) (a4 : Int32) (a5 : Int32), KT Fr Ar a0 a1 → po (K5 a0 a1 a2 a3 a4 a5) (fun r => KT Fr Ar r.2.1 r.2.2.1)) (h : KT Fr Ar F A) : po (d_termOf_58 K5 n F A J x2 x3 x4 s1 s2) (fun r => KT Fr Ar r.2.1 r.2.2.1) := by
  unfold d_termOf_58
  repeat' (first
    | with_reducible exact po_some (by assumption)
    | (with_reducible refine kt_pf (by assumption) (by decide) ?_; intro _ _)
    | (with_reducible refine kt_st (by assumption) (by decide) ?_; intro _ _)
    | (with_reducible refine kt_pz (by assumption) (by decide) ?_; intro _ _)
    | with_reducible refine kt_d_termOf_159 ?_ (by assumption)
    | (with_reducible refine po_call (kt_d_termOf_159 ?_ (by assumption)) ?_)
    | with_reducible exact hK5 _ _ _ _ _ _ (by assumption)
    | (intros; with_reducible exact hK5 _ _ _ _ _ _ (by assumption))
    | with_reducible refine po_cond (fun _ => ?_) (fun _ => ?_)
    | with_reducible refine po_bind_cond (fun _ => ?_) (fun _ => ?_)
    | with_reducible refine po_bl (fun _ _ => ?_))
theorem kt_d_termOf_5   : ∀ {n : Nat} {F : Nat → Int32} {A : Nat → Nat → Int32} {J : Nat → Nat → Int64} {x2 : Int32} {x3 : Int32} {x4 : Int32}, KT Fr Ar F A → po (d_termOf_5  n F A J x2 x3 x4) (fun r => KT Fr Ar r.2.1 r.2.2.1) := by
  intro n
  induction n with
  | zero => intro F A J x2 x3 x4 _ r hr; cases hr
  | succ n ih =>
    intro F A J x2 x3 x4 h
    unfold d_termOf_5
    repeat' (first
      | with_reducible exact po_some (by assumption)
      | (with_reducible refine kt_pf (by assumption) (by decide) ?_; intro _ _)
      | (with_reducible refine kt_st (by assumption) (by decide) ?_; intro _ _)
      | (with_reducible refine kt_pz (by assumption) (by decide) ?_; intro _ _)
      | with_reducible refine kt_d_termOf_104 ?_ (by assumption)
      | (with_reducible refine po_call (kt_d_termOf_104 ?_ (by assumption)) ?_)
      | with_reducible refine kt_d_termOf_159 ?_ (by assumption)
      | (with_reducible refine po_call (kt_d_termOf_159 ?_ (by assumption)) ?_)
      | with_reducible refine kt_d_termOf_58 ?_ (by assumption)
      | (with_reducible refine po_call (kt_d_termOf_58 ?_ (by assumption)) ?_)
      | with_reducible exact ih (by assumption)
      | (with_reducible refine po_call (ih (by assumption)) ?_; rintro ⟨_, _, _, _⟩ _; try dsimp only)
      | (intros; with_reducible exact ih (by assumption))
      | with_reducible refine po_cond (fun _ => ?_) (fun _ => ?_)
      | with_reducible refine po_bind_cond (fun _ => ?_) (fun _ => ?_)
      | with_reducible refine po_bl (fun _ _ => ?_))
theorem kt_d_termOf {n : Nat} {F : Nat → Int32} {A : Nat → Nat → Int32} {J : Nat → Nat → Int64} {x1 : Int32} {x2 : Int32}  (h : KT Fr Ar F A) : po (d_termOf n F A J x1 x2) (fun r => KT Fr Ar r.2.1 r.2.2.1) := by
  unfold d_termOf
  repeat' (first
    | with_reducible exact po_some (by assumption)
    | (with_reducible refine kt_pf (by assumption) (by decide) ?_; intro _ _)
    | (with_reducible refine kt_st (by assumption) (by decide) ?_; intro _ _)
    | (with_reducible refine kt_pz (by assumption) (by decide) ?_; intro _ _)
    | with_reducible exact kt_d_termOf_5 (by assumption)
    | (with_reducible refine po_call (kt_d_termOf_5 (by assumption)) ?_; rintro ⟨_, _, _, _⟩ _; try dsimp only)
    | with_reducible refine po_cond (fun _ => ?_) (fun _ => ?_)
    | with_reducible refine po_bind_cond (fun _ => ?_) (fun _ => ?_)
    | with_reducible refine po_bl (fun _ _ => ?_))
theorem kt_d_tells_211 {n : Nat} {F : Nat → Int32} {A : Nat → Nat → Int32} {J : Nat → Nat → Int64} {x1 : Int32} {x3 : Int32} {x6 : Int32}  (h : KT Fr Ar F A) : po (d_tells_211 n F A J x1 x3 x6) (fun r => KT Fr Ar r.2.1 r.2.2.1) := by
  unfold d_tells_211
  repeat' (first
    | with_reducible exact po_some (by assumption)
    | (with_reducible refine kt_pf (by assumption) (by decide) ?_; intro _ _)
    | (with_reducible refine kt_st (by assumption) (by decide) ?_; intro _ _)
    | (with_reducible refine kt_pz (by assumption) (by decide) ?_; intro _ _)
    | with_reducible exact kt_d_termOf (by assumption)
    | (with_reducible refine po_call (kt_d_termOf (by assumption)) ?_; rintro ⟨_, _, _, _⟩ _; try dsimp only)
    | with_reducible refine po_cond (fun _ => ?_) (fun _ => ?_)
    | with_reducible refine po_bind_cond (fun _ => ?_) (fun _ => ?_)
    | with_reducible refine po_bl (fun _ _ => ?_))
theorem kt_d_tells_130   : ∀ {n : Nat} {F : Nat → Int32} {A : Nat → Nat → Int32} {J : Nat → Nat → Int64} {x1 : Int32} {x3 : Int32} {x5 : Int32} {x6 : Int32}, KT Fr Ar F A → po (d_tells_130  n F A J x1 x3 x5 x6) (fun r => KT Fr Ar r.2.1 r.2.2.1) := by
  intro n
  induction n with
  | zero => intro F A J x1 x3 x5 x6 _ r hr; cases hr
  | succ n ih =>
    intro F A J x1 x3 x5 x6 h
    unfold d_tells_130
    repeat' (first
      | with_reducible exact po_some (by assumption)
      | (with_reducible refine kt_pf (by assumption) (by decide) ?_; intro _ _)
      | (with_reducible refine kt_st (by assumption) (by decide) ?_; intro _ _)
      | (with_reducible refine kt_pz (by assumption) (by decide) ?_; intro _ _)
      | with_reducible exact kt_d_tells_211 (by assumption)
      | (with_reducible refine po_call (kt_d_tells_211 (by assumption)) ?_; rintro ⟨_, _, _, _⟩ _; try dsimp only)
      | with_reducible exact kt_d_termOf (by assumption)
      | (with_reducible refine po_call (kt_d_termOf (by assumption)) ?_; rintro ⟨_, _, _, _⟩ _; try dsimp only)
      | with_reducible exact ih (by assumption)
      | (with_reducible refine po_call (ih (by assumption)) ?_; rintro ⟨_, _, _, _⟩ _; try dsimp only)
      | (intros; with_reducible exact ih (by assumption))
      | with_reducible refine po_cond (fun _ => ?_) (fun _ => ?_)
      | with_reducible refine po_bind_cond (fun _ => ?_) (fun _ => ?_)
      | with_reducible refine po_bl (fun _ _ => ?_))
theorem kt_d_tells {n : Nat} {F : Nat → Int32} {A : Nat → Nat → Int32} {J : Nat → Nat → Int64} {x1 : Int32} {x2 : Int32}  (h : KT Fr Ar F A) : po (d_tells n F A J x1 x2) (fun r => KT Fr Ar r.2.1 r.2.2.1) := by
  unfold d_tells
  repeat' (first
    | with_reducible exact po_some (by assumption)
    | (with_reducible refine kt_pf (by assumption) (by decide) ?_; intro _ _)
    | (with_reducible refine kt_st (by assumption) (by decide) ?_; intro _ _)
    | (with_reducible refine kt_pz (by assumption) (by decide) ?_; intro _ _)
    | with_reducible exact kt_d_tells_130 (by assumption)
    | (with_reducible refine po_call (kt_d_tells_130 (by assumption)) ?_; rintro ⟨_, _, _, _⟩ _; try dsimp only)
    | with_reducible refine po_cond (fun _ => ?_) (fun _ => ?_)
    | with_reducible refine po_bind_cond (fun _ => ?_) (fun _ => ?_)
    | with_reducible refine po_bl (fun _ _ => ?_))
theorem kt_d_lies {F : Nat → Int32} {A : Nat → Nat → Int32} {J : Nat → Nat → Int64} {x1 : Int32} {x2 : Int32}  (h : KT Fr Ar F A) : po (d_lies F A J x1 x2) (fun r => KT Fr Ar r.2.1 r.2.2.1) := by
  unfold d_lies
  repeat' (first
    | with_reducible exact po_some (by assumption)
    | (with_reducible refine kt_pf (by assumption) (by decide) ?_; intro _ _)
    | (with_reducible refine kt_st (by assumption) (by decide) ?_; intro _ _)
    | (with_reducible refine kt_pz (by assumption) (by decide) ?_; intro _ _)
    | with_reducible refine po_cond (fun _ => ?_) (fun _ => ?_)
    | with_reducible refine po_bind_cond (fun _ => ?_) (fun _ => ?_)
    | with_reducible refine po_bl (fun _ _ => ?_))
theorem kt_d_begins1_124 {n : Nat} {F : Nat → Int32} {A : Nat → Nat → Int32} {J : Nat → Nat → Int64} {x1 : Int32} {x2 : Int32}  (h : KT Fr Ar F A) : po (d_begins1_124 n F A J x1 x2) (fun r => KT Fr Ar r.2.1 r.2.2.1) := by
  unfold d_begins1_124
  repeat' (first
    | with_reducible exact po_some (by assumption)
    | (with_reducible refine kt_pf (by assumption) (by decide) ?_; intro _ _)
    | (with_reducible refine kt_st (by assumption) (by decide) ?_; intro _ _)
    | (with_reducible refine kt_pz (by assumption) (by decide) ?_; intro _ _)
    | with_reducible exact kt_d_lies (by assumption)
    | (with_reducible refine po_call (kt_d_lies (by assumption)) ?_; rintro ⟨_, _, _, _⟩ _; try dsimp only)
    | with_reducible refine po_cond (fun _ => ?_) (fun _ => ?_)
    | with_reducible refine po_bind_cond (fun _ => ?_) (fun _ => ?_)
    | with_reducible refine po_bl (fun _ _ => ?_))
theorem kt_d_begins1_147 {n : Nat} {F : Nat → Int32} {A : Nat → Nat → Int32} {J : Nat → Nat → Int64} {x1 : Int32} {x2 : Int32} {x3 : Int32} {x4 : Int32}  (h : KT Fr Ar F A) : po (d_begins1_147 n F A J x1 x2 x3 x4) (fun r => KT Fr Ar r.2.1 r.2.2.1) := by
  unfold d_begins1_147
  repeat' (first
    | with_reducible exact po_some (by assumption)
    | (with_reducible refine kt_pf (by assumption) (by decide) ?_; intro _ _)
    | (with_reducible refine kt_st (by assumption) (by decide) ?_; intro _ _)
    | (with_reducible refine kt_pz (by assumption) (by decide) ?_; intro _ _)
    | with_reducible refine po_cond (fun _ => ?_) (fun _ => ?_)
    | with_reducible refine po_bind_cond (fun _ => ?_) (fun _ => ?_)
    | with_reducible refine po_bl (fun _ _ => ?_))
theorem kt_d_begins1_131 {n : Nat} {F : Nat → Int32} {A : Nat → Nat → Int32} {J : Nat → Nat → Int64} {x1 : Int32} {x2 : Int32} {x3 : Int32} {x4 : Int32} {x5 : Int32} {x6 : Int32}  (h : KT Fr Ar F A) : po (d_begins1_131 n F A J x1 x2 x3 x4 x5 x6) (fun r => KT Fr Ar r.2.1 r.2.2.1) := by
  unfold d_begins1_131
  repeat' (first
    | with_reducible exact po_some (by assumption)
    | (with_reducible refine kt_pf (by assumption) (by decide) ?_; intro _ _)
    | (with_reducible refine kt_st (by assumption) (by decide) ?_; intro _ _)
    | (with_reducible refine kt_pz (by assumption) (by decide) ?_; intro _ _)
    | with_reducible exact kt_d_begins1_147 (by assumption)
    | (with_reducible refine po_call (kt_d_begins1_147 (by assumption)) ?_; rintro ⟨_, _, _, _⟩ _; try dsimp only)
    | with_reducible refine po_cond (fun _ => ?_) (fun _ => ?_)
    | with_reducible refine po_bind_cond (fun _ => ?_) (fun _ => ?_)
    | with_reducible refine po_bl (fun _ _ => ?_))
theorem kt_d_begins1_81 {n : Nat} {F : Nat → Int32} {A : Nat → Nat → Int32} {J : Nat → Nat → Int64} {x1 : Int32} {x2 : Int32} {x3 : Int32} {x4 : Int32} {x5 : Int32} {s0 : Int32}  (h : KT Fr Ar F A) : po (d_begins1_81 n F A J x1 x2 x3 x4 x5 s0) (fun r => KT Fr Ar r.2.1 r.2.2.1) := by
  unfold d_begins1_81
  repeat' (first
    | with_reducible exact po_some (by assumption)
    | (with_reducible refine kt_pf (by assumption) (by decide) ?_; intro _ _)
    | (with_reducible refine kt_st (by assumption) (by decide) ?_; intro _ _)
    | (with_reducible refine kt_pz (by assumption) (by decide) ?_; intro _ _)
    | with_reducible exact kt_d_begins1_124 (by assumption)
    | (with_reducible refine po_call (kt_d_begins1_124 (by assumption)) ?_; rintro ⟨_, _, _, _⟩ _; try dsimp only)
    | with_reducible exact kt_d_begins1_131 (by assumption)
    | (with_reducible refine po_call (kt_d_begins1_131 (by assumption)) ?_; rintro ⟨_, _, _, _⟩ _; try dsimp only)
    | with_reducible refine po_cond (fun _ => ?_) (fun _ => ?_)
    | with_reducible refine po_bind_cond (fun _ => ?_) (fun _ => ?_)
    | with_reducible refine po_bl (fun _ _ => ?_))
theorem kt_d_begins1_76 {n : Nat} {F : Nat → Int32} {A : Nat → Nat → Int32} {J : Nat → Nat → Int64} {x1 : Int32} {x2 : Int32} {x3 : Int32} {x4 : Int32} {x5 : Int32}  (h : KT Fr Ar F A) : po (d_begins1_76 n F A J x1 x2 x3 x4 x5) (fun r => KT Fr Ar r.2.1 r.2.2.1) := by
  unfold d_begins1_76
  repeat' (first
    | with_reducible exact po_some (by assumption)
    | (with_reducible refine kt_pf (by assumption) (by decide) ?_; intro _ _)
    | (with_reducible refine kt_st (by assumption) (by decide) ?_; intro _ _)
    | (with_reducible refine kt_pz (by assumption) (by decide) ?_; intro _ _)
    | with_reducible exact kt_d_begins1_81 (by assumption)
    | (with_reducible refine po_call (kt_d_begins1_81 (by assumption)) ?_; rintro ⟨_, _, _, _⟩ _; try dsimp only)
    | with_reducible refine po_cond (fun _ => ?_) (fun _ => ?_)
    | with_reducible refine po_bind_cond (fun _ => ?_) (fun _ => ?_)
    | with_reducible refine po_bl (fun _ _ => ?_))
theorem kt_d_begins1 {n : Nat} {F : Nat → Int32} {A : Nat → Nat → Int32} {J : Nat → Nat → Int64} {x1 : Int32} {x2 : Int32}  (h : KT Fr Ar F A) : po (d_begins1 n F A J x1 x2) (fun r => KT Fr Ar r.2.1 r.2.2.1) := by
  unfold d_begins1
  repeat' (first
    | with_reducible exact po_some (by assumption)
    | (with_reducible refine kt_pf (by assumption) (by decide) ?_; intro _ _)
    | (with_reducible refine kt_st (by assumption) (by decide) ?_; intro _ _)
    | (with_reducible refine kt_pz (by assumption) (by decide) ?_; intro _ _)
    | with_reducible exact kt_d_tells (by assumption)
    | (with_reducible refine po_call (kt_d_tells (by assumption)) ?_; rintro ⟨_, _, _, _⟩ _; try dsimp only)
    | with_reducible exact kt_d_begins1_76 (by assumption)
    | (with_reducible refine po_call (kt_d_begins1_76 (by assumption)) ?_; rintro ⟨_, _, _, _⟩ _; try dsimp only)
    | with_reducible exact kt_d_begins1_81 (by assumption)
    | (with_reducible refine po_call (kt_d_begins1_81 (by assumption)) ?_; rintro ⟨_, _, _, _⟩ _; try dsimp only)
    | with_reducible exact kt_d_lies (by assumption)
    | (with_reducible refine po_call (kt_d_lies (by assumption)) ?_; rintro ⟨_, _, _, _⟩ _; try dsimp only)
    | with_reducible refine po_cond (fun _ => ?_) (fun _ => ?_)
    | with_reducible refine po_bind_cond (fun _ => ?_) (fun _ => ?_)
    | with_reducible refine po_bl (fun _ _ => ?_))
theorem kt_d_goesTill_75 {K27 : (Nat → Int32) → (Nat → Nat → Int32) → (Nat → Nat → Int64) → Int32 → Int32 → Option (Unit × (Nat → Int32) × (Nat → Nat → Int32) × (Nat → Nat → Int64))} (hK27 : ∀ (a0 : Nat → Int32) (a1 : Nat → Nat → Int32) (a2 : Nat → Nat → Int64) (a3 : Int32) (a4 : Int32), KT Fr Ar a0 a1 → po (K27 a0 a1 a2 a3 a4) (fun r => KT Fr Ar r.2.1 r.2.2.1)) : ∀ {n : Nat} {F : Nat → Int32} {A : Nat → Nat → Int32} {J : Nat → Nat → Int64} {x1 : Int32} {x2 : Int32} {x3 : Int32}, KT Fr Ar F A → po (d_goesTill_75 K27 n F A J x1 x2 x3) (fun r => KT Fr Ar r.2.1 r.2.2.1) := by
  intro n
  induction n with
  | zero => intro F A J x1 x2 x3 _ r hr; cases hr
  | succ n ih =>
    intro F A J x1 x2 x3 h
    unfold d_goesTill_75
    repeat' (first
      | with_reducible exact po_some (by assumption)
      | (with_reducible refine kt_pf (by assumption) (by decide) ?_; intro _ _)
      | (with_reducible refine kt_st (by assumption) (by decide) ?_; intro _ _)
      | (with_reducible refine kt_pz (by assumption) (by decide) ?_; intro _ _)
      | with_reducible refine kt_d_goesTill_128 ?_ (by assumption)
      | (with_reducible refine po_call (kt_d_goesTill_128 ?_ (by assumption)) ?_)
      | with_reducible refine kt_d_goesTill_122 ?_ ?_ (by assumption)
      | (with_reducible refine po_call (kt_d_goesTill_122 ?_ ?_ (by assumption)) ?_)
      | with_reducible exact kt_d_begins1 (by assumption)
      | (with_reducible refine po_call (kt_d_begins1 (by assumption)) ?_; rintro ⟨_, _, _, _⟩ _; try dsimp only)
      | with_reducible exact hK27 _ _ _ _ _ (by assumption)
      | (intros; with_reducible exact hK27 _ _ _ _ _ (by assumption))
      | with_reducible exact ih (by assumption)
      | (with_reducible refine po_call (ih (by assumption)) ?_; rintro ⟨_, _, _, _⟩ _; try dsimp only)
      | (intros; with_reducible exact ih (by assumption))
      | with_reducible refine po_cond (fun _ => ?_) (fun _ => ?_)
      | with_reducible refine po_bind_cond (fun _ => ?_) (fun _ => ?_)
      | with_reducible refine po_bl (fun _ _ => ?_))
theorem kt_d_goesTill_67 {K27 : (Nat → Int32) → (Nat → Nat → Int32) → (Nat → Nat → Int64) → Int32 → Int32 → Option (Unit × (Nat → Int32) × (Nat → Nat → Int32) × (Nat → Nat → Int64))} {K34 : (Nat → Int32) → (Nat → Nat → Int32) → (Nat → Nat → Int64) → Int32 → Int32 → Int32 → Option (Unit × (Nat → Int32) × (Nat → Nat → Int32) × (Nat → Nat → Int64))} {n : Nat} {F : Nat → Int32} {A : Nat → Nat → Int32} {J : Nat → Nat → Int64} {x1 : Int32} {x2 : Int32} {x3 : Int32} (hK27 : ∀ (a0 : Nat → Int32) (a1 : Nat → Nat → Int32) (a2 : Nat → Nat → Int64) (a3 : Int32) (a4 : Int32), KT Fr Ar a0 a1 → po (K27 a0 a1 a2 a3 a4) (fun r => KT Fr Ar r.2.1 r.2.2.1)) (hK34 : ∀ (a0 : Nat → Int32) (a1 : Nat → Nat → Int32) (a2 : Nat → Nat → Int64) (a3 : Int32) (a4 : Int32) (a5 : Int32), KT Fr Ar a0 a1 → po (K34 a0 a1 a2 a3 a4 a5) (fun r => KT Fr Ar r.2.1 r.2.2.1)) (h : KT Fr Ar F A) : po (d_goesTill_67 K27 K34 n F A J x1 x2 x3) (fun r => KT Fr Ar r.2.1 r.2.2.1) := by
  unfold d_goesTill_67
  repeat' (first
    | with_reducible exact po_some (by assumption)
    | (with_reducible refine kt_pf (by assumption) (by decide) ?_; intro _ _)
    | (with_reducible refine kt_st (by assumption) (by decide) ?_; intro _ _)
    | (with_reducible refine kt_pz (by assumption) (by decide) ?_; intro _ _)
    | with_reducible exact hK27 _ _ _ _ _ (by assumption)
    | (intros; with_reducible exact hK27 _ _ _ _ _ (by assumption))
    | with_reducible exact hK34 _ _ _ _ _ _ (by assumption)
    | (intros; with_reducible exact hK34 _ _ _ _ _ _ (by assumption))
    | with_reducible refine po_cond (fun _ => ?_) (fun _ => ?_)
    | with_reducible refine po_bind_cond (fun _ => ?_) (fun _ => ?_)
    | with_reducible refine po_bl (fun _ _ => ?_))
theorem kt_d_does {F : Nat → Int32} {A : Nat → Nat → Int32} {J : Nat → Nat → Int64} {x1 : Int32} {x2 : Int32}  (h : KT Fr Ar F A) : po (d_does F A J x1 x2) (fun r => KT Fr Ar r.2.1 r.2.2.1) := by
  unfold d_does
  repeat' (first
    | with_reducible exact po_some (by assumption)
    | (with_reducible refine kt_pf (by assumption) (by decide) ?_; intro _ _)
    | (with_reducible refine kt_st (by assumption) (by decide) ?_; intro _ _)
    | (with_reducible refine kt_pz (by assumption) (by decide) ?_; intro _ _)
    | with_reducible refine po_cond (fun _ => ?_) (fun _ => ?_)
    | with_reducible refine po_bind_cond (fun _ => ?_) (fun _ => ?_)
    | with_reducible refine po_bl (fun _ _ => ?_))
theorem kt_d_isOver {F : Nat → Int32} {A : Nat → Nat → Int32} {J : Nat → Nat → Int64} {x1 : Int32}  (h : KT Fr Ar F A) : po (d_isOver F A J x1) (fun r => KT Fr Ar r.2.1 r.2.2.1) := by
  unfold d_isOver
  repeat' (first
    | with_reducible exact po_some (by assumption)
    | (with_reducible refine kt_pf (by assumption) (by decide) ?_; intro _ _)
    | (with_reducible refine kt_st (by assumption) (by decide) ?_; intro _ _)
    | (with_reducible refine kt_pz (by assumption) (by decide) ?_; intro _ _)
    | with_reducible exact kt_d_does (by assumption)
    | (with_reducible refine po_call (kt_d_does (by assumption)) ?_; rintro ⟨_, _, _, _⟩ _; try dsimp only)
    | with_reducible refine po_cond (fun _ => ?_) (fun _ => ?_)
    | with_reducible refine po_bind_cond (fun _ => ?_) (fun _ => ?_)
    | with_reducible refine po_bl (fun _ _ => ?_))
theorem kt_d_goesTill_34 {K27 : (Nat → Int32) → (Nat → Nat → Int32) → (Nat → Nat → Int64) → Int32 → Int32 → Option (Unit × (Nat → Int32) × (Nat → Nat → Int32) × (Nat → Nat → Int64))} (hK27 : ∀ (a0 : Nat → Int32) (a1 : Nat → Nat → Int32) (a2 : Nat → Nat → Int64) (a3 : Int32) (a4 : Int32), KT Fr Ar a0 a1 → po (K27 a0 a1 a2 a3 a4) (fun r => KT Fr Ar r.2.1 r.2.2.1)) : ∀ {n : Nat} {F : Nat → Int32} {A : Nat → Nat → Int32} {J : Nat → Nat → Int64} {x1 : Int32} {x2 : Int32} {x3 : Int32}, KT Fr Ar F A → po (d_goesTill_34 K27 n F A J x1 x2 x3) (fun r => KT Fr Ar r.2.1 r.2.2.1) := by
  intro n
  induction n with
  | zero => intro F A J x1 x2 x3 _ r hr; cases hr
  | succ n ih =>
    intro F A J x1 x2 x3 h
    unfold d_goesTill_34
    repeat' (first
      | with_reducible exact po_some (by assumption)
      | (with_reducible refine kt_pf (by assumption) (by decide) ?_; intro _ _)
      | (with_reducible refine kt_st (by assumption) (by decide) ?_; intro _ _)
      | (with_reducible refine kt_pz (by assumption) (by decide) ?_; intro _ _)
      | with_reducible refine kt_d_goesTill_75 ?_ (by assumption)
      | (with_reducible refine po_call (kt_d_goesTill_75 ?_ (by assumption)) ?_)
      | with_reducible refine kt_d_goesTill_67 ?_ ?_ (by assumption)
      | (with_reducible refine po_call (kt_d_goesTill_67 ?_ ?_ (by assumption)) ?_)
      | with_reducible exact kt_d_isOver (by assumption)
      | (with_reducible refine po_call (kt_d_isOver (by assumption)) ?_; rintro ⟨_, _, _, _⟩ _; try dsimp only)
      | with_reducible exact hK27 _ _ _ _ _ (by assumption)
      | (intros; with_reducible exact hK27 _ _ _ _ _ (by assumption))
      | with_reducible exact ih (by assumption)
      | (with_reducible refine po_call (ih (by assumption)) ?_; rintro ⟨_, _, _, _⟩ _; try dsimp only)
      | (intros; with_reducible exact ih (by assumption))
      | with_reducible refine po_cond (fun _ => ?_) (fun _ => ?_)
      | with_reducible refine po_bind_cond (fun _ => ?_) (fun _ => ?_)
      | with_reducible refine po_bl (fun _ _ => ?_))
theorem kt_d_goesTill_27   : ∀ {n : Nat} {F : Nat → Int32} {A : Nat → Nat → Int32} {J : Nat → Nat → Int64} {x1 : Int32} {x2 : Int32}, KT Fr Ar F A → po (d_goesTill_27  n F A J x1 x2) (fun r => KT Fr Ar r.2.1 r.2.2.1) := by
  intro n
  induction n with
  | zero => intro F A J x1 x2 _ r hr; cases hr
  | succ n ih =>
    intro F A J x1 x2 h
    unfold d_goesTill_27
    repeat' (first
      | with_reducible exact po_some (by assumption)
      | (with_reducible refine kt_pf (by assumption) (by decide) ?_; intro _ _)
      | (with_reducible refine kt_st (by assumption) (by decide) ?_; intro _ _)
      | (with_reducible refine kt_pz (by assumption) (by decide) ?_; intro _ _)
      | with_reducible refine kt_d_goesTill_34 ?_ (by assumption)
      | (with_reducible refine po_call (kt_d_goesTill_34 ?_ (by assumption)) ?_)
      | with_reducible exact ih (by assumption)
      | (with_reducible refine po_call (ih (by assumption)) ?_; rintro ⟨_, _, _, _⟩ _; try dsimp only)
      | (intros; with_reducible exact ih (by assumption))
      | with_reducible refine po_cond (fun _ => ?_) (fun _ => ?_)
      | with_reducible refine po_bind_cond (fun _ => ?_) (fun _ => ?_)
      | with_reducible refine po_bl (fun _ _ => ?_))
theorem kt_d_getsUp_117 {F : Nat → Int32} {A : Nat → Nat → Int32} {J : Nat → Nat → Int64} {x1 : Int32} {x3 : Int32} {s1 : Int32} {s2 : Int32}  (h : KT Fr Ar F A) : po (d_getsUp_117 F A J x1 x3 s1 s2) (fun r => KT Fr Ar r.2.1 r.2.2.1) := by
  unfold d_getsUp_117
  repeat' (first
    | with_reducible exact po_some (by assumption)
    | (with_reducible refine kt_pf (by assumption) (by decide) ?_; intro _ _)
    | (with_reducible refine kt_st (by assumption) (by decide) ?_; intro _ _)
    | (with_reducible refine kt_pz (by assumption) (by decide) ?_; intro _ _)
    | with_reducible refine po_cond (fun _ => ?_) (fun _ => ?_)
    | with_reducible refine po_bind_cond (fun _ => ?_) (fun _ => ?_)
    | with_reducible refine po_bl (fun _ _ => ?_))
theorem kt_d_getsUp {F : Nat → Int32} {A : Nat → Nat → Int32} {J : Nat → Nat → Int64} {x1 : Int32}  (h : KT Fr Ar F A) : po (d_getsUp F A J x1) (fun r => KT Fr Ar r.2.1 r.2.2.1) := by
  unfold d_getsUp
  repeat' (first
    | with_reducible exact po_some (by assumption)
    | (with_reducible refine kt_pf (by assumption) (by decide) ?_; intro _ _)
    | (with_reducible refine kt_st (by assumption) (by decide) ?_; intro _ _)
    | (with_reducible refine kt_pz (by assumption) (by decide) ?_; intro _ _)
    | with_reducible exact kt_d_getsUp_117 (by assumption)
    | (with_reducible refine po_call (kt_d_getsUp_117 (by assumption)) ?_; rintro ⟨_, _, _, _⟩ _; try dsimp only)
    | with_reducible refine po_cond (fun _ => ?_) (fun _ => ?_)
    | with_reducible refine po_bind_cond (fun _ => ?_) (fun _ => ?_)
    | with_reducible refine po_bl (fun _ _ => ?_))
theorem kt_d_goesTill_6   : ∀ {n : Nat} {F : Nat → Int32} {A : Nat → Nat → Int32} {J : Nat → Nat → Int64} {x1 : Int32} {x2 : Int32}, KT Fr Ar F A → po (d_goesTill_6  n F A J x1 x2) (fun r => KT Fr Ar r.2.1 r.2.2.1) := by
  intro n
  induction n with
  | zero => intro F A J x1 x2 _ r hr; cases hr
  | succ n ih =>
    intro F A J x1 x2 h
    unfold d_goesTill_6
    repeat' (first
      | with_reducible exact po_some (by assumption)
      | (with_reducible refine kt_pf (by assumption) (by decide) ?_; intro _ _)
      | (with_reducible refine kt_st (by assumption) (by decide) ?_; intro _ _)
      | (with_reducible refine kt_pz (by assumption) (by decide) ?_; intro _ _)
      | with_reducible exact kt_d_goesTill_27 (by assumption)
      | (with_reducible refine po_call (kt_d_goesTill_27 (by assumption)) ?_; rintro ⟨_, _, _, _⟩ _; try dsimp only)
      | with_reducible exact kt_d_getsUp (by assumption)
      | (with_reducible refine po_call (kt_d_getsUp (by assumption)) ?_; rintro ⟨_, _, _, _⟩ _; try dsimp only)
      | with_reducible exact ih (by assumption)
      | (with_reducible refine po_call (ih (by assumption)) ?_; rintro ⟨_, _, _, _⟩ _; try dsimp only)
      | (intros; with_reducible exact ih (by assumption))
      | with_reducible refine po_cond (fun _ => ?_) (fun _ => ?_)
      | with_reducible refine po_bind_cond (fun _ => ?_) (fun _ => ?_)
      | with_reducible refine po_bl (fun _ _ => ?_))
theorem kt_d_goesTill {n : Nat} {F : Nat → Int32} {A : Nat → Nat → Int32} {J : Nat → Nat → Int64} {x1 : Int32}  (h : KT Fr Ar F A) : po (d_goesTill n F A J x1) (fun r => KT Fr Ar r.2.1 r.2.2.1) := by
  unfold d_goesTill
  repeat' (first
    | with_reducible exact po_some (by assumption)
    | (with_reducible refine kt_pf (by assumption) (by decide) ?_; intro _ _)
    | (with_reducible refine kt_st (by assumption) (by decide) ?_; intro _ _)
    | (with_reducible refine kt_pz (by assumption) (by decide) ?_; intro _ _)
    | with_reducible exact kt_d_fillsWays (by assumption)
    | (with_reducible refine po_call (kt_d_fillsWays (by assumption)) ?_; rintro ⟨_, _, _, _⟩ _; try dsimp only)
    | with_reducible exact kt_d_goesTill_6 (by assumption)
    | (with_reducible refine po_call (kt_d_goesTill_6 (by assumption)) ?_; rintro ⟨_, _, _, _⟩ _; try dsimp only)
    | with_reducible refine po_cond (fun _ => ?_) (fun _ => ?_)
    | with_reducible refine po_bind_cond (fun _ => ?_) (fun _ => ?_)
    | with_reducible refine po_bl (fun _ _ => ?_))
theorem kt_d_wholeNight_108 {K20 : (Nat → Int32) → (Nat → Nat → Int32) → (Nat → Nat → Int64) → Int32 → Int32 → Option (Int32 × (Nat → Int32) × (Nat → Nat → Int32) × (Nat → Nat → Int64))} {n : Nat} {F : Nat → Int32} {A : Nat → Nat → Int32} {J : Nat → Nat → Int64} {x1 : Int32} {x2 : Int32} (hK20 : ∀ (a0 : Nat → Int32) (a1 : Nat → Nat → Int32) (a2 : Nat → Nat → Int64) (a3 : Int32) (a4 : Int32), KT Fr Ar a0 a1 → po (K20 a0 a1 a2 a3 a4) (fun r => KT Fr Ar r.2.1 r.2.2.1)) (h : KT Fr Ar F A) : po (d_wholeNight_108 K20 n F A J x1 x2) (fun r => KT Fr Ar r.2.1 r.2.2.1) := by
  unfold d_wholeNight_108
  repeat' (first
    | with_reducible exact po_some (by assumption)
    | (with_reducible refine kt_pf (by assumption) (by decide) ?_; intro _ _)
    | (with_reducible refine kt_st (by assumption) (by decide) ?_; intro _ _)
    | (with_reducible refine kt_pz (by assumption) (by decide) ?_; intro _ _)
    | with_reducible exact hK20 _ _ _ _ _ (by assumption)
    | (intros; with_reducible exact hK20 _ _ _ _ _ (by assumption))
    | with_reducible refine po_cond (fun _ => ?_) (fun _ => ?_)
    | with_reducible refine po_bind_cond (fun _ => ?_) (fun _ => ?_)
    | with_reducible refine po_bl (fun _ _ => ?_))
theorem kt_d_wholeNight_20   : ∀ {n : Nat} {F : Nat → Int32} {A : Nat → Nat → Int32} {J : Nat → Nat → Int64} {x1 : Int32} {x2 : Int32}, KT Fr Ar F A → po (d_wholeNight_20  n F A J x1 x2) (fun r => KT Fr Ar r.2.1 r.2.2.1) := by
  intro n
  induction n with
  | zero => intro F A J x1 x2 _ r hr; cases hr
  | succ n ih =>
    intro F A J x1 x2 h
    unfold d_wholeNight_20
    repeat' (first
      | with_reducible exact po_some (by assumption)
      | (with_reducible refine kt_pf (by assumption) (by decide) ?_; intro _ _)
      | (with_reducible refine kt_st (by assumption) (by decide) ?_; intro _ _)
      | (with_reducible refine kt_pz (by assumption) (by decide) ?_; intro _ _)
      | with_reducible refine kt_d_wholeNight_108 ?_ (by assumption)
      | (with_reducible refine po_call (kt_d_wholeNight_108 ?_ (by assumption)) ?_)
      | with_reducible exact ih (by assumption)
      | (with_reducible refine po_call (ih (by assumption)) ?_; rintro ⟨_, _, _, _⟩ _; try dsimp only)
      | (intros; with_reducible exact ih (by assumption))
      | with_reducible refine po_cond (fun _ => ?_) (fun _ => ?_)
      | with_reducible refine po_bind_cond (fun _ => ?_) (fun _ => ?_)
      | with_reducible refine po_bl (fun _ _ => ?_))
theorem kt_d_wholeNight {n : Nat} {F : Nat → Int32} {A : Nat → Nat → Int32} {J : Nat → Nat → Int64}  (h : KT Fr Ar F A) : po (d_wholeNight n F A J) (fun r => KT Fr Ar r.2.1 r.2.2.1) := by
  unfold d_wholeNight
  repeat' (first
    | with_reducible exact po_some (by assumption)
    | (with_reducible refine kt_pf (by assumption) (by decide) ?_; intro _ _)
    | (with_reducible refine kt_st (by assumption) (by decide) ?_; intro _ _)
    | (with_reducible refine kt_pz (by assumption) (by decide) ?_; intro _ _)
    | with_reducible exact kt_d_goesTill (by assumption)
    | (with_reducible refine po_call (kt_d_goesTill (by assumption)) ?_; rintro ⟨_, _, _, _⟩ _; try dsimp only)
    | with_reducible exact kt_d_wholeNight_20 (by assumption)
    | (with_reducible refine po_call (kt_d_wholeNight_20 (by assumption)) ?_; rintro ⟨_, _, _, _⟩ _; try dsimp only)
    | with_reducible refine po_cond (fun _ => ?_) (fun _ => ?_)
    | with_reducible refine po_bind_cond (fun _ => ?_) (fun _ => ?_)
    | with_reducible refine po_bl (fun _ _ => ?_))
theorem kt_d_gain {n : Nat} {F : Nat → Int32} {A : Nat → Nat → Int32} {J : Nat → Nat → Int64}  (h : KT Fr Ar F A) : po (d_gain n F A J) (fun r => KT Fr Ar r.2.1 r.2.2.1) := by
  unfold d_gain
  repeat' (first
    | with_reducible exact po_some (by assumption)
    | (with_reducible refine kt_pf (by assumption) (by decide) ?_; intro _ _)
    | (with_reducible refine kt_st (by assumption) (by decide) ?_; intro _ _)
    | (with_reducible refine kt_pz (by assumption) (by decide) ?_; intro _ _)
    | with_reducible exact kt_d_takes (by assumption)
    | (with_reducible refine po_call (kt_d_takes (by assumption)) ?_; rintro ⟨_, _, _, _⟩ _; try dsimp only)
    | with_reducible exact kt_d_wholeNight (by assumption)
    | (with_reducible refine po_call (kt_d_wholeNight (by assumption)) ?_; rintro ⟨_, _, _, _⟩ _; try dsimp only)
    | with_reducible refine po_cond (fun _ => ?_) (fun _ => ?_)
    | with_reducible refine po_bind_cond (fun _ => ?_) (fun _ => ?_)
    | with_reducible refine po_bl (fun _ _ => ?_))
theorem kt_d_leaves_96 {n : Nat} {F : Nat → Int32} {A : Nat → Nat → Int32} {J : Nat → Nat → Int64} {s1 : Int32} {s2 : Int32}  (h : KT Fr Ar F A) : po (d_leaves_96 n F A J s1 s2) (fun r => KT Fr Ar r.2.1 r.2.2.1) := by
  unfold d_leaves_96
  repeat' (first
    | with_reducible exact po_some (by assumption)
    | (with_reducible refine kt_pf (by assumption) (by decide) ?_; intro _ _)
    | (with_reducible refine kt_st (by assumption) (by decide) ?_; intro _ _)
    | (with_reducible refine kt_pz (by assumption) (by decide) ?_; intro _ _)
    | with_reducible refine po_cond (fun _ => ?_) (fun _ => ?_)
    | with_reducible refine po_bind_cond (fun _ => ?_) (fun _ => ?_)
    | with_reducible refine po_bl (fun _ _ => ?_))
theorem kt_d_leaves_78 {n : Nat} {F : Nat → Int32} {A : Nat → Nat → Int32} {J : Nat → Nat → Int64} {x1 : Int32} {x3 : Int32} {s1 : Int32} {s2 : Int32}  (h : KT Fr Ar F A) : po (d_leaves_78 n F A J x1 x3 s1 s2) (fun r => KT Fr Ar r.2.1 r.2.2.1) := by
  unfold d_leaves_78
  repeat' (first
    | with_reducible exact po_some (by assumption)
    | (with_reducible refine kt_pf (by assumption) (by decide) ?_; intro _ _)
    | (with_reducible refine kt_st (by assumption) (by decide) ?_; intro _ _)
    | (with_reducible refine kt_pz (by assumption) (by decide) ?_; intro _ _)
    | with_reducible exact kt_d_leaves_96 (by assumption)
    | (with_reducible refine po_call (kt_d_leaves_96 (by assumption)) ?_; rintro ⟨_, _, _, _⟩ _; try dsimp only)
    | with_reducible refine po_cond (fun _ => ?_) (fun _ => ?_)
    | with_reducible refine po_bind_cond (fun _ => ?_) (fun _ => ?_)
    | with_reducible refine po_bl (fun _ _ => ?_))
theorem kt_d_leaves_60 {n : Nat} {F : Nat → Int32} {A : Nat → Nat → Int32} {J : Nat → Nat → Int64} {x1 : Int32} {x3 : Int32} {x4 : Int32}  (h : KT Fr Ar F A) : po (d_leaves_60 n F A J x1 x3 x4) (fun r => KT Fr Ar r.2.1 r.2.2.1) := by
  unfold d_leaves_60
  repeat' (first
    | with_reducible exact po_some (by assumption)
    | (with_reducible refine kt_pf (by assumption) (by decide) ?_; intro _ _)
    | (with_reducible refine kt_st (by assumption) (by decide) ?_; intro _ _)
    | (with_reducible refine kt_pz (by assumption) (by decide) ?_; intro _ _)
    | with_reducible exact kt_d_leaves_78 (by assumption)
    | (with_reducible refine po_call (kt_d_leaves_78 (by assumption)) ?_; rintro ⟨_, _, _, _⟩ _; try dsimp only)
    | with_reducible refine po_cond (fun _ => ?_) (fun _ => ?_)
    | with_reducible refine po_bind_cond (fun _ => ?_) (fun _ => ?_)
    | with_reducible refine po_bl (fun _ _ => ?_))
theorem kt_d_leaves_45 {n : Nat} {F : Nat → Int32} {A : Nat → Nat → Int32} {J : Nat → Nat → Int64} {x1 : Int32} {x3 : Int32} {x4 : Int32}  (h : KT Fr Ar F A) : po (d_leaves_45 n F A J x1 x3 x4) (fun r => KT Fr Ar r.2.1 r.2.2.1) := by
  unfold d_leaves_45
  repeat' (first
    | with_reducible exact po_some (by assumption)
    | (with_reducible refine kt_pf (by assumption) (by decide) ?_; intro _ _)
    | (with_reducible refine kt_st (by assumption) (by decide) ?_; intro _ _)
    | (with_reducible refine kt_pz (by assumption) (by decide) ?_; intro _ _)
    | with_reducible exact kt_d_leaves_60 (by assumption)
    | (with_reducible refine po_call (kt_d_leaves_60 (by assumption)) ?_; rintro ⟨_, _, _, _⟩ _; try dsimp only)
    | with_reducible refine po_cond (fun _ => ?_) (fun _ => ?_)
    | with_reducible refine po_bind_cond (fun _ => ?_) (fun _ => ?_)
    | with_reducible refine po_bl (fun _ _ => ?_))
theorem kt_d_leaves_7   : ∀ {n : Nat} {F : Nat → Int32} {A : Nat → Nat → Int32} {J : Nat → Nat → Int64} {x1 : Int32} {x3 : Int32} {x4 : Int32}, KT Fr Ar F A → po (d_leaves_7  n F A J x1 x3 x4) (fun r => KT Fr Ar r.2.1 r.2.2.1) := by
  intro n
  induction n with
  | zero => intro F A J x1 x3 x4 _ r hr; cases hr
  | succ n ih =>
    intro F A J x1 x3 x4 h
    unfold d_leaves_7
    repeat' (first
      | with_reducible exact po_some (by assumption)
      | (with_reducible refine kt_pf (by assumption) (by decide) ?_; intro _ _)
      | (with_reducible refine kt_st (by assumption) (by decide) ?_; intro _ _)
      | (with_reducible refine kt_pz (by assumption) (by decide) ?_; intro _ _)
      | with_reducible exact kt_d_leaves_45 (by assumption)
      | (with_reducible refine po_call (kt_d_leaves_45 (by assumption)) ?_; rintro ⟨_, _, _, _⟩ _; try dsimp only)
      | with_reducible exact ih (by assumption)
      | (with_reducible refine po_call (ih (by assumption)) ?_; rintro ⟨_, _, _, _⟩ _; try dsimp only)
      | (intros; with_reducible exact ih (by assumption))
      | with_reducible refine po_cond (fun _ => ?_) (fun _ => ?_)
      | with_reducible refine po_bind_cond (fun _ => ?_) (fun _ => ?_)
      | with_reducible refine po_bl (fun _ _ => ?_))
theorem kt_d_leaves {n : Nat} {F : Nat → Int32} {A : Nat → Nat → Int32} {J : Nat → Nat → Int64} {x1 : Int32} {x2 : Int32}  (h : KT Fr Ar F A) : po (d_leaves n F A J x1 x2) (fun r => KT Fr Ar r.2.1 r.2.2.1) := by
  unfold d_leaves
  repeat' (first
    | with_reducible exact po_some (by assumption)
    | (with_reducible refine kt_pf (by assumption) (by decide) ?_; intro _ _)
    | (with_reducible refine kt_st (by assumption) (by decide) ?_; intro _ _)
    | (with_reducible refine kt_pz (by assumption) (by decide) ?_; intro _ _)
    | with_reducible exact kt_d_leaves_7 (by assumption)
    | (with_reducible refine po_call (kt_d_leaves_7 (by assumption)) ?_; rintro ⟨_, _, _, _⟩ _; try dsimp only)
    | with_reducible refine po_cond (fun _ => ?_) (fun _ => ?_)
    | with_reducible refine po_bind_cond (fun _ => ?_) (fun _ => ?_)
    | with_reducible refine po_bl (fun _ _ => ?_))
theorem kt_d_gainBy {n : Nat} {F : Nat → Int32} {A : Nat → Nat → Int32} {J : Nat → Nat → Int64} {x1 : Int32} {x2 : Int32}  (h : KT Fr Ar F A) : po (d_gainBy n F A J x1 x2) (fun r => KT Fr Ar r.2.1 r.2.2.1) := by
  unfold d_gainBy
  repeat' (first
    | with_reducible exact po_some (by assumption)
    | (with_reducible refine kt_pf (by assumption) (by decide) ?_; intro _ _)
    | (with_reducible refine kt_st (by assumption) (by decide) ?_; intro _ _)
    | (with_reducible refine kt_pz (by assumption) (by decide) ?_; intro _ _)
    | with_reducible exact kt_d_takes (by assumption)
    | (with_reducible refine po_call (kt_d_takes (by assumption)) ?_; rintro ⟨_, _, _, _⟩ _; try dsimp only)
    | with_reducible exact kt_d_leaves (by assumption)
    | (with_reducible refine po_call (kt_d_leaves (by assumption)) ?_; rintro ⟨_, _, _, _⟩ _; try dsimp only)
    | with_reducible exact kt_d_wholeNight (by assumption)
    | (with_reducible refine po_call (kt_d_wholeNight (by assumption)) ?_; rintro ⟨_, _, _, _⟩ _; try dsimp only)
    | with_reducible refine po_cond (fun _ => ?_) (fun _ => ?_)
    | with_reducible refine po_bind_cond (fun _ => ?_) (fun _ => ?_)
    | with_reducible refine po_bl (fun _ _ => ?_))
theorem kt_d_bestOption_50 {K14 : (Nat → Int32) → (Nat → Nat → Int32) → (Nat → Nat → Int64) → Int32 → Int32 → Int32 → Option (Int32 × (Nat → Int32) × (Nat → Nat → Int32) × (Nat → Nat → Int64))} {n : Nat} {F : Nat → Int32} {A : Nat → Nat → Int32} {J : Nat → Nat → Int64} {x1 : Int32} {x2 : Int32} {x3 : Int32} (hK14 : ∀ (a0 : Nat → Int32) (a1 : Nat → Nat → Int32) (a2 : Nat → Nat → Int64) (a3 : Int32) (a4 : Int32) (a5 : Int32), KT Fr Ar a0 a1 → po (K14 a0 a1 a2 a3 a4 a5) (fun r => KT Fr Ar r.2.1 r.2.2.1)) (h : KT Fr Ar F A) : po (d_bestOption_50 K14 n F A J x1 x2 x3) (fun r => KT Fr Ar r.2.1 r.2.2.1) := by
  unfold d_bestOption_50
  repeat' (first
    | with_reducible exact po_some (by assumption)
    | (with_reducible refine kt_pf (by assumption) (by decide) ?_; intro _ _)
    | (with_reducible refine kt_st (by assumption) (by decide) ?_; intro _ _)
    | (with_reducible refine kt_pz (by assumption) (by decide) ?_; intro _ _)
    | with_reducible exact hK14 _ _ _ _ _ _ (by assumption)
    | (intros; with_reducible exact hK14 _ _ _ _ _ _ (by assumption))
    | with_reducible refine po_cond (fun _ => ?_) (fun _ => ?_)
    | with_reducible refine po_bind_cond (fun _ => ?_) (fun _ => ?_)
    | with_reducible refine po_bl (fun _ _ => ?_))
theorem kt_d_bestOption_14   : ∀ {n : Nat} {F : Nat → Int32} {A : Nat → Nat → Int32} {J : Nat → Nat → Int64} {x1 : Int32} {x2 : Int32} {x3 : Int32}, KT Fr Ar F A → po (d_bestOption_14  n F A J x1 x2 x3) (fun r => KT Fr Ar r.2.1 r.2.2.1) := by
  intro n
  induction n with
  | zero => intro F A J x1 x2 x3 _ r hr; cases hr
  | succ n ih =>
    intro F A J x1 x2 x3 h
    unfold d_bestOption_14
    repeat' (first
      | with_reducible exact po_some (by assumption)
      | (with_reducible refine kt_pf (by assumption) (by decide) ?_; intro _ _)
      | (with_reducible refine kt_st (by assumption) (by decide) ?_; intro _ _)
      | (with_reducible refine kt_pz (by assumption) (by decide) ?_; intro _ _)
      | with_reducible exact kt_d_gainBy (by assumption)
      | (with_reducible refine po_call (kt_d_gainBy (by assumption)) ?_; rintro ⟨_, _, _, _⟩ _; try dsimp only)
      | with_reducible refine kt_d_bestOption_50 ?_ (by assumption)
      | (with_reducible refine po_call (kt_d_bestOption_50 ?_ (by assumption)) ?_)
      | with_reducible exact ih (by assumption)
      | (with_reducible refine po_call (ih (by assumption)) ?_; rintro ⟨_, _, _, _⟩ _; try dsimp only)
      | (intros; with_reducible exact ih (by assumption))
      | with_reducible refine po_cond (fun _ => ?_) (fun _ => ?_)
      | with_reducible refine po_bind_cond (fun _ => ?_) (fun _ => ?_)
      | with_reducible refine po_bl (fun _ _ => ?_))
theorem kt_d_bestOption {n : Nat} {F : Nat → Int32} {A : Nat → Nat → Int32} {J : Nat → Nat → Int64} {x1 : Int32}  (h : KT Fr Ar F A) : po (d_bestOption n F A J x1) (fun r => KT Fr Ar r.2.1 r.2.2.1) := by
  unfold d_bestOption
  repeat' (first
    | with_reducible exact po_some (by assumption)
    | (with_reducible refine kt_pf (by assumption) (by decide) ?_; intro _ _)
    | (with_reducible refine kt_st (by assumption) (by decide) ?_; intro _ _)
    | (with_reducible refine kt_pz (by assumption) (by decide) ?_; intro _ _)
    | with_reducible exact kt_d_gainBy (by assumption)
    | (with_reducible refine po_call (kt_d_gainBy (by assumption)) ?_; rintro ⟨_, _, _, _⟩ _; try dsimp only)
    | with_reducible exact kt_d_bestOption_14 (by assumption)
    | (with_reducible refine po_call (kt_d_bestOption_14 (by assumption)) ?_; rintro ⟨_, _, _, _⟩ _; try dsimp only)
    | with_reducible refine po_cond (fun _ => ?_) (fun _ => ?_)
    | with_reducible refine po_bind_cond (fun _ => ?_) (fun _ => ?_)
    | with_reducible refine po_bl (fun _ _ => ?_))
theorem kt_d_codeOf {n : Nat} {F : Nat → Int32} {A : Nat → Nat → Int32} {J : Nat → Nat → Int64} {x1 : Int32} {x2 : Int32}  (h : KT Fr Ar F A) : po (d_codeOf n F A J x1 x2) (fun r => KT Fr Ar r.2.1 r.2.2.1) := by
  unfold d_codeOf
  repeat' (first
    | with_reducible exact po_some (by assumption)
    | (with_reducible refine kt_pf (by assumption) (by decide) ?_; intro _ _)
    | (with_reducible refine kt_st (by assumption) (by decide) ?_; intro _ _)
    | (with_reducible refine kt_pz (by assumption) (by decide) ?_; intro _ _)
    | with_reducible exact kt_d_leaves (by assumption)
    | (with_reducible refine po_call (kt_d_leaves (by assumption)) ?_; rintro ⟨_, _, _, _⟩ _; try dsimp only)
    | with_reducible refine po_cond (fun _ => ?_) (fun _ => ?_)
    | with_reducible refine po_bind_cond (fun _ => ?_) (fun _ => ?_)
    | with_reducible refine po_bl (fun _ _ => ?_))
theorem kt_d_best {n : Nat} {F : Nat → Int32} {A : Nat → Nat → Int32} {J : Nat → Nat → Int64} {x1 : Int32} {x2 : Int32}  (h : KT Fr Ar F A) : po (d_best n F A J x1 x2) (fun r => KT Fr Ar r.2.1 r.2.2.1) := by
  unfold d_best
  repeat' (first
    | with_reducible exact po_some (by assumption)
    | (with_reducible refine kt_pf (by assumption) (by decide) ?_; intro _ _)
    | (with_reducible refine kt_st (by assumption) (by decide) ?_; intro _ _)
    | (with_reducible refine kt_pz (by assumption) (by decide) ?_; intro _ _)
    | with_reducible exact kt_d_bestOption (by assumption)
    | (with_reducible refine po_call (kt_d_bestOption (by assumption)) ?_; rintro ⟨_, _, _, _⟩ _; try dsimp only)
    | with_reducible exact kt_d_codeOf (by assumption)
    | (with_reducible refine po_call (kt_d_codeOf (by assumption)) ?_; rintro ⟨_, _, _, _⟩ _; try dsimp only)
    | with_reducible refine po_cond (fun _ => ?_) (fun _ => ?_)
    | with_reducible refine po_bind_cond (fun _ => ?_) (fun _ => ?_)
    | with_reducible refine po_bl (fun _ _ => ?_))
theorem kt_d_bestOfTwo_118 {K44 : (Nat → Int32) → (Nat → Nat → Int32) → (Nat → Nat → Int64) → Int32 → Int32 → Int32 → Int32 → Int32 → Int32 → Int32 → Option (Int32 × (Nat → Int32) × (Nat → Nat → Int32) × (Nat → Nat → Int64))} {K56 : (Nat → Int32) → (Nat → Nat → Int32) → (Nat → Nat → Int64) → Int32 → Int32 → Int32 → Int32 → Int32 → Int32 → Int32 → Int32 → Option (Int32 × (Nat → Int32) × (Nat → Nat → Int32) × (Nat → Nat → Int64))} {n : Nat} {F : Nat → Int32} {A : Nat → Nat → Int32} {J : Nat → Nat → Int64} {x1 : Int32} {x2 : Int32} {x3 : Int32} {x4 : Int32} {x5 : Int32} {x6 : Int32} {x7 : Int32} {x8 : Int32} (hK44 : ∀ (a0 : Nat → Int32) (a1 : Nat → Nat → Int32) (a2 : Nat → Nat → Int64) (a3 : Int32) (a4 : Int32) (a5 : Int32) (a6 : Int32) (a7 : Int32) (a8 : Int32) (a9 : Int32), KT Fr Ar a0 a1 → po (K44 a0 a1 a2 a3 a4 a5 a6 a7 a8 a9) (fun r => KT Fr Ar r.2.1 r.2.2.1)) (hK56 : ∀ (a0 : Nat → Int32) (a1 : Nat → Nat → Int32) (a2 : Nat → Nat → Int64) (a3 : Int32) (a4 : Int32) (a5 : Int32) (a6 : Int32) (a7 : Int32) (a8 : Int32) (a9 : Int32) (a10 : Int32), KT Fr Ar a0 a1 → po (K56 a0 a1 a2 a3 a4 a5 a6 a7 a8 a9 a10) (fun r => KT Fr Ar r.2.1 r.2.2.1)) (h : KT Fr Ar F A) : po (d_bestOfTwo_118 K44 K56 n F A J x1 x2 x3 x4 x5 x6 x7 x8) (fun r => KT Fr Ar r.2.1 r.2.2.1) := by
  unfold d_bestOfTwo_118
  repeat' (first
    | with_reducible exact po_some (by assumption)
    | (with_reducible refine kt_pf (by assumption) (by decide) ?_; intro _ _)
    | (with_reducible refine kt_st (by assumption) (by decide) ?_; intro _ _)
    | (with_reducible refine kt_pz (by assumption) (by decide) ?_; intro _ _)
    | with_reducible exact hK44 _ _ _ _ _ _ _ _ _ _ (by assumption)
    | (intros; with_reducible exact hK44 _ _ _ _ _ _ _ _ _ _ (by assumption))
    | with_reducible exact hK56 _ _ _ _ _ _ _ _ _ _ _ (by assumption)
    | (intros; with_reducible exact hK56 _ _ _ _ _ _ _ _ _ _ _ (by assumption))
    | with_reducible refine po_cond (fun _ => ?_) (fun _ => ?_)
    | with_reducible refine po_bind_cond (fun _ => ?_) (fun _ => ?_)
    | with_reducible refine po_bl (fun _ _ => ?_))
theorem kt_d_bestOfTwo_106 {K44 : (Nat → Int32) → (Nat → Nat → Int32) → (Nat → Nat → Int64) → Int32 → Int32 → Int32 → Int32 → Int32 → Int32 → Int32 → Option (Int32 × (Nat → Int32) × (Nat → Nat → Int32) × (Nat → Nat → Int64))} {K56 : (Nat → Int32) → (Nat → Nat → Int32) → (Nat → Nat → Int64) → Int32 → Int32 → Int32 → Int32 → Int32 → Int32 → Int32 → Int32 → Option (Int32 × (Nat → Int32) × (Nat → Nat → Int32) × (Nat → Nat → Int64))} {n : Nat} {F : Nat → Int32} {A : Nat → Nat → Int32} {J : Nat → Nat → Int64} {x1 : Int32} {x2 : Int32} {x3 : Int32} {x7 : Int32} {x8 : Int32} {x9 : Int32} (hK44 : ∀ (a0 : Nat → Int32) (a1 : Nat → Nat → Int32) (a2 : Nat → Nat → Int64) (a3 : Int32) (a4 : Int32) (a5 : Int32) (a6 : Int32) (a7 : Int32) (a8 : Int32) (a9 : Int32), KT Fr Ar a0 a1 → po (K44 a0 a1 a2 a3 a4 a5 a6 a7 a8 a9) (fun r => KT Fr Ar r.2.1 r.2.2.1)) (hK56 : ∀ (a0 : Nat → Int32) (a1 : Nat → Nat → Int32) (a2 : Nat → Nat → Int64) (a3 : Int32) (a4 : Int32) (a5 : Int32) (a6 : Int32) (a7 : Int32) (a8 : Int32) (a9 : Int32) (a10 : Int32), KT Fr Ar a0 a1 → po (K56 a0 a1 a2 a3 a4 a5 a6 a7 a8 a9 a10) (fun r => KT Fr Ar r.2.1 r.2.2.1)) (h : KT Fr Ar F A) : po (d_bestOfTwo_106 K44 K56 n F A J x1 x2 x3 x7 x8 x9) (fun r => KT Fr Ar r.2.1 r.2.2.1) := by
  unfold d_bestOfTwo_106
  repeat' (first
    | with_reducible exact po_some (by assumption)
    | (with_reducible refine kt_pf (by assumption) (by decide) ?_; intro _ _)
    | (with_reducible refine kt_st (by assumption) (by decide) ?_; intro _ _)
    | (with_reducible refine kt_pz (by assumption) (by decide) ?_; intro _ _)
    | with_reducible refine kt_d_bestOfTwo_118 ?_ ?_ (by assumption)
    | (with_reducible refine po_call (kt_d_bestOfTwo_118 ?_ ?_ (by assumption)) ?_)
    | with_reducible exact hK44 _ _ _ _ _ _ _ _ _ _ (by assumption)
    | (intros; with_reducible exact hK44 _ _ _ _ _ _ _ _ _ _ (by assumption))
    | with_reducible exact hK56 _ _ _ _ _ _ _ _ _ _ _ (by assumption)
    | (intros; with_reducible exact hK56 _ _ _ _ _ _ _ _ _ _ _ (by assumption))
    | with_reducible refine po_cond (fun _ => ?_) (fun _ => ?_)
    | with_reducible refine po_bind_cond (fun _ => ?_) (fun _ => ?_)
    | with_reducible refine po_bl (fun _ _ => ?_))
theorem kt_d_bestOfTwo_56 {K44 : (Nat → Int32) → (Nat → Nat → Int32) → (Nat → Nat → Int64) → Int32 → Int32 → Int32 → Int32 → Int32 → Int32 → Int32 → Option (Int32 × (Nat → Int32) × (Nat → Nat → Int32) × (Nat → Nat → Int64))} (hK44 : ∀ (a0 : Nat → Int32) (a1 : Nat → Nat → Int32) (a2 : Nat → Nat → Int64) (a3 : Int32) (a4 : Int32) (a5 : Int32) (a6 : Int32) (a7 : Int32) (a8 : Int32) (a9 : Int32), KT Fr Ar a0 a1 → po (K44 a0 a1 a2 a3 a4 a5 a6 a7 a8 a9) (fun r => KT Fr Ar r.2.1 r.2.2.1)) : ∀ {n : Nat} {F : Nat → Int32} {A : Nat → Nat → Int32} {J : Nat → Nat → Int64} {x1 : Int32} {x2 : Int32} {x3 : Int32} {x4 : Int32} {x5 : Int32} {x6 : Int32} {x7 : Int32} {x8 : Int32}, KT Fr Ar F A → po (d_bestOfTwo_56 K44 n F A J x1 x2 x3 x4 x5 x6 x7 x8) (fun r => KT Fr Ar r.2.1 r.2.2.1) := by
  intro n
  induction n with
  | zero => intro F A J x1 x2 x3 x4 x5 x6 x7 x8 _ r hr; cases hr
  | succ n ih =>
    intro F A J x1 x2 x3 x4 x5 x6 x7 x8 h
    unfold d_bestOfTwo_56
    repeat' (first
      | with_reducible exact po_some (by assumption)
      | (with_reducible refine kt_pf (by assumption) (by decide) ?_; intro _ _)
      | (with_reducible refine kt_st (by assumption) (by decide) ?_; intro _ _)
      | (with_reducible refine kt_pz (by assumption) (by decide) ?_; intro _ _)
      | with_reducible exact kt_d_takes (by assumption)
      | (with_reducible refine po_call (kt_d_takes (by assumption)) ?_; rintro ⟨_, _, _, _⟩ _; try dsimp only)
      | with_reducible exact kt_d_leaves (by assumption)
      | (with_reducible refine po_call (kt_d_leaves (by assumption)) ?_; rintro ⟨_, _, _, _⟩ _; try dsimp only)
      | with_reducible exact kt_d_wholeNight (by assumption)
      | (with_reducible refine po_call (kt_d_wholeNight (by assumption)) ?_; rintro ⟨_, _, _, _⟩ _; try dsimp only)
      | with_reducible refine kt_d_bestOfTwo_106 ?_ ?_ (by assumption)
      | (with_reducible refine po_call (kt_d_bestOfTwo_106 ?_ ?_ (by assumption)) ?_)
      | with_reducible refine kt_d_bestOfTwo_118 ?_ ?_ (by assumption)
      | (with_reducible refine po_call (kt_d_bestOfTwo_118 ?_ ?_ (by assumption)) ?_)
      | with_reducible exact hK44 _ _ _ _ _ _ _ _ _ _ (by assumption)
      | (intros; with_reducible exact hK44 _ _ _ _ _ _ _ _ _ _ (by assumption))
      | with_reducible exact ih (by assumption)
      | (with_reducible refine po_call (ih (by assumption)) ?_; rintro ⟨_, _, _, _⟩ _; try dsimp only)
      | (intros; with_reducible exact ih (by assumption))
      | with_reducible refine po_cond (fun _ => ?_) (fun _ => ?_)
      | with_reducible refine po_bind_cond (fun _ => ?_) (fun _ => ?_)
      | with_reducible refine po_bl (fun _ _ => ?_))
theorem kt_d_bestOfTwo_44   : ∀ {n : Nat} {F : Nat → Int32} {A : Nat → Nat → Int32} {J : Nat → Nat → Int64} {x1 : Int32} {x2 : Int32} {x3 : Int32} {x4 : Int32} {x5 : Int32} {x6 : Int32} {x7 : Int32}, KT Fr Ar F A → po (d_bestOfTwo_44  n F A J x1 x2 x3 x4 x5 x6 x7) (fun r => KT Fr Ar r.2.1 r.2.2.1) := by
  intro n
  induction n with
  | zero => intro F A J x1 x2 x3 x4 x5 x6 x7 _ r hr; cases hr
  | succ n ih =>
    intro F A J x1 x2 x3 x4 x5 x6 x7 h
    unfold d_bestOfTwo_44
    repeat' (first
      | with_reducible exact po_some (by assumption)
      | (with_reducible refine kt_pf (by assumption) (by decide) ?_; intro _ _)
      | (with_reducible refine kt_st (by assumption) (by decide) ?_; intro _ _)
      | (with_reducible refine kt_pz (by assumption) (by decide) ?_; intro _ _)
      | with_reducible exact kt_d_codeOf (by assumption)
      | (with_reducible refine po_call (kt_d_codeOf (by assumption)) ?_; rintro ⟨_, _, _, _⟩ _; try dsimp only)
      | with_reducible refine kt_d_bestOfTwo_56 ?_ (by assumption)
      | (with_reducible refine po_call (kt_d_bestOfTwo_56 ?_ (by assumption)) ?_)
      | with_reducible exact ih (by assumption)
      | (with_reducible refine po_call (ih (by assumption)) ?_; rintro ⟨_, _, _, _⟩ _; try dsimp only)
      | (intros; with_reducible exact ih (by assumption))
      | with_reducible refine po_cond (fun _ => ?_) (fun _ => ?_)
      | with_reducible refine po_bind_cond (fun _ => ?_) (fun _ => ?_)
      | with_reducible refine po_bl (fun _ _ => ?_))
theorem kt_d_bestOfTwo {n : Nat} {F : Nat → Int32} {A : Nat → Nat → Int32} {J : Nat → Nat → Int64} {x1 : Int32} {x2 : Int32} {x3 : Int32}  (h : KT Fr Ar F A) : po (d_bestOfTwo n F A J x1 x2 x3) (fun r => KT Fr Ar r.2.1 r.2.2.1) := by
  unfold d_bestOfTwo
  repeat' (first
    | with_reducible exact po_some (by assumption)
    | (with_reducible refine kt_pf (by assumption) (by decide) ?_; intro _ _)
    | (with_reducible refine kt_st (by assumption) (by decide) ?_; intro _ _)
    | (with_reducible refine kt_pz (by assumption) (by decide) ?_; intro _ _)
    | with_reducible exact kt_d_bestOfTwo_44 (by assumption)
    | (with_reducible refine po_call (kt_d_bestOfTwo_44 (by assumption)) ?_; rintro ⟨_, _, _, _⟩ _; try dsimp only)
    | with_reducible refine po_cond (fun _ => ?_) (fun _ => ?_)
    | with_reducible refine po_bind_cond (fun _ => ?_) (fun _ => ?_)
    | with_reducible refine po_bl (fun _ _ => ?_))
theorem kt_d_hire {n : Nat} {F : Nat → Int32} {A : Nat → Nat → Int32} {J : Nat → Nat → Int64} {x1 : Int32}  (h : KT Fr Ar F A) : po (d_hire n F A J x1) (fun r => KT Fr Ar r.2.1 r.2.2.1) := by
  unfold d_hire
  repeat' (first
    | with_reducible exact po_some (by assumption)
    | (with_reducible refine kt_pf (by assumption) (by decide) ?_; intro _ _)
    | (with_reducible refine kt_st (by assumption) (by decide) ?_; intro _ _)
    | (with_reducible refine kt_pz (by assumption) (by decide) ?_; intro _ _)
    | with_reducible exact kt_d_bestOption (by assumption)
    | (with_reducible refine po_call (kt_d_bestOption (by assumption)) ?_; rintro ⟨_, _, _, _⟩ _; try dsimp only)
    | with_reducible exact kt_d_gainBy (by assumption)
    | (with_reducible refine po_call (kt_d_gainBy (by assumption)) ?_; rintro ⟨_, _, _, _⟩ _; try dsimp only)
    | with_reducible refine po_cond (fun _ => ?_) (fun _ => ?_)
    | with_reducible refine po_bind_cond (fun _ => ?_) (fun _ => ?_)
    | with_reducible refine po_bl (fun _ _ => ?_))
theorem kt_d_hide_136 {K39 : (Nat → Int32) → (Nat → Nat → Int32) → (Nat → Nat → Int64) → Int32 → Int32 → Int32 → Int32 → Int32 → Option (Int32 × (Nat → Int32) × (Nat → Nat → Int32) × (Nat → Nat → Int64))} {n : Nat} {F : Nat → Int32} {A : Nat → Nat → Int32} {J : Nat → Nat → Int64} {x1 : Int32} {x2 : Int32} {x3 : Int32} {x4 : Int32} {x5 : Int32} (hK39 : ∀ (a0 : Nat → Int32) (a1 : Nat → Nat → Int32) (a2 : Nat → Nat → Int64) (a3 : Int32) (a4 : Int32) (a5 : Int32) (a6 : Int32) (a7 : Int32), KT Fr Ar a0 a1 → po (K39 a0 a1 a2 a3 a4 a5 a6 a7) (fun r => KT Fr Ar r.2.1 r.2.2.1)) (h : KT Fr Ar F A) : po (d_hide_136 K39 n F A J x1 x2 x3 x4 x5) (fun r => KT Fr Ar r.2.1 r.2.2.1) := by
  unfold d_hide_136
  repeat' (first
    | with_reducible exact po_some (by assumption)
    | (with_reducible refine kt_pf (by assumption) (by decide) ?_; intro _ _)
    | (with_reducible refine kt_st (by assumption) (by decide) ?_; intro _ _)
    | (with_reducible refine kt_pz (by assumption) (by decide) ?_; intro _ _)
    | with_reducible exact hK39 _ _ _ _ _ _ _ _ (by assumption)
    | (intros; with_reducible exact hK39 _ _ _ _ _ _ _ _ (by assumption))
    | with_reducible refine po_cond (fun _ => ?_) (fun _ => ?_)
    | with_reducible refine po_bind_cond (fun _ => ?_) (fun _ => ?_)
    | with_reducible refine po_bl (fun _ _ => ?_))
theorem kt_d_hide_129 {K39 : (Nat → Int32) → (Nat → Nat → Int32) → (Nat → Nat → Int64) → Int32 → Int32 → Int32 → Int32 → Int32 → Option (Int32 × (Nat → Int32) × (Nat → Nat → Int32) × (Nat → Nat → Int64))} {n : Nat} {F : Nat → Int32} {A : Nat → Nat → Int32} {J : Nat → Nat → Int64} {x1 : Int32} {x2 : Int32} {x5 : Int32} {x6 : Int32} {x7 : Int32} (hK39 : ∀ (a0 : Nat → Int32) (a1 : Nat → Nat → Int32) (a2 : Nat → Nat → Int64) (a3 : Int32) (a4 : Int32) (a5 : Int32) (a6 : Int32) (a7 : Int32), KT Fr Ar a0 a1 → po (K39 a0 a1 a2 a3 a4 a5 a6 a7) (fun r => KT Fr Ar r.2.1 r.2.2.1)) (h : KT Fr Ar F A) : po (d_hide_129 K39 n F A J x1 x2 x5 x6 x7) (fun r => KT Fr Ar r.2.1 r.2.2.1) := by
  unfold d_hide_129
  repeat' (first
    | with_reducible exact po_some (by assumption)
    | (with_reducible refine kt_pf (by assumption) (by decide) ?_; intro _ _)
    | (with_reducible refine kt_st (by assumption) (by decide) ?_; intro _ _)
    | (with_reducible refine kt_pz (by assumption) (by decide) ?_; intro _ _)
    | with_reducible refine kt_d_hide_136 ?_ (by assumption)
    | (with_reducible refine po_call (kt_d_hide_136 ?_ (by assumption)) ?_)
    | with_reducible exact hK39 _ _ _ _ _ _ _ _ (by assumption)
    | (intros; with_reducible exact hK39 _ _ _ _ _ _ _ _ (by assumption))
    | with_reducible refine po_cond (fun _ => ?_) (fun _ => ?_)
    | with_reducible refine po_bind_cond (fun _ => ?_) (fun _ => ?_)
    | with_reducible refine po_bl (fun _ _ => ?_))
theorem kt_d_hide_92 {K39 : (Nat → Int32) → (Nat → Nat → Int32) → (Nat → Nat → Int64) → Int32 → Int32 → Int32 → Int32 → Int32 → Option (Int32 × (Nat → Int32) × (Nat → Nat → Int32) × (Nat → Nat → Int64))} {n : Nat} {F : Nat → Int32} {A : Nat → Nat → Int32} {J : Nat → Nat → Int64} {x1 : Int32} {x2 : Int32} {x3 : Int32} {x4 : Int32} {x5 : Int32} {s0 : Int32} (hK39 : ∀ (a0 : Nat → Int32) (a1 : Nat → Nat → Int32) (a2 : Nat → Nat → Int64) (a3 : Int32) (a4 : Int32) (a5 : Int32) (a6 : Int32) (a7 : Int32), KT Fr Ar a0 a1 → po (K39 a0 a1 a2 a3 a4 a5 a6 a7) (fun r => KT Fr Ar r.2.1 r.2.2.1)) (h : KT Fr Ar F A) : po (d_hide_92 K39 n F A J x1 x2 x3 x4 x5 s0) (fun r => KT Fr Ar r.2.1 r.2.2.1) := by
  unfold d_hide_92
  repeat' (first
    | with_reducible exact po_some (by assumption)
    | (with_reducible refine kt_pf (by assumption) (by decide) ?_; intro _ _)
    | (with_reducible refine kt_st (by assumption) (by decide) ?_; intro _ _)
    | (with_reducible refine kt_pz (by assumption) (by decide) ?_; intro _ _)
    | with_reducible exact kt_d_takes (by assumption)
    | (with_reducible refine po_call (kt_d_takes (by assumption)) ?_; rintro ⟨_, _, _, _⟩ _; try dsimp only)
    | with_reducible exact kt_d_wholeNight (by assumption)
    | (with_reducible refine po_call (kt_d_wholeNight (by assumption)) ?_; rintro ⟨_, _, _, _⟩ _; try dsimp only)
    | with_reducible refine kt_d_hide_129 ?_ (by assumption)
    | (with_reducible refine po_call (kt_d_hide_129 ?_ (by assumption)) ?_)
    | with_reducible refine kt_d_hide_136 ?_ (by assumption)
    | (with_reducible refine po_call (kt_d_hide_136 ?_ (by assumption)) ?_)
    | with_reducible exact hK39 _ _ _ _ _ _ _ _ (by assumption)
    | (intros; with_reducible exact hK39 _ _ _ _ _ _ _ _ (by assumption))
    | with_reducible refine po_cond (fun _ => ?_) (fun _ => ?_)
    | with_reducible refine po_bind_cond (fun _ => ?_) (fun _ => ?_)
    | with_reducible refine po_bl (fun _ _ => ?_))
theorem kt_d_hide_39   : ∀ {n : Nat} {F : Nat → Int32} {A : Nat → Nat → Int32} {J : Nat → Nat → Int64} {x1 : Int32} {x2 : Int32} {x3 : Int32} {x4 : Int32} {x5 : Int32}, KT Fr Ar F A → po (d_hide_39  n F A J x1 x2 x3 x4 x5) (fun r => KT Fr Ar r.2.1 r.2.2.1) := by
  intro n
  induction n with
  | zero => intro F A J x1 x2 x3 x4 x5 _ r hr; cases hr
  | succ n ih =>
    intro F A J x1 x2 x3 x4 x5 h
    unfold d_hide_39
    repeat' (first
      | with_reducible exact po_some (by assumption)
      | (with_reducible refine kt_pf (by assumption) (by decide) ?_; intro _ _)
      | (with_reducible refine kt_st (by assumption) (by decide) ?_; intro _ _)
      | (with_reducible refine kt_pz (by assumption) (by decide) ?_; intro _ _)
      | with_reducible refine kt_d_hide_92 ?_ (by assumption)
      | (with_reducible refine po_call (kt_d_hide_92 ?_ (by assumption)) ?_)
      | with_reducible exact ih (by assumption)
      | (with_reducible refine po_call (ih (by assumption)) ?_; rintro ⟨_, _, _, _⟩ _; try dsimp only)
      | (intros; with_reducible exact ih (by assumption))
      | with_reducible refine po_cond (fun _ => ?_) (fun _ => ?_)
      | with_reducible refine po_bind_cond (fun _ => ?_) (fun _ => ?_)
      | with_reducible refine po_bl (fun _ _ => ?_))
theorem kt_d_hide {n : Nat} {F : Nat → Int32} {A : Nat → Nat → Int32} {J : Nat → Nat → Int64} {x1 : Int32} {x2 : Int32}  (h : KT Fr Ar F A) : po (d_hide n F A J x1 x2) (fun r => KT Fr Ar r.2.1 r.2.2.1) := by
  unfold d_hide
  repeat' (first
    | with_reducible exact po_some (by assumption)
    | (with_reducible refine kt_pf (by assumption) (by decide) ?_; intro _ _)
    | (with_reducible refine kt_st (by assumption) (by decide) ?_; intro _ _)
    | (with_reducible refine kt_pz (by assumption) (by decide) ?_; intro _ _)
    | with_reducible exact kt_d_hide_39 (by assumption)
    | (with_reducible refine po_call (kt_d_hide_39 (by assumption)) ?_; rintro ⟨_, _, _, _⟩ _; try dsimp only)
    | with_reducible refine po_cond (fun _ => ?_) (fun _ => ?_)
    | with_reducible refine po_bind_cond (fun _ => ?_) (fun _ => ?_)
    | with_reducible refine po_bl (fun _ _ => ?_))
theorem kt_d_bars_90 {K18 : (Nat → Int32) → (Nat → Nat → Int32) → (Nat → Nat → Int64) → Int32 → Int32 → Int32 → Int32 → Option (Int32 × (Nat → Int32) × (Nat → Nat → Int32) × (Nat → Nat → Int64))} {n : Nat} {F : Nat → Int32} {A : Nat → Nat → Int32} {J : Nat → Nat → Int64} {x1 : Int32} {x2 : Int32} {x3 : Int32} {x4 : Int32} (hK18 : ∀ (a0 : Nat → Int32) (a1 : Nat → Nat → Int32) (a2 : Nat → Nat → Int64) (a3 : Int32) (a4 : Int32) (a5 : Int32) (a6 : Int32), KT Fr Ar a0 a1 → po (K18 a0 a1 a2 a3 a4 a5 a6) (fun r => KT Fr Ar r.2.1 r.2.2.1)) (h : KT Fr Ar F A) : po (d_bars_90 K18 n F A J x1 x2 x3 x4) (fun r => KT Fr Ar r.2.1 r.2.2.1) := by
  unfold d_bars_90
  repeat' (first
    | with_reducible exact po_some (by assumption)
    | (with_reducible refine kt_pf (by assumption) (by decide) ?_; intro _ _)
    | (with_reducible refine kt_st (by assumption) (by decide) ?_; intro _ _)
    | (with_reducible refine kt_pz (by assumption) (by decide) ?_; intro _ _)
    | with_reducible exact hK18 _ _ _ _ _ _ _ (by assumption)
    | (intros; with_reducible exact hK18 _ _ _ _ _ _ _ (by assumption))
    | with_reducible refine po_cond (fun _ => ?_) (fun _ => ?_)
    | with_reducible refine po_bind_cond (fun _ => ?_) (fun _ => ?_)
    | with_reducible refine po_bl (fun _ _ => ?_))
theorem kt_d_bars_84 {K18 : (Nat → Int32) → (Nat → Nat → Int32) → (Nat → Nat → Int64) → Int32 → Int32 → Int32 → Int32 → Option (Int32 × (Nat → Int32) × (Nat → Nat → Int32) × (Nat → Nat → Int64))} {n : Nat} {F : Nat → Int32} {A : Nat → Nat → Int32} {J : Nat → Nat → Int64} {x1 : Int32} {x4 : Int32} {x5 : Int32} (hK18 : ∀ (a0 : Nat → Int32) (a1 : Nat → Nat → Int32) (a2 : Nat → Nat → Int64) (a3 : Int32) (a4 : Int32) (a5 : Int32) (a6 : Int32), KT Fr Ar a0 a1 → po (K18 a0 a1 a2 a3 a4 a5 a6) (fun r => KT Fr Ar r.2.1 r.2.2.1)) (h : KT Fr Ar F A) : po (d_bars_84 K18 n F A J x1 x4 x5) (fun r => KT Fr Ar r.2.1 r.2.2.1) := by
  unfold d_bars_84
  repeat' (first
    | with_reducible exact po_some (by assumption)
    | (with_reducible refine kt_pf (by assumption) (by decide) ?_; intro _ _)
    | (with_reducible refine kt_st (by assumption) (by decide) ?_; intro _ _)
    | (with_reducible refine kt_pz (by assumption) (by decide) ?_; intro _ _)
    | with_reducible refine kt_d_bars_90 ?_ (by assumption)
    | (with_reducible refine po_call (kt_d_bars_90 ?_ (by assumption)) ?_)
    | with_reducible exact hK18 _ _ _ _ _ _ _ (by assumption)
    | (intros; with_reducible exact hK18 _ _ _ _ _ _ _ (by assumption))
    | with_reducible refine po_cond (fun _ => ?_) (fun _ => ?_)
    | with_reducible refine po_bind_cond (fun _ => ?_) (fun _ => ?_)
    | with_reducible refine po_bl (fun _ _ => ?_))
theorem kt_d_bars_18   : ∀ {n : Nat} {F : Nat → Int32} {A : Nat → Nat → Int32} {J : Nat → Nat → Int64} {x1 : Int32} {x2 : Int32} {x3 : Int32} {x4 : Int32}, KT Fr Ar F A → po (d_bars_18  n F A J x1 x2 x3 x4) (fun r => KT Fr Ar r.2.1 r.2.2.1) := by
  intro n
  induction n with
  | zero => intro F A J x1 x2 x3 x4 _ r hr; cases hr
  | succ n ih =>
    intro F A J x1 x2 x3 x4 h
    unfold d_bars_18
    repeat' (first
      | with_reducible exact po_some (by assumption)
      | (with_reducible refine kt_pf (by assumption) (by decide) ?_; intro _ _)
      | (with_reducible refine kt_st (by assumption) (by decide) ?_; intro _ _)
      | (with_reducible refine kt_pz (by assumption) (by decide) ?_; intro _ _)
      | with_reducible exact kt_d_takes (by assumption)
      | (with_reducible refine po_call (kt_d_takes (by assumption)) ?_; rintro ⟨_, _, _, _⟩ _; try dsimp only)
      | with_reducible exact kt_d_wholeNight (by assumption)
      | (with_reducible refine po_call (kt_d_wholeNight (by assumption)) ?_; rintro ⟨_, _, _, _⟩ _; try dsimp only)
      | with_reducible refine kt_d_bars_84 ?_ (by assumption)
      | (with_reducible refine po_call (kt_d_bars_84 ?_ (by assumption)) ?_)
      | with_reducible refine kt_d_bars_90 ?_ (by assumption)
      | (with_reducible refine po_call (kt_d_bars_90 ?_ (by assumption)) ?_)
      | with_reducible exact ih (by assumption)
      | (with_reducible refine po_call (ih (by assumption)) ?_; rintro ⟨_, _, _, _⟩ _; try dsimp only)
      | (intros; with_reducible exact ih (by assumption))
      | with_reducible refine po_cond (fun _ => ?_) (fun _ => ?_)
      | with_reducible refine po_bind_cond (fun _ => ?_) (fun _ => ?_)
      | with_reducible refine po_bl (fun _ _ => ?_))
theorem kt_d_bars {n : Nat} {F : Nat → Int32} {A : Nat → Nat → Int32} {J : Nat → Nat → Int64} {x1 : Int32}  (h : KT Fr Ar F A) : po (d_bars n F A J x1) (fun r => KT Fr Ar r.2.1 r.2.2.1) := by
  unfold d_bars
  repeat' (first
    | with_reducible exact po_some (by assumption)
    | (with_reducible refine kt_pf (by assumption) (by decide) ?_; intro _ _)
    | (with_reducible refine kt_st (by assumption) (by decide) ?_; intro _ _)
    | (with_reducible refine kt_pz (by assumption) (by decide) ?_; intro _ _)
    | with_reducible exact kt_d_bars_18 (by assumption)
    | (with_reducible refine po_call (kt_d_bars_18 (by assumption)) ?_; rintro ⟨_, _, _, _⟩ _; try dsimp only)
    | with_reducible refine po_cond (fun _ => ?_) (fun _ => ?_)
    | with_reducible refine po_bind_cond (fun _ => ?_) (fun _ => ?_)
    | with_reducible refine po_bl (fun _ _ => ?_))
theorem kt_d_where {n : Nat} {F : Nat → Int32} {A : Nat → Nat → Int32} {J : Nat → Nat → Int64} {x1 : Int32} {x2 : Int32}  (h : KT Fr Ar F A) : po (d_where n F A J x1 x2) (fun r => KT Fr Ar r.2.1 r.2.2.1) := by
  unfold d_where
  repeat' (first
    | with_reducible exact po_some (by assumption)
    | (with_reducible refine kt_pf (by assumption) (by decide) ?_; intro _ _)
    | (with_reducible refine kt_st (by assumption) (by decide) ?_; intro _ _)
    | (with_reducible refine kt_pz (by assumption) (by decide) ?_; intro _ _)
    | with_reducible exact kt_d_takes (by assumption)
    | (with_reducible refine po_call (kt_d_takes (by assumption)) ?_; rintro ⟨_, _, _, _⟩ _; try dsimp only)
    | with_reducible exact kt_d_fillsWays (by assumption)
    | (with_reducible refine po_call (kt_d_fillsWays (by assumption)) ?_; rintro ⟨_, _, _, _⟩ _; try dsimp only)
    | with_reducible refine po_cond (fun _ => ?_) (fun _ => ?_)
    | with_reducible refine po_bind_cond (fun _ => ?_) (fun _ => ?_)
    | with_reducible refine po_bl (fun _ _ => ?_))
theorem kt_d_strokes {n : Nat} {F : Nat → Int32} {A : Nat → Nat → Int32} {J : Nat → Nat → Int64} {x1 : Int32} {x2 : Int32}  (h : KT Fr Ar F A) : po (d_strokes n F A J x1 x2) (fun r => KT Fr Ar r.2.1 r.2.2.1) := by
  unfold d_strokes
  repeat' (first
    | with_reducible exact po_some (by assumption)
    | (with_reducible refine kt_pf (by assumption) (by decide) ?_; intro _ _)
    | (with_reducible refine kt_st (by assumption) (by decide) ?_; intro _ _)
    | (with_reducible refine kt_pz (by assumption) (by decide) ?_; intro _ _)
    | with_reducible exact kt_d_takes (by assumption)
    | (with_reducible refine po_call (kt_d_takes (by assumption)) ?_; rintro ⟨_, _, _, _⟩ _; try dsimp only)
    | with_reducible exact kt_d_goesTill (by assumption)
    | (with_reducible refine po_call (kt_d_goesTill (by assumption)) ?_; rintro ⟨_, _, _, _⟩ _; try dsimp only)
    | with_reducible refine po_cond (fun _ => ?_) (fun _ => ?_)
    | with_reducible refine po_bind_cond (fun _ => ?_) (fun _ => ?_)
    | with_reducible refine po_bl (fun _ _ => ?_))
theorem kt_d_isSo_7   : ∀ {n : Nat} {F : Nat → Int32} {A : Nat → Nat → Int32} {J : Nat → Nat → Int64} {x1 : Int32} {x2 : Int32}, KT Fr Ar F A → po (d_isSo_7  n F A J x1 x2) (fun r => KT Fr Ar r.2.1 r.2.2.1) := by
  intro n
  induction n with
  | zero => intro F A J x1 x2 _ r hr; cases hr
  | succ n ih =>
    intro F A J x1 x2 h
    unfold d_isSo_7
    repeat' (first
      | with_reducible exact po_some (by assumption)
      | (with_reducible refine kt_pf (by assumption) (by decide) ?_; intro _ _)
      | (with_reducible refine kt_st (by assumption) (by decide) ?_; intro _ _)
      | (with_reducible refine kt_pz (by assumption) (by decide) ?_; intro _ _)
      | with_reducible exact ih (by assumption)
      | (with_reducible refine po_call (ih (by assumption)) ?_; rintro ⟨_, _, _, _⟩ _; try dsimp only)
      | (intros; with_reducible exact ih (by assumption))
      | with_reducible refine po_cond (fun _ => ?_) (fun _ => ?_)
      | with_reducible refine po_bind_cond (fun _ => ?_) (fun _ => ?_)
      | with_reducible refine po_bl (fun _ _ => ?_))
theorem kt_d_isSo {n : Nat} {F : Nat → Int32} {A : Nat → Nat → Int32} {J : Nat → Nat → Int64} {x1 : Int32}  (h : KT Fr Ar F A) : po (d_isSo n F A J x1) (fun r => KT Fr Ar r.2.1 r.2.2.1) := by
  unfold d_isSo
  repeat' (first
    | with_reducible exact po_some (by assumption)
    | (with_reducible refine kt_pf (by assumption) (by decide) ?_; intro _ _)
    | (with_reducible refine kt_st (by assumption) (by decide) ?_; intro _ _)
    | (with_reducible refine kt_pz (by assumption) (by decide) ?_; intro _ _)
    | with_reducible exact kt_d_wholeNight (by assumption)
    | (with_reducible refine po_call (kt_d_wholeNight (by assumption)) ?_; rintro ⟨_, _, _, _⟩ _; try dsimp only)
    | with_reducible exact kt_d_isSo_7 (by assumption)
    | (with_reducible refine po_call (kt_d_isSo_7 (by assumption)) ?_; rintro ⟨_, _, _, _⟩ _; try dsimp only)
    | with_reducible refine po_cond (fun _ => ?_) (fun _ => ?_)
    | with_reducible refine po_bind_cond (fun _ => ?_) (fun _ => ?_)
    | with_reducible refine po_bl (fun _ _ => ?_))
theorem kt_d_fits_82 {K33 : (Nat → Int32) → (Nat → Nat → Int32) → (Nat → Nat → Int64) → Int32 → Int32 → Int32 → Int32 → Int32 → Option (Int32 × (Nat → Int32) × (Nat → Nat → Int32) × (Nat → Nat → Int64))} {n : Nat} {F : Nat → Int32} {A : Nat → Nat → Int32} {J : Nat → Nat → Int64} {x1 : Int32} {x2 : Int32} {x3 : Int32} {x4 : Int32} {x5 : Int32} (hK33 : ∀ (a0 : Nat → Int32) (a1 : Nat → Nat → Int32) (a2 : Nat → Nat → Int64) (a3 : Int32) (a4 : Int32) (a5 : Int32) (a6 : Int32) (a7 : Int32), KT Fr Ar a0 a1 → po (K33 a0 a1 a2 a3 a4 a5 a6 a7) (fun r => KT Fr Ar r.2.1 r.2.2.1)) (h : KT Fr Ar F A) : po (d_fits_82 K33 n F A J x1 x2 x3 x4 x5) (fun r => KT Fr Ar r.2.1 r.2.2.1) := by
  unfold d_fits_82
  repeat' (first
    | with_reducible exact po_some (by assumption)
    | (with_reducible refine kt_pf (by assumption) (by decide) ?_; intro _ _)
    | (with_reducible refine kt_st (by assumption) (by decide) ?_; intro _ _)
    | (with_reducible refine kt_pz (by assumption) (by decide) ?_; intro _ _)
    | with_reducible exact hK33 _ _ _ _ _ _ _ _ (by assumption)
    | (intros; with_reducible exact hK33 _ _ _ _ _ _ _ _ (by assumption))
    | with_reducible refine po_cond (fun _ => ?_) (fun _ => ?_)
    | with_reducible refine po_bind_cond (fun _ => ?_) (fun _ => ?_)
    | with_reducible refine po_bl (fun _ _ => ?_))
theorem kt_d_fits_33   : ∀ {n : Nat} {F : Nat → Int32} {A : Nat → Nat → Int32} {J : Nat → Nat → Int64} {x1 : Int32} {x2 : Int32} {x3 : Int32} {x4 : Int32} {x5 : Int32}, KT Fr Ar F A → po (d_fits_33  n F A J x1 x2 x3 x4 x5) (fun r => KT Fr Ar r.2.1 r.2.2.1) := by
  intro n
  induction n with
  | zero => intro F A J x1 x2 x3 x4 x5 _ r hr; cases hr
  | succ n ih =>
    intro F A J x1 x2 x3 x4 x5 h
    unfold d_fits_33
    repeat' (first
      | with_reducible exact po_some (by assumption)
      | (with_reducible refine kt_pf (by assumption) (by decide) ?_; intro _ _)
      | (with_reducible refine kt_st (by assumption) (by decide) ?_; intro _ _)
      | (with_reducible refine kt_pz (by assumption) (by decide) ?_; intro _ _)
      | with_reducible exact kt_d_takes (by assumption)
      | (with_reducible refine po_call (kt_d_takes (by assumption)) ?_; rintro ⟨_, _, _, _⟩ _; try dsimp only)
      | with_reducible exact kt_d_leaves (by assumption)
      | (with_reducible refine po_call (kt_d_leaves (by assumption)) ?_; rintro ⟨_, _, _, _⟩ _; try dsimp only)
      | with_reducible exact kt_d_isSo (by assumption)
      | (with_reducible refine po_call (kt_d_isSo (by assumption)) ?_; rintro ⟨_, _, _, _⟩ _; try dsimp only)
      | with_reducible refine kt_d_fits_82 ?_ (by assumption)
      | (with_reducible refine po_call (kt_d_fits_82 ?_ (by assumption)) ?_)
      | with_reducible exact kt_d_codeOf (by assumption)
      | (with_reducible refine po_call (kt_d_codeOf (by assumption)) ?_; rintro ⟨_, _, _, _⟩ _; try dsimp only)
      | with_reducible exact ih (by assumption)
      | (with_reducible refine po_call (ih (by assumption)) ?_; rintro ⟨_, _, _, _⟩ _; try dsimp only)
      | (intros; with_reducible exact ih (by assumption))
      | with_reducible refine po_cond (fun _ => ?_) (fun _ => ?_)
      | with_reducible refine po_bind_cond (fun _ => ?_) (fun _ => ?_)
      | with_reducible refine po_bl (fun _ _ => ?_))
theorem kt_d_fits {n : Nat} {F : Nat → Int32} {A : Nat → Nat → Int32} {J : Nat → Nat → Int64} {x1 : Int32} {x2 : Int32} {x3 : Int32}  (h : KT Fr Ar F A) : po (d_fits n F A J x1 x2 x3) (fun r => KT Fr Ar r.2.1 r.2.2.1) := by
  unfold d_fits
  repeat' (first
    | with_reducible exact po_some (by assumption)
    | (with_reducible refine kt_pf (by assumption) (by decide) ?_; intro _ _)
    | (with_reducible refine kt_st (by assumption) (by decide) ?_; intro _ _)
    | (with_reducible refine kt_pz (by assumption) (by decide) ?_; intro _ _)
    | with_reducible exact kt_d_fits_33 (by assumption)
    | (with_reducible refine po_call (kt_d_fits_33 (by assumption)) ?_; rintro ⟨_, _, _, _⟩ _; try dsimp only)
    | with_reducible refine po_cond (fun _ => ?_) (fun _ => ?_)
    | with_reducible refine po_bind_cond (fun _ => ?_) (fun _ => ?_)
    | with_reducible refine po_bl (fun _ _ => ?_))
theorem kt_d_isSuspect_76 {K2 : (Nat → Int32) → (Nat → Nat → Int32) → (Nat → Nat → Int64) → Int32 → Int32 → Int32 → Option (Int32 × (Nat → Int32) × (Nat → Nat → Int32) × (Nat → Nat → Int64))} {n : Nat} {F : Nat → Int32} {A : Nat → Nat → Int32} {J : Nat → Nat → Int64} {x1 : Int32} {x2 : Int32} {x3 : Int32} (hK2 : ∀ (a0 : Nat → Int32) (a1 : Nat → Nat → Int32) (a2 : Nat → Nat → Int64) (a3 : Int32) (a4 : Int32) (a5 : Int32), KT Fr Ar a0 a1 → po (K2 a0 a1 a2 a3 a4 a5) (fun r => KT Fr Ar r.2.1 r.2.2.1)) (h : KT Fr Ar F A) : po (d_isSuspect_76 K2 n F A J x1 x2 x3) (fun r => KT Fr Ar r.2.1 r.2.2.1) := by
  unfold d_isSuspect_76
  repeat' (first
    | with_reducible exact po_some (by assumption)
    | (with_reducible refine kt_pf (by assumption) (by decide) ?_; intro _ _)
    | (with_reducible refine kt_st (by assumption) (by decide) ?_; intro _ _)
    | (with_reducible refine kt_pz (by assumption) (by decide) ?_; intro _ _)
    | with_reducible exact hK2 _ _ _ _ _ _ (by assumption)
    | (intros; with_reducible exact hK2 _ _ _ _ _ _ (by assumption))
    | with_reducible refine po_cond (fun _ => ?_) (fun _ => ?_)
    | with_reducible refine po_bind_cond (fun _ => ?_) (fun _ => ?_)
    | with_reducible refine po_bl (fun _ _ => ?_))
theorem kt_d_isSuspect_66 {K2 : (Nat → Int32) → (Nat → Nat → Int32) → (Nat → Nat → Int64) → Int32 → Int32 → Int32 → Option (Int32 × (Nat → Int32) × (Nat → Nat → Int32) × (Nat → Nat → Int64))} {n : Nat} {F : Nat → Int32} {A : Nat → Nat → Int32} {J : Nat → Nat → Int64} {x1 : Int32} {x2 : Int32} {x3 : Int32} (hK2 : ∀ (a0 : Nat → Int32) (a1 : Nat → Nat → Int32) (a2 : Nat → Nat → Int64) (a3 : Int32) (a4 : Int32) (a5 : Int32), KT Fr Ar a0 a1 → po (K2 a0 a1 a2 a3 a4 a5) (fun r => KT Fr Ar r.2.1 r.2.2.1)) (h : KT Fr Ar F A) : po (d_isSuspect_66 K2 n F A J x1 x2 x3) (fun r => KT Fr Ar r.2.1 r.2.2.1) := by
  unfold d_isSuspect_66
  repeat' (first
    | with_reducible exact po_some (by assumption)
    | (with_reducible refine kt_pf (by assumption) (by decide) ?_; intro _ _)
    | (with_reducible refine kt_st (by assumption) (by decide) ?_; intro _ _)
    | (with_reducible refine kt_pz (by assumption) (by decide) ?_; intro _ _)
    | with_reducible exact kt_d_isSo (by assumption)
    | (with_reducible refine po_call (kt_d_isSo (by assumption)) ?_; rintro ⟨_, _, _, _⟩ _; try dsimp only)
    | with_reducible refine kt_d_isSuspect_76 ?_ (by assumption)
    | (with_reducible refine po_call (kt_d_isSuspect_76 ?_ (by assumption)) ?_)
    | with_reducible exact hK2 _ _ _ _ _ _ (by assumption)
    | (intros; with_reducible exact hK2 _ _ _ _ _ _ (by assumption))
    | with_reducible refine po_cond (fun _ => ?_) (fun _ => ?_)
    | with_reducible refine po_bind_cond (fun _ => ?_) (fun _ => ?_)
    | with_reducible refine po_bl (fun _ _ => ?_))
theorem kt_d_isSuspect_2   : ∀ {n : Nat} {F : Nat → Int32} {A : Nat → Nat → Int32} {J : Nat → Nat → Int64} {x1 : Int32} {x2 : Int32} {x3 : Int32}, KT Fr Ar F A → po (d_isSuspect_2  n F A J x1 x2 x3) (fun r => KT Fr Ar r.2.1 r.2.2.1) := by
  intro n
  induction n with
  | zero => intro F A J x1 x2 x3 _ r hr; cases hr
  | succ n ih =>
    intro F A J x1 x2 x3 h
    unfold d_isSuspect_2
    repeat' (first
      | with_reducible exact po_some (by assumption)
      | (with_reducible refine kt_pf (by assumption) (by decide) ?_; intro _ _)
      | (with_reducible refine kt_st (by assumption) (by decide) ?_; intro _ _)
      | (with_reducible refine kt_pz (by assumption) (by decide) ?_; intro _ _)
      | with_reducible exact kt_d_takes (by assumption)
      | (with_reducible refine po_call (kt_d_takes (by assumption)) ?_; rintro ⟨_, _, _, _⟩ _; try dsimp only)
      | with_reducible exact kt_d_leaves (by assumption)
      | (with_reducible refine po_call (kt_d_leaves (by assumption)) ?_; rintro ⟨_, _, _, _⟩ _; try dsimp only)
      | with_reducible refine kt_d_isSuspect_66 ?_ (by assumption)
      | (with_reducible refine po_call (kt_d_isSuspect_66 ?_ (by assumption)) ?_)
      | with_reducible refine kt_d_isSuspect_76 ?_ (by assumption)
      | (with_reducible refine po_call (kt_d_isSuspect_76 ?_ (by assumption)) ?_)
      | with_reducible exact ih (by assumption)
      | (with_reducible refine po_call (ih (by assumption)) ?_; rintro ⟨_, _, _, _⟩ _; try dsimp only)
      | (intros; with_reducible exact ih (by assumption))
      | with_reducible refine po_cond (fun _ => ?_) (fun _ => ?_)
      | with_reducible refine po_bind_cond (fun _ => ?_) (fun _ => ?_)
      | with_reducible refine po_bl (fun _ _ => ?_))
theorem kt_d_isSuspect {n : Nat} {F : Nat → Int32} {A : Nat → Nat → Int32} {J : Nat → Nat → Int64} {x1 : Int32} {x2 : Int32}  (h : KT Fr Ar F A) : po (d_isSuspect n F A J x1 x2) (fun r => KT Fr Ar r.2.1 r.2.2.1) := by
  unfold d_isSuspect
  repeat' (first
    | with_reducible exact po_some (by assumption)
    | (with_reducible refine kt_pf (by assumption) (by decide) ?_; intro _ _)
    | (with_reducible refine kt_st (by assumption) (by decide) ?_; intro _ _)
    | (with_reducible refine kt_pz (by assumption) (by decide) ?_; intro _ _)
    | with_reducible exact kt_d_isSuspect_2 (by assumption)
    | (with_reducible refine po_call (kt_d_isSuspect_2 (by assumption)) ?_; rintro ⟨_, _, _, _⟩ _; try dsimp only)
    | with_reducible refine po_cond (fun _ => ?_) (fun _ => ?_)
    | with_reducible refine po_bind_cond (fun _ => ?_) (fun _ => ?_)
    | with_reducible refine po_bl (fun _ _ => ?_))
theorem kt_d_suspects_41 {K18 : (Nat → Int32) → (Nat → Nat → Int32) → (Nat → Nat → Int64) → Int32 → Int32 → Int32 → Option (Int32 × (Nat → Int32) × (Nat → Nat → Int32) × (Nat → Nat → Int64))} {n : Nat} {F : Nat → Int32} {A : Nat → Nat → Int32} {J : Nat → Nat → Int64} {x1 : Int32} {x2 : Int32} {x3 : Int32} (hK18 : ∀ (a0 : Nat → Int32) (a1 : Nat → Nat → Int32) (a2 : Nat → Nat → Int64) (a3 : Int32) (a4 : Int32) (a5 : Int32), KT Fr Ar a0 a1 → po (K18 a0 a1 a2 a3 a4 a5) (fun r => KT Fr Ar r.2.1 r.2.2.1)) (h : KT Fr Ar F A) : po (d_suspects_41 K18 n F A J x1 x2 x3) (fun r => KT Fr Ar r.2.1 r.2.2.1) := by
  unfold d_suspects_41
  repeat' (first
    | with_reducible exact po_some (by assumption)
    | (with_reducible refine kt_pf (by assumption) (by decide) ?_; intro _ _)
    | (with_reducible refine kt_st (by assumption) (by decide) ?_; intro _ _)
    | (with_reducible refine kt_pz (by assumption) (by decide) ?_; intro _ _)
    | with_reducible exact hK18 _ _ _ _ _ _ (by assumption)
    | (intros; with_reducible exact hK18 _ _ _ _ _ _ (by assumption))
    | with_reducible refine po_cond (fun _ => ?_) (fun _ => ?_)
    | with_reducible refine po_bind_cond (fun _ => ?_) (fun _ => ?_)
    | with_reducible refine po_bl (fun _ _ => ?_))
theorem kt_d_suspects_18   : ∀ {n : Nat} {F : Nat → Int32} {A : Nat → Nat → Int32} {J : Nat → Nat → Int64} {x1 : Int32} {x2 : Int32} {x3 : Int32}, KT Fr Ar F A → po (d_suspects_18  n F A J x1 x2 x3) (fun r => KT Fr Ar r.2.1 r.2.2.1) := by
  intro n
  induction n with
  | zero => intro F A J x1 x2 x3 _ r hr; cases hr
  | succ n ih =>
    intro F A J x1 x2 x3 h
    unfold d_suspects_18
    repeat' (first
      | with_reducible exact po_some (by assumption)
      | (with_reducible refine kt_pf (by assumption) (by decide) ?_; intro _ _)
      | (with_reducible refine kt_st (by assumption) (by decide) ?_; intro _ _)
      | (with_reducible refine kt_pz (by assumption) (by decide) ?_; intro _ _)
      | with_reducible exact kt_d_isSuspect (by assumption)
      | (with_reducible refine po_call (kt_d_isSuspect (by assumption)) ?_; rintro ⟨_, _, _, _⟩ _; try dsimp only)
      | with_reducible refine kt_d_suspects_41 ?_ (by assumption)
      | (with_reducible refine po_call (kt_d_suspects_41 ?_ (by assumption)) ?_)
      | with_reducible exact ih (by assumption)
      | (with_reducible refine po_call (ih (by assumption)) ?_; rintro ⟨_, _, _, _⟩ _; try dsimp only)
      | (intros; with_reducible exact ih (by assumption))
      | with_reducible refine po_cond (fun _ => ?_) (fun _ => ?_)
      | with_reducible refine po_bind_cond (fun _ => ?_) (fun _ => ?_)
      | with_reducible refine po_bl (fun _ _ => ?_))
theorem kt_d_suspects {n : Nat} {F : Nat → Int32} {A : Nat → Nat → Int32} {J : Nat → Nat → Int64} {x1 : Int32}  (h : KT Fr Ar F A) : po (d_suspects n F A J x1) (fun r => KT Fr Ar r.2.1 r.2.2.1) := by
  unfold d_suspects
  repeat' (first
    | with_reducible exact po_some (by assumption)
    | (with_reducible refine kt_pf (by assumption) (by decide) ?_; intro _ _)
    | (with_reducible refine kt_st (by assumption) (by decide) ?_; intro _ _)
    | (with_reducible refine kt_pz (by assumption) (by decide) ?_; intro _ _)
    | with_reducible exact kt_d_suspects_18 (by assumption)
    | (with_reducible refine po_call (kt_d_suspects_18 (by assumption)) ?_; rintro ⟨_, _, _, _⟩ _; try dsimp only)
    | with_reducible refine po_cond (fun _ => ?_) (fun _ => ?_)
    | with_reducible refine po_bind_cond (fun _ => ?_) (fun _ => ?_)
    | with_reducible refine po_bl (fun _ _ => ?_))
theorem kt_d_pairs_93 {K41 : (Nat → Int32) → (Nat → Nat → Int32) → (Nat → Nat → Int64) → Int32 → Int32 → Int32 → Int32 → Int32 → Option (Int32 × (Nat → Int32) × (Nat → Nat → Int32) × (Nat → Nat → Int64))} {K53 : (Nat → Int32) → (Nat → Nat → Int32) → (Nat → Nat → Int64) → Int32 → Int32 → Int32 → Int32 → Int32 → Int32 → Option (Int32 × (Nat → Int32) × (Nat → Nat → Int32) × (Nat → Nat → Int64))} {n : Nat} {F : Nat → Int32} {A : Nat → Nat → Int32} {J : Nat → Nat → Int64} {x1 : Int32} {x2 : Int32} {x3 : Int32} {x4 : Int32} {x5 : Int32} {x6 : Int32} (hK41 : ∀ (a0 : Nat → Int32) (a1 : Nat → Nat → Int32) (a2 : Nat → Nat → Int64) (a3 : Int32) (a4 : Int32) (a5 : Int32) (a6 : Int32) (a7 : Int32), KT Fr Ar a0 a1 → po (K41 a0 a1 a2 a3 a4 a5 a6 a7) (fun r => KT Fr Ar r.2.1 r.2.2.1)) (hK53 : ∀ (a0 : Nat → Int32) (a1 : Nat → Nat → Int32) (a2 : Nat → Nat → Int64) (a3 : Int32) (a4 : Int32) (a5 : Int32) (a6 : Int32) (a7 : Int32) (a8 : Int32), KT Fr Ar a0 a1 → po (K53 a0 a1 a2 a3 a4 a5 a6 a7 a8) (fun r => KT Fr Ar r.2.1 r.2.2.1)) (h : KT Fr Ar F A) : po (d_pairs_93 K41 K53 n F A J x1 x2 x3 x4 x5 x6) (fun r => KT Fr Ar r.2.1 r.2.2.1) := by
  unfold d_pairs_93
  repeat' (first
    | with_reducible exact po_some (by assumption)
    | (with_reducible refine kt_pf (by assumption) (by decide) ?_; intro _ _)
    | (with_reducible refine kt_st (by assumption) (by decide) ?_; intro _ _)
    | (with_reducible refine kt_pz (by assumption) (by decide) ?_; intro _ _)
    | with_reducible exact hK41 _ _ _ _ _ _ _ _ (by assumption)
    | (intros; with_reducible exact hK41 _ _ _ _ _ _ _ _ (by assumption))
    | with_reducible exact hK53 _ _ _ _ _ _ _ _ _ (by assumption)
    | (intros; with_reducible exact hK53 _ _ _ _ _ _ _ _ _ (by assumption))
    | with_reducible refine po_cond (fun _ => ?_) (fun _ => ?_)
    | with_reducible refine po_bind_cond (fun _ => ?_) (fun _ => ?_)
    | with_reducible refine po_bl (fun _ _ => ?_))
theorem kt_d_pairs_53 {K41 : (Nat → Int32) → (Nat → Nat → Int32) → (Nat → Nat → Int64) → Int32 → Int32 → Int32 → Int32 → Int32 → Option (Int32 × (Nat → Int32) × (Nat → Nat → Int32) × (Nat → Nat → Int64))} (hK41 : ∀ (a0 : Nat → Int32) (a1 : Nat → Nat → Int32) (a2 : Nat → Nat → Int64) (a3 : Int32) (a4 : Int32) (a5 : Int32) (a6 : Int32) (a7 : Int32), KT Fr Ar a0 a1 → po (K41 a0 a1 a2 a3 a4 a5 a6 a7) (fun r => KT Fr Ar r.2.1 r.2.2.1)) : ∀ {n : Nat} {F : Nat → Int32} {A : Nat → Nat → Int32} {J : Nat → Nat → Int64} {x1 : Int32} {x2 : Int32} {x3 : Int32} {x4 : Int32} {x5 : Int32} {x6 : Int32}, KT Fr Ar F A → po (d_pairs_53 K41 n F A J x1 x2 x3 x4 x5 x6) (fun r => KT Fr Ar r.2.1 r.2.2.1) := by
  intro n
  induction n with
  | zero => intro F A J x1 x2 x3 x4 x5 x6 _ r hr; cases hr
  | succ n ih =>
    intro F A J x1 x2 x3 x4 x5 x6 h
    unfold d_pairs_53
    repeat' (first
      | with_reducible exact po_some (by assumption)
      | (with_reducible refine kt_pf (by assumption) (by decide) ?_; intro _ _)
      | (with_reducible refine kt_st (by assumption) (by decide) ?_; intro _ _)
      | (with_reducible refine kt_pz (by assumption) (by decide) ?_; intro _ _)
      | with_reducible exact kt_d_takes (by assumption)
      | (with_reducible refine po_call (kt_d_takes (by assumption)) ?_; rintro ⟨_, _, _, _⟩ _; try dsimp only)
      | with_reducible exact kt_d_leaves (by assumption)
      | (with_reducible refine po_call (kt_d_leaves (by assumption)) ?_; rintro ⟨_, _, _, _⟩ _; try dsimp only)
      | with_reducible exact kt_d_isSo (by assumption)
      | (with_reducible refine po_call (kt_d_isSo (by assumption)) ?_; rintro ⟨_, _, _, _⟩ _; try dsimp only)
      | with_reducible refine kt_d_pairs_93 ?_ ?_ (by assumption)
      | (with_reducible refine po_call (kt_d_pairs_93 ?_ ?_ (by assumption)) ?_)
      | with_reducible exact hK41 _ _ _ _ _ _ _ _ (by assumption)
      | (intros; with_reducible exact hK41 _ _ _ _ _ _ _ _ (by assumption))
      | with_reducible exact ih (by assumption)
      | (with_reducible refine po_call (ih (by assumption)) ?_; rintro ⟨_, _, _, _⟩ _; try dsimp only)
      | (intros; with_reducible exact ih (by assumption))
      | with_reducible refine po_cond (fun _ => ?_) (fun _ => ?_)
      | with_reducible refine po_bind_cond (fun _ => ?_) (fun _ => ?_)
      | with_reducible refine po_bl (fun _ _ => ?_))
theorem kt_d_pairs_41   : ∀ {n : Nat} {F : Nat → Int32} {A : Nat → Nat → Int32} {J : Nat → Nat → Int64} {x1 : Int32} {x2 : Int32} {x3 : Int32} {x4 : Int32} {x5 : Int32}, KT Fr Ar F A → po (d_pairs_41  n F A J x1 x2 x3 x4 x5) (fun r => KT Fr Ar r.2.1 r.2.2.1) := by
  intro n
  induction n with
  | zero => intro F A J x1 x2 x3 x4 x5 _ r hr; cases hr
  | succ n ih =>
    intro F A J x1 x2 x3 x4 x5 h
    unfold d_pairs_41
    repeat' (first
      | with_reducible exact po_some (by assumption)
      | (with_reducible refine kt_pf (by assumption) (by decide) ?_; intro _ _)
      | (with_reducible refine kt_st (by assumption) (by decide) ?_; intro _ _)
      | (with_reducible refine kt_pz (by assumption) (by decide) ?_; intro _ _)
      | with_reducible refine kt_d_pairs_53 ?_ (by assumption)
      | (with_reducible refine po_call (kt_d_pairs_53 ?_ (by assumption)) ?_)
      | with_reducible exact ih (by assumption)
      | (with_reducible refine po_call (ih (by assumption)) ?_; rintro ⟨_, _, _, _⟩ _; try dsimp only)
      | (intros; with_reducible exact ih (by assumption))
      | with_reducible refine po_cond (fun _ => ?_) (fun _ => ?_)
      | with_reducible refine po_bind_cond (fun _ => ?_) (fun _ => ?_)
      | with_reducible refine po_bl (fun _ _ => ?_))
theorem kt_d_pairs {n : Nat} {F : Nat → Int32} {A : Nat → Nat → Int32} {J : Nat → Nat → Int64} {x1 : Int32} {x2 : Int32} {x3 : Int32}  (h : KT Fr Ar F A) : po (d_pairs n F A J x1 x2 x3) (fun r => KT Fr Ar r.2.1 r.2.2.1) := by
  unfold d_pairs
  repeat' (first
    | with_reducible exact po_some (by assumption)
    | (with_reducible refine kt_pf (by assumption) (by decide) ?_; intro _ _)
    | (with_reducible refine kt_st (by assumption) (by decide) ?_; intro _ _)
    | (with_reducible refine kt_pz (by assumption) (by decide) ?_; intro _ _)
    | with_reducible exact kt_d_pairs_41 (by assumption)
    | (with_reducible refine po_call (kt_d_pairs_41 (by assumption)) ?_; rintro ⟨_, _, _, _⟩ _; try dsimp only)
    | with_reducible refine po_cond (fun _ => ?_) (fun _ => ?_)
    | with_reducible refine po_bind_cond (fun _ => ?_) (fun _ => ?_)
    | with_reducible refine po_bl (fun _ _ => ?_))
theorem kt_d_way {n : Nat} {F : Nat → Int32} {A : Nat → Nat → Int32} {J : Nat → Nat → Int64} {x1 : Int32} {x2 : Int32}  (h : KT Fr Ar F A) : po (d_way n F A J x1 x2) (fun r => KT Fr Ar r.2.1 r.2.2.1) := by
  unfold d_way
  repeat' (first
    | with_reducible exact po_some (by assumption)
    | (with_reducible refine kt_pf (by assumption) (by decide) ?_; intro _ _)
    | (with_reducible refine kt_st (by assumption) (by decide) ?_; intro _ _)
    | (with_reducible refine kt_pz (by assumption) (by decide) ?_; intro _ _)
    | with_reducible exact kt_d_takes (by assumption)
    | (with_reducible refine po_call (kt_d_takes (by assumption)) ?_; rintro ⟨_, _, _, _⟩ _; try dsimp only)
    | with_reducible exact kt_d_fillsWays (by assumption)
    | (with_reducible refine po_call (kt_d_fillsWays (by assumption)) ?_; rintro ⟨_, _, _, _⟩ _; try dsimp only)
    | with_reducible refine po_cond (fun _ => ?_) (fun _ => ?_)
    | with_reducible refine po_bind_cond (fun _ => ?_) (fun _ => ?_)
    | with_reducible refine po_bl (fun _ _ => ?_))
end H9f6
end Qz152
