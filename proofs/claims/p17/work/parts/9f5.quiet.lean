/-! tries of the class leave what is kept (printed by wip/quiet/quiet.py) -/
section H9f5
variable {P P' : Nat → Nat → Nat} {F F' : Nat → Nat → Int32} {A A' : Nat → Nat → Nat → Int32} {J : Nat → Nat → Nat → Int64}
theorem f_q_gainOfTrial {n : Nat} (G : Gc P F A) (L : LVc A (P 0 8) 33) (hn : 1400 ≤ n) : ok (e_Evening_gainOfTrial n P F A J) (fun r => QFc P r.2.1 F r.2.2.1 A r.2.2.2.1) := by
  have hm := G.2.2.2.1.2.2.2.2.2
  unfold e_Evening_gainOfTrial
  refine ok_chk G.k324 ?_
  refine ok_chk G.k324 ?_
  refine ok_call (fq_goTill G L (by rw [G.2.2.1]; exact hm.2) hn) ?_
  rintro ⟨u, P2, F2, A2, J2⟩ ⟨q, -⟩
  dsimp only at q ⊢
  have G2 := q.g G
  refine ok_chk G2.k324 ?_
  refine ok_call (s_worthOfAll G2.k324 G2.1 (by omega)) ?_
  intro v _
  exact ok_some q
theorem f_q_offer {x1 x2 x3 : Int32} (G : Gc P F A) : ok (e_Evening_offer P F A J x1 x2 x3) (fun r => QFc P r.2.1 F r.2.2.1 A r.2.2.2.1) := by
  unfold e_Evening_offer
  refine ok_cond (fun _ => ok_some (QFc.rfl' G.1)) (fun _ => ?_)
  refine ok_cpf ?_
  intro F2 U2
  refine ok_cpf ?_
  intro F3 U3
  refine ok_cpf ?_
  intro F4 U4
  exact ok_some ((((QFc.rfl' G.1).pf U2 trivial (by decide)).pf U3 trivial (by decide)).pf U4 trivial (by decide))
theorem f_q_isAnswered {n : Nat} {x1 x2 x3 : Int32} (G : Gc P F A) (hn : 60 ≤ n) : ok (e_Evening_isAnswered n P F A J x1 x2 x3) (fun r => QFc P r.2.1 F r.2.2.1 A r.2.2.2.1) := by
  have f26 : ok (e_Evening_isAnswered_26 n P F A J x1 x2 x3) (fun r => QFc P r.2.1 F r.2.2.1 A r.2.2.2.1) := by
    unfold e_Evening_isAnswered_26
    refine ok_cpf ?_
    intro F2 U2
    refine ok_cpf ?_
    intro F3 U3
    refine ok_cpf ?_
    intro F4 U4
    have q4 : QFc P P F F4 A A := (((QFc.rfl' G.1).pf U2 trivial (by decide)).pf U3 trivial (by decide)).pf U4 trivial (by decide)
    refine ok_chk G.k324 ?_
    refine ok_call (s_worthOfAll G.k324 q4.1.2.1 hn) ?_
    intro v _
    refine ok_cpf ?_
    intro F5 U5
    refine ok_cpf ?_
    intro F6 U6
    exact ok_some ((q4.pf U5 trivial (by decide)).pf U6 trivial (by decide))
  unfold e_Evening_isAnswered
  exact ok_cond (fun _ => f26) (fun _ => ok_cond (fun _ => f26) (fun _ => ok_cond (fun _ => f26) (fun _ => ok_some (QFc.rfl' G.1))))
theorem f_s_forOne_13 {x1 : Int32} (h1 : 0 ≤ x1.toInt ∧ x1.toInt ≤ 5) : ∀ {n : Nat} {P : Nat → Nat → Nat} {F : Nat → Nat → Int32} {A : Nat → Nat → Nat → Int32} {J : Nat → Nat → Nat → Int64} {x2 : Int32}, Gc P F A → -1 ≤ x2.toInt ∧ x2.toInt ≤ 36 → 1500 - x2.toInt < (n : Int) → ok (e_Evening_seekForOne_13 n P F A J x1 x2) (fun r => QFc P r.2.1 F r.2.2.1 A r.2.2.2.1) := by
  intro n
  induction n with
  | zero => intro P F A J x2 G hx hn; exact absurd hn (by omega)
  | succ n ih =>
    intro P F A J x2 G hx hn
    have l1 : (1 : Int32).toInt = 1 := by decide
    have l36 : (36 : Int32).toInt = 36 := by decide
    have e2 : (x2 + 1).toInt = x2.toInt + 1 := by rw [i_add (by omega) (by omega), l1]
    unfold e_Evening_seekForOne_13
    refine ok_cond (fun _ => ok_some (QFc.rfl' G.1)) (fun c => ?_)
    rw [i_nge] at c
    refine ok_chk G.k324 ?_
    refine ok_call (s_mayBeLeft G.k324 G.1 ⟨by omega, by omega⟩) ?_
    intro v vp
    refine ok_cond (fun _ => ?_) (fun c2 => ?_)
    · unfold e_Evening_seekForOne_73
      exact ih G (by omega) (by omega)
    · rw [i_neq] at c2
      have lx : LVx A (P 0 8) x2.toInt := by
        rw [← G.2.2.1]
        rcases vp with z | z
        · exact absurd z (by rw [show (0 : Int32).toInt = 0 by decide] at c2; exact c2)
        · exact z.2
      refine ok_call (fq_trial G) ?_
      rintro ⟨u, P2, F2, A2, J2⟩ ⟨g1, q2, L2, -⟩
      dsimp only at g1 q2 L2 ⊢
      subst g1
      have G2 := q2.g G
      refine ok_cst (by omega) (by omega) ?_
      intro A3 U3
      have q3 := q2.st U3 trivial tg33
      have G3 := q3.g G
      have L3 : LVc A3 (P2 0 8) 33 := L2.put U3 G2.n33 (lx.cg ((q2.1.2.2.1 _ G.live).2 5 (by decide)))
      refine ok_call (f_q_gainOfTrial G3 L3 (by omega)) ?_
      rintro ⟨v4, P4, F4, A4, J4⟩ q4
      dsimp only at q4 ⊢
      have G4 := q4.g G3
      refine ok_call (f_q_offer G4) ?_
      rintro ⟨u5, P5, F5, A5, J5⟩ q5
      dsimp only at q5 ⊢
      have G5 := q5.g G4
      have qa := (q3.tr q4).tr q5
      refine ok_cond (fun _ => ?_) (fun _ => ?_)
      · unfold e_Evening_seekForOne_73
        exact ok_mono (ih G5 (by omega) (by omega)) (fun r hr => qa.tr hr)
      · refine ok_cpf ?_
        intro F6 U6
        have q6 := (QFc.rfl' (P := P5) G5.1).pf U6 trivial (by decide)
        exact ok_mono (ih (q6.g G5) (by omega) (by omega)) (fun r hr => (qa.tr q6).tr hr)
theorem f_s_forOne {n : Nat} {P : Nat → Nat → Nat} {F : Nat → Nat → Int32} {A : Nat → Nat → Nat → Int32} {x1 : Int32} (G : Gc P F A) (h1 : 0 ≤ x1.toInt ∧ x1.toInt ≤ 5) (hn : 1600 ≤ n) : ok (e_Evening_seekForOne n P F A J x1) (fun r => QFc P r.2.1 F r.2.2.1 A r.2.2.2.1) := by
  have lm : (-1 : Int32).toInt = -1 := by decide
  unfold e_Evening_seekForOne
  refine ok_call (f_q_isAnswered G (by omega)) ?_
  rintro ⟨v, P2, F2, A2, J2⟩ q2
  dsimp only at q2 ⊢
  refine ok_cond (fun _ => ?_) (fun _ => ok_some q2)
  exact ok_mono (f_s_forOne_13 h1 (q2.g G) (by decide) (by omega)) (fun r hr => q2.tr hr)
theorem f_s_forTwo_22 {Q : Unit × (Nat → Nat → Nat) × (Nat → Nat → Int32) × (Nat → Nat → Nat → Int32) × (Nat → Nat → Nat → Int64) → Prop} {K13 : (Nat → Nat → Nat) → (Nat → Nat → Int32) → (Nat → Nat → Nat → Int32) → (Nat → Nat → Nat → Int64) → Int32 → Int32 → Int32 → Option (Unit × (Nat → Nat → Nat) × (Nat → Nat → Int32) × (Nat → Nat → Nat → Int32) × (Nat → Nat → Nat → Int64))} {P0 : Nat → Nat → Nat} {F0 : Nat → Nat → Int32} {A0 : Nat → Nat → Nat → Int32} {x1 x2 x3 : Int32} (h1 : 0 ≤ x1.toInt ∧ x1.toInt ≤ 5) (h2 : 0 ≤ x2.toInt ∧ x2.toInt ≤ 5) (h3 : -1 ≤ x3.toInt ∧ x3.toInt ≤ 35) (G0 : Gc P0 F0 A0) (hK : ∀ P F A J, QFc P0 P F0 F A0 A → ok (K13 P F A J x1 x2 (x3 + 1)) Q) : ∀ {n : Nat} {P : Nat → Nat → Nat} {F : Nat → Nat → Int32} {A : Nat → Nat → Nat → Int32} {J : Nat → Nat → Nat → Int64} {x4 : Int32}, QFc P0 P F0 F A0 A → -1 ≤ x4.toInt ∧ x4.toInt ≤ 36 → 1500 - x4.toInt < (n : Int) → ok (e_Evening_seekForTwo_22 K13 n P F A J x1 x2 x3 x4) Q := by
  intro n
  induction n with
  | zero => intro P F A J x4 q hx hn; exact absurd hn (by omega)
  | succ n ih =>
    intro P F A J x4 q hx hn
    have G := q.g G0
    have l0 : (0 : Int32).toInt = 0 := by decide
    have l1 : (1 : Int32).toInt = 1 := by decide
    have l36 : (36 : Int32).toInt = 36 := by decide
    have e4 : (x4 + 1).toInt = x4.toInt + 1 := by rw [i_add (by omega) (by omega), l1]
    have f101 : ok (e_Evening_seekForTwo_101 K13 n P F A J x1 x2 x3) Q := by
      unfold e_Evening_seekForTwo_101
      exact hK P F A J q
    unfold e_Evening_seekForTwo_22
    refine ok_cond (fun _ => f101) (fun c => ?_)
    rw [i_nge] at c
    refine ok_chk G.k324 ?_
    refine ok_call (s_mayBeLeft G.k324 G.1 ⟨by omega, by omega⟩) ?_
    intro v vp
    refine ok_cond (fun _ => f101) (fun c2 => ?_)
    rw [i_neq, l0] at c2
    have la : LVx A (P 0 8) x3.toInt := by rw [← G.2.2.1]; exact (vp.resolve_left c2).2
    refine ok_chk G.k324 ?_
    refine ok_call (s_mayBeLeft G.k324 G.1 ⟨by omega, by omega⟩) ?_
    intro w wp
    refine ok_cond (fun _ => ?_) (fun c3 => ?_)
    · unfold e_Evening_seekForTwo_95
      exact ih q (by omega) (by omega)
    · rw [i_neq, l0] at c3
      have lb : LVx A (P 0 8) x4.toInt := by rw [← G.2.2.1]; exact (wp.resolve_left c3).2
      refine ok_call (fq_trial G) ?_
      rintro ⟨u, P2, F2, A2, J2⟩ ⟨g1, q2, L2, -⟩
      dsimp only at g1 q2 L2 ⊢
      subst g1
      have G2 := q2.g G
      have k5 := (q2.1.2.2.1 _ G.live).2 5 (by decide)
      refine ok_cst (by omega) (by omega) ?_
      intro A3 U3
      refine ok_cst (by omega) (by omega) ?_
      intro A4 U4
      have q4 := (q2.st U3 trivial tg33).st U4 trivial tg33
      have G4 := q4.g G
      have L3 : LVc A3 (P2 0 8) 33 := L2.put U3 G2.n33 (la.cg k5)
      have L4 : LVc A4 (P2 0 8) 33 := L3.put U4 G2.n33 ((lb.cg k5).cg (U3.2.2 _ 5 (fun e => G2.n33 e.1)))
      refine ok_call (f_q_gainOfTrial G4 L4 (by omega)) ?_
      rintro ⟨v5, P5, F5, A5, J5⟩ q5
      dsimp only at q5 ⊢
      refine ok_call (f_q_offer (q5.g G4)) ?_
      rintro ⟨u6, P6, F6, A6, J6⟩ q6
      dsimp only at q6 ⊢
      exact ih (q.tr ((q4.tr q5).tr q6)) (by omega) (by omega)
theorem f_s_forTwo_13 {x1 x2 : Int32} (h1 : 0 ≤ x1.toInt ∧ x1.toInt ≤ 5) (h2 : 0 ≤ x2.toInt ∧ x2.toInt ≤ 5) {P0 : Nat → Nat → Nat} {F0 : Nat → Nat → Int32} {A0 : Nat → Nat → Nat → Int32} (G0 : Gc P0 F0 A0) : ∀ {n : Nat} {P : Nat → Nat → Nat} {F : Nat → Nat → Int32} {A : Nat → Nat → Nat → Int32} {J : Nat → Nat → Nat → Int64} {x3 : Int32}, QFc P0 P F0 F A0 A → -1 ≤ x3.toInt ∧ x3.toInt ≤ 36 → 1600 - x3.toInt < (n : Int) → ok (e_Evening_seekForTwo_13 n P F A J x1 x2 x3) (fun r => QFc P0 r.2.1 F0 r.2.2.1 A0 r.2.2.2.1) := by
  intro n
  induction n with
  | zero => intro P F A J x3 q hx hn; exact absurd hn (by omega)
  | succ n ih =>
    intro P F A J x3 q hx hn
    have l1 : (1 : Int32).toInt = 1 := by decide
    have lm : (-1 : Int32).toInt = -1 := by decide
    have l36 : (36 : Int32).toInt = 36 := by decide
    have e3 : (x3 + 1).toInt = x3.toInt + 1 := by rw [i_add (by omega) (by omega), l1]
    unfold e_Evening_seekForTwo_13
    refine ok_cond (fun _ => ok_some q) (fun c => ?_)
    rw [i_nge] at c
    exact f_s_forTwo_22 h1 h2 ⟨by omega, by omega⟩ G0 (fun P F A J q => ih q (by omega) (by omega)) q (by decide) (by omega)
theorem f_s_forTwo {n : Nat} {P : Nat → Nat → Nat} {F : Nat → Nat → Int32} {A : Nat → Nat → Nat → Int32} {x1 x2 : Int32} (G : Gc P F A) (h1 : 0 ≤ x1.toInt ∧ x1.toInt ≤ 5) (h2 : 0 ≤ x2.toInt ∧ x2.toInt ≤ 5) (hn : 1700 ≤ n) : ok (e_Evening_seekForTwo n P F A J x1 x2) (fun r => QFc P r.2.1 F r.2.2.1 A r.2.2.2.1) := by
  have lm : (-1 : Int32).toInt = -1 := by decide
  unfold e_Evening_seekForTwo
  refine ok_call (f_q_isAnswered G (by omega)) ?_
  rintro ⟨v, P2, F2, A2, J2⟩ q2
  dsimp only at q2 ⊢
  refine ok_cond (fun _ => ?_) (fun _ => ok_some q2)
  exact f_s_forTwo_13 h1 h2 G q2 (by decide) (by omega)
theorem f_s_hide_13 {x1 : Int32} (h1 : 0 ≤ x1.toInt ∧ x1.toInt ≤ 5) : ∀ {n : Nat} {P : Nat → Nat → Nat} {F : Nat → Nat → Int32} {A : Nat → Nat → Nat → Int32} {J : Nat → Nat → Nat → Int64} {x2 : Int32}, Gc P F A → 0 ≤ x2.toInt ∧ x2.toInt ≤ 14 → 1500 - x2.toInt < (n : Int) → ok (e_Evening_seekHidingPlace_13 n P F A J x1 x2) (fun r => QFc P r.2.1 F r.2.2.1 A r.2.2.2.1) := by
  intro n
  induction n with
  | zero => intro P F A J x2 G hx hn; exact absurd hn (by omega)
  | succ n ih =>
    intro P F A J x2 G hx hn
    have l1 : (1 : Int32).toInt = 1 := by decide
    have e2 : (x2 + 1).toInt = x2.toInt + 1 := by rw [i_add (by omega) (by omega), l1]
    have a1 : 0 ≤ (F (P 32 4) 13).toInt ∧ (F (P 32 4) 13).toInt ≤ 8 := by have := G.1.1 (P 32 4) 13; rw [G.k324] at this; exact this
    have a2 : 0 ≤ (F (P 32 4) 17).toInt ∧ (F (P 32 4) 17).toInt ≤ 6 := by have := G.1.1 (P 32 4) 17; rw [G.k324] at this; exact this
    have a3 := i_add (x := F (P 32 4) 13) (y := F (P 32 4) 17) (by omega) (by omega)
    have f59 : x2.toInt < 14 → ∀ s0 : Int32, ok (e_Evening_seekHidingPlace_59 (e_Evening_seekHidingPlace_13 n) n P F A J x1 x2 s0) (fun r => QFc P r.2.1 F r.2.2.1 A r.2.2.2.1) := by
      intro hlt s0
      unfold e_Evening_seekHidingPlace_59
      refine ok_call (fq_trial G) ?_
      rintro ⟨u, P2, F2, A2, J2⟩ ⟨g1, q2, L2, -⟩
      dsimp only at g1 q2 L2 ⊢
      subst g1
      have G2 := q2.g G
      refine ok_cst (by omega) (by omega) ?_
      intro A3 U3
      have q3 := q2.st U3 trivial tg33'
      have G3 := q3.g G
      have L3 : LVc A3 (P2 0 8) 33 := L2.cg (U3.2.2 _ 5 (fun e => G2.n33 e.1)) (U3.2.2 33 3 (by simp))
      refine ok_call (f_q_gainOfTrial G3 L3 (by omega)) ?_
      rintro ⟨v4, P4, F4, A4, J4⟩ q4
      dsimp only at q4 ⊢
      refine ok_call (f_q_offer (q4.g G3)) ?_
      rintro ⟨u5, P5, F5, A5, J5⟩ q5
      dsimp only at q5 ⊢
      exact ok_mono (ih (q5.g (q4.g G3)) (by omega) (by omega)) (fun r hr => ((q3.tr q4).tr q5).tr hr)
    unfold e_Evening_seekHidingPlace_13
    refine ok_chk G.k324 ?_
    refine ok_chk G.k324 ?_
    refine ok_cond (fun _ => ok_some (QFc.rfl' G.1)) (fun c => ?_)
    rw [i_nge] at c
    refine ok_chk G.k324 ?_
    refine ok_cond (fun _ => ?_) (fun _ => f59 (by omega) _)
    refine ok_chk G.k324 ?_
    exact f59 (by omega) _
theorem f_s_hide {n : Nat} {P : Nat → Nat → Nat} {F : Nat → Nat → Int32} {A : Nat → Nat → Nat → Int32} {x1 : Int32} (G : Gc P F A) (h1 : 0 ≤ x1.toInt ∧ x1.toInt ≤ 5) (hn : 1600 ≤ n) : ok (e_Evening_seekHidingPlace n P F A J x1) (fun r => QFc P r.2.1 F r.2.2.1 A r.2.2.2.1) := by
  have l0 : (0 : Int32).toInt = 0 := by decide
  unfold e_Evening_seekHidingPlace
  refine ok_call (f_q_isAnswered G (by omega)) ?_
  rintro ⟨v, P2, F2, A2, J2⟩ q2
  dsimp only at q2 ⊢
  refine ok_cond (fun _ => ?_) (fun _ => ok_some q2)
  exact ok_mono (f_s_hide_13 h1 (q2.g G) (by decide) (by omega)) (fun r hr => q2.tr hr)
theorem f_s_fits_18 {x1 x2 : Int32} (h1 : 0 ≤ x1.toInt ∧ x1.toInt ≤ 5) : ∀ {n : Nat} {P : Nat → Nat → Nat} {F : Nat → Nat → Int32} {A : Nat → Nat → Nat → Int32} {J : Nat → Nat → Nat → Int64} {x3 : Int32}, Gc P F A → -1 ≤ x3.toInt ∧ x3.toInt ≤ 36 → cf F 32 15 ≤ x3.toInt + 1 → 1500 - x3.toInt < (n : Int) → ok (e_Evening_seekFits_18 n P F A J x1 x2 x3) (fun r => QFc P r.2.1 F r.2.2.1 A r.2.2.2.1) := by
  intro n
  induction n with
  | zero => intro P F A J x3 G hx hf hn; exact absurd hn (by omega)
  | succ n ih =>
    intro P F A J x3 G hx hf hn
    have l0 : (0 : Int32).toInt = 0 := by decide
    have l1 : (1 : Int32).toInt = 1 := by decide
    have l36 : (36 : Int32).toInt = 36 := by decide
    have e3 : (x3 + 1).toInt = x3.toInt + 1 := by rw [i_add (by omega) (by omega), l1]
    unfold e_Evening_seekFits_18
    refine ok_cond (fun _ => ok_some (QFc.rfl' G.1)) (fun c => ?_)
    rw [i_nge] at c
    refine ok_chk G.k324 ?_
    refine ok_call (s_mayBeLeft G.k324 G.1 ⟨by omega, by omega⟩) ?_
    intro v vp
    refine ok_cond (fun _ => ?_) (fun c2 => ?_)
    · unfold e_Evening_seekFits_113
      exact ih G (by omega) (by omega) (by omega)
    · rw [i_neq, l0] at c2
      have la : LVx A (P 0 8) x3.toInt := by rw [← G.2.2.1]; exact (vp.resolve_left c2).2
      refine ok_call (fq_trial G) ?_
      rintro ⟨u, P2, F2, A2, J2⟩ ⟨g1, q2, L2, k2⟩
      dsimp only at g1 q2 L2 k2 ⊢
      subst g1
      have G2 := q2.g G
      refine ok_cst (by omega) (by omega) ?_
      intro A3 U3
      have q3 := q2.st U3 trivial tg33
      have G3 := q3.g G
      have L3 : LVc A3 (P2 0 8) 33 := L2.put U3 G2.n33 (la.cg ((q2.1.2.2.1 _ G.live).2 5 (by decide)))
      refine ok_chk G3.k324 ?_
      refine ok_chk G3.k324 ?_
      refine ok_call (fq_goTill G3 L3 (by rw [G3.2.2.1]; exact G3.2.2.2.1.2.2.2.2.2.2) (by omega)) ?_
      rintro ⟨u4, P4, F4, A4, J4⟩ ⟨q4, k4⟩
      dsimp only at q4 k4 ⊢
      have G4 := q4.g G3
      have qa := q3.tr q4
      have k15 : F4 32 15 = F 32 15 := (k4 15).trans (k2 15)
      refine ok_call (s_isSoIn G4.1 (by omega)) ?_
      intro v5 _
      unfold cf at hf
      refine ok_cond (fun _ => ?_) (fun _ => ?_)
      · unfold e_Evening_seekFits_113
        exact ok_mono (ih G4 (by omega) (by unfold cf; rw [k15]; omega) (by omega)) (fun r hr => qa.tr hr)
      · have a1 : 0 ≤ (F4 32 15).toInt ∧ (F4 32 15).toInt ≤ 37 := G4.1.1 32 15
        rw [k15] at a1
        have e15 : (F4 32 15 + 1).toInt = (F 32 15).toInt + 1 := by rw [k15, i_add (by omega) (by omega), l1]
        refine ok_cst (by rw [k15]; omega) (by rw [k15]; omega) ?_
        intro A6 U6
        refine ok_cpf ?_
        intro F7 U7
        have q7 := ((QFc.rfl' (P := P4) G4.1).st U6 trivial (by decide)).pf U7 (show 0 ≤ (F4 32 15 + 1).toInt ∧ (F4 32 15 + 1).toInt ≤ 37 by omega) (by decide)
        exact ok_mono (ih (q7.g G4) (by omega) (by unfold cf; rw [U7.1]; omega) (by omega)) (fun r hr => (qa.tr q7).tr hr)
theorem f_s_fits {n : Nat} {P : Nat → Nat → Nat} {F : Nat → Nat → Int32} {A : Nat → Nat → Nat → Int32} {x1 x2 : Int32} (G : Gc P F A) (h1 : 0 ≤ x1.toInt ∧ x1.toInt ≤ 5) (hn : 1600 ≤ n) : ok (e_Evening_seekFits n P F A J x1 x2) (fun r => QFc P r.2.1 F r.2.2.1 A r.2.2.2.1) := by
  have lm : (-1 : Int32).toInt = -1 := by decide
  have l0 : (0 : Int32).toInt = 0 := by decide
  unfold e_Evening_seekFits
  refine ok_call (f_q_isAnswered G (by omega)) ?_
  rintro ⟨v, P2, F2, A2, J2⟩ q2
  dsimp only at q2 ⊢
  refine ok_cond (fun _ => ?_) (fun _ => ok_some q2)
  refine ok_cpf ?_
  intro F3 U3
  have q3 := q2.pf U3 (show 0 ≤ (0 : Int32).toInt ∧ (0 : Int32).toInt ≤ 37 by decide) (by decide)
  exact ok_mono (f_s_fits_18 h1 (q3.g G) (by decide) (by unfold cf; rw [U3.1]; omega) (by omega)) (fun r hr => q3.tr hr)
theorem f_s_isSuspect_2 {x1 x2 : Int32} (h1 : 0 ≤ x1.toInt ∧ x1.toInt ≤ 5) : ∀ {n : Nat} {P : Nat → Nat → Nat} {F : Nat → Nat → Int32} {A : Nat → Nat → Nat → Int32} {J : Nat → Nat → Nat → Int64} {x3 : Int32}, Gc P F A → -1 ≤ x3.toInt ∧ x3.toInt ≤ 36 → 1500 - x3.toInt < (n : Int) → ok (e_Evening_isSuspect_2 n P F A J x1 x2 x3) (fun r => QFc P r.2.1 F r.2.2.1 A r.2.2.2.1) := by
  intro n
  induction n with
  | zero => intro P F A J x3 G hx hn; exact absurd hn (by omega)
  | succ n ih =>
    intro P F A J x3 G hx hn
    have l0 : (0 : Int32).toInt = 0 := by decide
    have l1 : (1 : Int32).toInt = 1 := by decide
    have l36 : (36 : Int32).toInt = 36 := by decide
    have e3 : (x3 + 1).toInt = x3.toInt + 1 := by rw [i_add (by omega) (by omega), l1]
    unfold e_Evening_isSuspect_2
    refine ok_cond (fun _ => ok_some (QFc.rfl' G.1)) (fun c => ?_)
    rw [i_nge] at c
    refine ok_chk G.k324 ?_
    refine ok_call (s_mayBeLeft G.k324 G.1 ⟨by omega, by omega⟩) ?_
    intro v vp
    have next : ∀ {P' F' A' J'}, QFc P P' F F' A A' → ok (e_Evening_isSuspect_92 (e_Evening_isSuspect_2 n) n P' F' A' J' x1 x2 x3) (fun r => QFc P r.2.1 F r.2.2.1 A r.2.2.2.1) := fun q => by
      unfold e_Evening_isSuspect_92
      exact ok_mono (ih (q.g G) (by omega) (by omega)) (fun r hr => q.tr hr)
    refine ok_cond (fun _ => next (QFc.rfl' G.1)) (fun c2 => ?_)
    rw [i_neq, l0] at c2
    have la : LVx A (P 0 8) x3.toInt := by rw [← G.2.2.1]; exact (vp.resolve_left c2).2
    refine ok_ldn (by omega) (by omega) (fun v5 => ?_)
    refine ok_cond (fun _ => next (QFc.rfl' G.1)) (fun _ => ?_)
    refine ok_call (fq_trial G) ?_
    rintro ⟨u, P2, F2, A2, J2⟩ ⟨g1, q2, L2, k2⟩
    dsimp only at g1 q2 L2 k2 ⊢
    subst g1
    have G2 := q2.g G
    refine ok_cst (by omega) (by omega) ?_
    intro A3 U3
    have q3 := q2.st U3 trivial tg33
    have G3 := q3.g G
    have L3 : LVc A3 (P2 0 8) 33 := L2.put U3 G2.n33 (la.cg ((q2.1.2.2.1 _ G.live).2 5 (by decide)))
    refine ok_chk G3.k324 ?_
    refine ok_chk G3.k324 ?_
    refine ok_call (fq_goTill G3 L3 (by rw [G3.2.2.1]; exact G3.2.2.2.1.2.2.2.2.2.2) (by omega)) ?_
    rintro ⟨u4, P4, F4, A4, J4⟩ ⟨q4, k4⟩
    dsimp only at q4 k4 ⊢
    refine ok_call (s_isSoIn (q4.g G3).1 (by omega)) ?_
    intro v5 _
    exact ok_cond (fun _ => next (q3.tr q4)) (fun _ => ok_some (q3.tr q4))
theorem f_s_suspectBits_4 {x1 : Int32} : ∀ {n : Nat} {P : Nat → Nat → Nat} {F : Nat → Nat → Int32} {A : Nat → Nat → Nat → Int32} {J : Nat → Nat → Nat → Int64} {x2 x3 : Int32}, Gc P F A → 0 ≤ x3.toInt ∧ x3.toInt ≤ 6 → 1600 - x3.toInt < (n : Int) → ok (e_Evening_suspectBits_4 n P F A J x1 x2 x3) (fun r => QFc P r.2.1 F r.2.2.1 A r.2.2.2.1) := by
  intro n
  induction n with
  | zero => intro P F A J x2 x3 G hx hn; exact absurd hn (by omega)
  | succ n ih =>
    intro P F A J x2 x3 G hx hn
    have l1 : (1 : Int32).toInt = 1 := by decide
    have lm : (-1 : Int32).toInt = -1 := by decide
    have e3 : (x3 + 1).toInt = x3.toInt + 1 := by rw [i_add (by omega) (by omega), l1]
    have a2 : 0 ≤ (F (P 32 4) 17).toInt ∧ (F (P 32 4) 17).toInt ≤ 6 := by have := G.1.1 (P 32 4) 17; rw [G.k324] at this; exact this
    unfold e_Evening_suspectBits_4
    refine ok_chk G.k324 ?_
    refine ok_cond (fun _ => ok_some (QFc.rfl' G.1)) (fun c => ?_)
    rw [i_nge] at c
    unfold e_Evening_isSuspect
    refine ok_call (f_s_isSuspect_2 ⟨by omega, by omega⟩ G (by decide) (by omega)) ?_
    rintro ⟨v, P2, F2, A2, J2⟩ q2
    dsimp only at q2 ⊢
    refine ok_cond (fun _ => ?_) (fun _ => ?_)
    · unfold e_Evening_suspectBits_30
      exact ok_mono (ih (q2.g G) (by omega) (by omega)) (fun r hr => q2.tr hr)
    · unfold e_Evening_suspectBits_30
      exact ok_mono (ih (q2.g G) (by omega) (by omega)) (fun r hr => q2.tr hr)
theorem f_s_pairs_16 {Q : Int32 × (Nat → Nat → Nat) × (Nat → Nat → Int32) × (Nat → Nat → Nat → Int32) × (Nat → Nat → Nat → Int64) → Prop} {K6 : (Nat → Nat → Nat) → (Nat → Nat → Int32) → (Nat → Nat → Nat → Int32) → (Nat → Nat → Nat → Int64) → Int32 → Int32 → Int32 → Int32 → Int32 → Option (Int32 × (Nat → Nat → Nat) × (Nat → Nat → Int32) × (Nat → Nat → Nat → Int32) × (Nat → Nat → Nat → Int64))} {P0 : Nat → Nat → Nat} {F0 : Nat → Nat → Int32} {A0 : Nat → Nat → Nat → Int32} {x1 x2 x3 x5 : Int32} (h1 : 0 ≤ x1.toInt ∧ x1.toInt ≤ 5) (h2 : 0 ≤ x2.toInt ∧ x2.toInt ≤ 5) (h5 : -1 ≤ x5.toInt ∧ x5.toInt ≤ 35) (G0 : Gc P0 F0 A0) (hK : ∀ P F A J x4, QFc P0 P F0 F A0 A → ok (K6 P F A J x1 x2 x3 x4 (x5 + 1)) Q) : ∀ {n : Nat} {P : Nat → Nat → Nat} {F : Nat → Nat → Int32} {A : Nat → Nat → Nat → Int32} {J : Nat → Nat → Nat → Int64} {x4 x6 : Int32}, QFc P0 P F0 F A0 A → -1 ≤ x6.toInt ∧ x6.toInt ≤ 36 → 1500 - x6.toInt < (n : Int) → ok (e_Evening_fittingPairs_16 K6 n P F A J x1 x2 x3 x4 x5 x6) Q := by
  intro n
  induction n with
  | zero => intro P F A J x4 x6 q hx hn; exact absurd hn (by omega)
  | succ n ih =>
    intro P F A J x4 x6 q hx hn
    have G := q.g G0
    have l0 : (0 : Int32).toInt = 0 := by decide
    have l1 : (1 : Int32).toInt = 1 := by decide
    have l36 : (36 : Int32).toInt = 36 := by decide
    have e6 : (x6 + 1).toInt = x6.toInt + 1 := by rw [i_add (by omega) (by omega), l1]
    have f133 : ok (e_Evening_fittingPairs_133 K6 n P F A J x1 x2 x3 x4 x5) Q := by
      unfold e_Evening_fittingPairs_133
      exact hK P F A J x4 q
    unfold e_Evening_fittingPairs_16
    refine ok_cond (fun _ => f133) (fun c => ?_)
    rw [i_nge] at c
    refine ok_chk G.k324 ?_
    refine ok_call (s_mayBeLeft G.k324 G.1 ⟨by omega, by omega⟩) ?_
    intro v vp
    refine ok_cond (fun _ => f133) (fun c2 => ?_)
    rw [i_neq, l0] at c2
    have la : LVx A (P 0 8) x5.toInt := by rw [← G.2.2.1]; exact (vp.resolve_left c2).2
    refine ok_chk G.k324 ?_
    refine ok_call (s_mayBeLeft G.k324 G.1 ⟨by omega, by omega⟩) ?_
    intro w wp
    refine ok_cond (fun _ => ?_) (fun c3 => ?_)
    · unfold e_Evening_fittingPairs_127
      exact ih q (by omega) (by omega)
    · rw [i_neq, l0] at c3
      have lb : LVx A (P 0 8) x6.toInt := by rw [← G.2.2.1]; exact (wp.resolve_left c3).2
      refine ok_call (fq_trial G) ?_
      rintro ⟨u, P2, F2, A2, J2⟩ ⟨g1, q2, L2, -⟩
      dsimp only at g1 q2 L2 ⊢
      subst g1
      have G2 := q2.g G
      have k5 := (q2.1.2.2.1 _ G.live).2 5 (by decide)
      refine ok_cst (by omega) (by omega) ?_
      intro A3 U3
      refine ok_cst (by omega) (by omega) ?_
      intro A4 U4
      have q4 := (q2.st U3 trivial tg33).st U4 trivial tg33
      have G4 := q4.g G
      have L3 : LVc A3 (P2 0 8) 33 := L2.put U3 G2.n33 (la.cg k5)
      have L4 : LVc A4 (P2 0 8) 33 := L3.put U4 G2.n33 ((lb.cg k5).cg (U3.2.2 _ 5 (fun e => G2.n33 e.1)))
      refine ok_chk G4.k324 ?_
      refine ok_chk G4.k324 ?_
      refine ok_call (fq_goTill G4 L4 (by rw [G4.2.2.1]; exact G4.2.2.2.1.2.2.2.2.2.2) (by omega)) ?_
      rintro ⟨u5, P5, F5, A5, J5⟩ ⟨q5, k5⟩
      dsimp only at q5 k5 ⊢
      refine ok_call (s_isSoIn (q5.g G4).1 (by omega)) ?_
      intro v6 _
      refine ok_cond (fun _ => ?_) (fun _ => ?_)
      · unfold e_Evening_fittingPairs_124 e_Evening_fittingPairs_127
        exact ih (q.tr (q4.tr q5)) (by omega) (by omega)
      · unfold e_Evening_fittingPairs_124 e_Evening_fittingPairs_127
        exact ih (q.tr (q4.tr q5)) (by omega) (by omega)
theorem f_s_pairs_6 {x1 x2 x3 : Int32} (h1 : 0 ≤ x1.toInt ∧ x1.toInt ≤ 5) (h2 : 0 ≤ x2.toInt ∧ x2.toInt ≤ 5) {P0 : Nat → Nat → Nat} {F0 : Nat → Nat → Int32} {A0 : Nat → Nat → Nat → Int32} (G0 : Gc P0 F0 A0) : ∀ {n : Nat} {P : Nat → Nat → Nat} {F : Nat → Nat → Int32} {A : Nat → Nat → Nat → Int32} {J : Nat → Nat → Nat → Int64} {x4 x5 : Int32}, QFc P0 P F0 F A0 A → -1 ≤ x5.toInt ∧ x5.toInt ≤ 36 → 1600 - x5.toInt < (n : Int) → ok (e_Evening_fittingPairs_6 n P F A J x1 x2 x3 x4 x5) (fun r => QFc P0 r.2.1 F0 r.2.2.1 A0 r.2.2.2.1) := by
  intro n
  induction n with
  | zero => intro P F A J x4 x5 q hx hn; exact absurd hn (by omega)
  | succ n ih =>
    intro P F A J x4 x5 q hx hn
    have l1 : (1 : Int32).toInt = 1 := by decide
    have lm : (-1 : Int32).toInt = -1 := by decide
    have l36 : (36 : Int32).toInt = 36 := by decide
    have e3 : (x5 + 1).toInt = x5.toInt + 1 := by rw [i_add (by omega) (by omega), l1]
    unfold e_Evening_fittingPairs_6
    refine ok_cond (fun _ => ok_some q) (fun c => ?_)
    rw [i_nge] at c
    exact f_s_pairs_16 h1 h2 ⟨by omega, by omega⟩ G0 (fun P F A J x4 q => ih q (by omega) (by omega)) q (by decide) (by omega)
theorem f_s_arrivals_5 {x1 : Int32} : ∀ {n : Nat} {P : Nat → Nat → Nat} {F : Nat → Nat → Int32} {A : Nat → Nat → Nat → Int32} {J : Nat → Nat → Nat → Int64} {x2 : Int64} {x4 : Int32}, Gc P F A → 0 ≤ x4.toInt ∧ x4.toInt ≤ 6 → 100 - x4.toInt < (n : Int) → ok (e_Evening_arrivals_5 n P F A J x1 x2 x4) (fun r => QFc P r.2.1 F r.2.2.1 A r.2.2.2.1) := by
  intro n
  induction n with
  | zero => intro P F A J x2 x4 G hx hn; exact absurd hn (by omega)
  | succ n ih =>
    intro P F A J x2 x4 G hx hn
    have l0 : (0 : Int32).toInt = 0 := by decide
    have l1 : (1 : Int32).toInt = 1 := by decide
    have e4 : (x4 + 1).toInt = x4.toInt + 1 := by rw [i_add (by omega) (by omega), l1]
    have a2 : 0 ≤ (F (P 32 4) 17).toInt ∧ (F (P 32 4) 17).toInt ≤ 6 := by have := G.1.1 (P 32 4) 17; rw [G.k324] at this; exact this
    have f82 : x4.toInt < 6 → ∀ {P2 F2 A2 J2} {x6 : Int32}, QFc P P2 F F2 A A2 → ok (e_Evening_arrivals_82 (e_Evening_arrivals_5 n) n P2 F2 A2 J2 x1 x2 x4 x6) (fun r => QFc P r.2.1 F r.2.2.1 A r.2.2.2.1) := by
      intro hlt P2 F2 A2 J2 x6 q
      have G2 := q.g G
      unfold e_Evening_arrivals_82
      refine ok_chk G2.k324 ?_
      refine ok_cond (fun _ => ?_) (fun _ => ?_)
      · unfold e_Evening_arrivals_110
        exact ok_mono (ih G2 (by omega) (by omega)) (fun r hr => q.tr hr)
      · unfold e_Evening_arrivals_110
        exact ok_mono (ih G2 (by omega) (by omega)) (fun r hr => q.tr hr)
    unfold e_Evening_arrivals_5
    refine ok_chk G.k324 ?_
    refine ok_cond (fun _ => ok_some (QFc.rfl' G.1)) (fun c => ?_)
    rw [i_nge] at c
    have hlt6 : x4.toInt < 6 := by omega
    refine ok_ldc (K := 2) G.1 (by decide) (by omega) (by omega) ?_
    intro v3 v3e _
    refine ok_cond (fun _ => f82 hlt6 (QFc.rfl' G.1)) (fun c3 => ?_)
    rw [i_nlt] at c3
    have lv := G.2.2.2.2.1 x4.toInt (by omega) (by omega)
    have l2 : v3.toInt < 36 ∧ v3.toInt % 6 < ci A (P 0 8) 5 (v3.toInt / 6) := by
      rw [v3e]
      rcases lv with z | z
      · omega
      · exact ⟨z.2.1, z.2.2⟩
    refine ok_chk G.k324 ?_
    refine ok_div1 (by decide) ?_
    intro v6 e6
    have d6 : v6.toInt = v3.toInt / 6 := by rw [e6]; exact i_div6 (by omega)
    rw [G.2.2.1]
    refine ok_ldc G.1 G.k08 (by omega) (by omega) ?_
    intro v7 v7e v7r
    change -1 ≤ v7.toInt ∧ v7.toInt ≤ 7 at v7r
    have h7 := G.2.2.2.1.2.2.1 v6.toInt (by omega) (by omega) (by rw [d6]; omega)
    refine ok_chk G.k08 ?_
    refine ok_chk G.k08 ?_
    refine ok_ldc G.1 G.k08 (by omega) (by omega) ?_
    intro v10 v10e v10r
    change -1 ≤ v10.toInt ∧ v10.toInt ≤ 7 at v10r
    rw [G.2.2.1] at c
    have h10 := G.2.2.2.1.2.1 x4.toInt (by omega) c
    refine ok_call (fq_between G ⟨by omega, by omega⟩ ⟨by omega, by omega⟩ (by omega)) ?_
    rintro ⟨v, P2, F2, A2, J2⟩ ⟨-, q⟩
    exact f82 hlt6 q
theorem f_s_arrivals {n : Nat} {P : Nat → Nat → Nat} {F : Nat → Nat → Int32} {A : Nat → Nat → Nat → Int32} {x1 : Int32} (G : Gc P F A) (hn : 200 ≤ n) : ok (e_Evening_arrivals n P F A J x1) (fun r => QFc P r.2.1 F r.2.2.1 A r.2.2.2.1) := by
  have l0 : (0 : Int32).toInt = 0 := by decide
  unfold e_Evening_arrivals
  exact f_s_arrivals_5 G (by decide) (by omega)
theorem f_q_minutesBetween {n : Nat} {x1 x2 : Int32} (G : Gc P F A) (h1 : 0 ≤ x1.toInt ∧ x1.toInt ≤ 7) (h2 : 0 ≤ x2.toInt ∧ x2.toInt ≤ 7) (hn : 70 ≤ n) : ok (e_Evening_minutesBetween n P F A J x1 x2) (fun r => QFc P r.2.1 F r.2.2.1 A r.2.2.2.1) := by
  unfold e_Evening_minutesBetween
  refine ok_chk G.k324 ?_
  rw [G.2.2.1]
  refine ok_call (fq_between G h1 h2 hn) ?_
  rintro ⟨v, P2, F2, A2, J2⟩ ⟨-, q⟩
  exact ok_some q
theorem f_s_cWay {n : Nat} {x1 x2 : Int32} (G : Gc P F A) (hn : 70 ≤ n) : ok (e_SleepWork_way n P F A J x1 x2) (fun r => QFc P r.2.1 F r.2.2.1 A r.2.2.2.1) := by
  have l0 : (0 : Int32).toInt = 0 := by decide
  unfold e_SleepWork_way
  refine ok_call (s_isRoom G) ?_
  intro v vp
  refine ok_cond (fun _ => fq0 G) (fun c => ?_)
  rw [i_neq, l0] at c
  have a := vp.resolve_left c
  refine ok_call (s_isRoom G) ?_
  intro w wp
  refine ok_cond (fun c2 => ?_) (fun _ => fq0 G)
  rw [i_ne, l0] at c2
  have b := wp.resolve_left c2
  refine ok_call (f_q_minutesBetween G ⟨by omega, by omega⟩ ⟨by omega, by omega⟩ hn) ?_
  rintro ⟨v5, P2, F2, A2, J2⟩ q
  dsimp only at q ⊢
  exact ok_cond (fun _ => ok_some (q)) (fun _ => ok_some (q))
theorem f_s_cWhere {n : Nat} {x1 x2 : Int32} (G : Gc P F A) (hn : 70 ≤ n) : ok (e_SleepWork_where n P F A J x1 x2) (fun r => QFc P r.2.1 F r.2.2.1 A r.2.2.2.1) := by
  have l0 : (0 : Int32).toInt = 0 := by decide
  unfold e_SleepWork_where
  refine ok_call (s_isMan G) ?_
  intro v vp
  refine ok_cond (fun _ => fq0 G) (fun c => ?_)
  rw [i_neq, l0] at c
  have a := vp.resolve_left c
  refine ok_cond (fun _ => fq0 G) (fun _ => ?_)
  refine ok_chk G.k08 ?_
  refine ok_cond (fun _ => ?_) (fun _ => fq0 G)
  refine ok_chk G.k08 ?_
  refine ok_ldc G.1 G.k08 (by omega) (by omega) ?_
  intro v7 v7e v7r
  change -1 ≤ v7.toInt ∧ v7.toInt ≤ 7 at v7r
  have h7 := G.2.2.2.1.2.1 x1.toInt (by omega) a.2.2.1
  refine ok_ldc (K := 2) G.1 (by decide) (by omega) (by omega) ?_
  intro v8 v8e _
  refine ok_cond (fun c8 => ?_) (fun _ => fq0 G)
  rw [i_ge] at c8
  have lv := G.2.2.2.2.1 x1.toInt (by omega) (by omega)
  have l2 : v8.toInt < 36 ∧ v8.toInt % 6 < ci A (P 0 8) 5 (v8.toInt / 6) := by
    rw [v8e]
    rcases lv with z | z
    · omega
    · exact ⟨z.2.1, z.2.2⟩
  refine ok_chk G.k08 ?_
  refine ok_div1 (by decide) ?_
  intro v11 e11
  have d11 : v11.toInt = v8.toInt / 6 := by rw [e11]; exact i_div6 (by omega)
  refine ok_ldc G.1 G.k08 (by omega) (by omega) ?_
  intro v12 v12e v12r
  change -1 ≤ v12.toInt ∧ v12.toInt ≤ 7 at v12r
  have h12 := G.2.2.2.1.2.2.1 v11.toInt (by omega) (by omega) (by rw [d11]; omega)
  refine ok_call (f_q_minutesBetween G ⟨by omega, by omega⟩ ⟨by omega, by omega⟩ hn) ?_
  rintro ⟨v5, P2, F2, A2, J2⟩ q
  dsimp only at q ⊢
  exact ok_cond (fun _ => ok_some (q)) (fun _ => ok_some (q))
theorem f_s_cGain {n : Nat} (G : Gc P F A) (hn : 1500 ≤ n) : ok (e_SleepWork_gain n P F A J) (fun r => QFc P r.2.1 F r.2.2.1 A r.2.2.2.1) := by
  unfold e_SleepWork_gain e_Evening_gainAsItIs
  have body : ok ((c_chk 6 (P 32 4)).bind fun q1 => (e_House_worthOfAll n P F A J q1 2).bind fun v2 => (c_pf F 32 5 v2).bind fun F3 => (e_State_copy P F3 A J 33 2).bind fun (_, P5, F6, A7, J8) => (e_Evening_gainOfTrial n P5 F6 A7 J8).bind fun (v9, P10, F11, A12, J13) => some (v9, P10, F11, A12, J13)) (fun r => QFc P r.2.1 F r.2.2.1 A r.2.2.2.1) := by
    refine ok_chk G.k324 ?_
    refine ok_call (s_worthOfAll G.k324 G.1 (by omega)) ?_
    intro v2 _
    refine ok_cpf ?_
    intro F3 U3
    have q3 := (QFc.rfl' (P := P) G.1).pf U3 trivial (by decide)
    have G3 := q3.g G
    refine ok_call (fq_trial G3) ?_
    rintro ⟨u, P2, F2, A2, J2⟩ ⟨g1, q2, L2, -⟩
    dsimp only at g1 q2 L2 ⊢
    subst g1
    refine ok_call (f_q_gainOfTrial (q2.g G3) L2 (by omega)) ?_
    rintro ⟨v4, P4, F4, A4, J4⟩ q4
    dsimp only at q4 ⊢
    exact ok_some (((q3.tr q2).tr q4))
  refine ok_call body ?_
  rintro ⟨v, P2, F2, A2, J2⟩ hr
  exact ok_some hr
theorem f_s_cBest {n : Nat} {x1 x2 : Int32} (G : Gc P F A) (hn : 1800 ≤ n) : ok (e_SleepWork_best n P F A J x1 x2) (fun r => QFc P r.2.1 F r.2.2.1 A r.2.2.2.1) := by
  have l0 : (0 : Int32).toInt = 0 := by decide
  unfold e_SleepWork_best
  refine ok_call (s_isMan G) ?_
  intro v vp
  refine ok_cond (fun _ => fq0 G) (fun c => ?_)
  rw [i_neq, l0] at c
  have a := vp.resolve_left c
  refine ok_cond (fun _ => fq0 G) (fun _ => ?_)
  refine ok_cond (fun _ => ?_) (fun _ => fq0 G)
  refine ok_call (f_s_forOne G ⟨by omega, by omega⟩ (by omega)) ?_
  rintro ⟨u, P2, F2, A2, J2⟩ q
  dsimp only at q ⊢
  refine ok_cond (fun _ => ?_) (fun _ => ok_some (q))
  exact ok_call s_codeOf (fun v _ => ok_some (q))
theorem f_s_cBestOfTwo {n : Nat} {x1 x2 x3 : Int32} (G : Gc P F A) (hn : 1800 ≤ n) : ok (e_SleepWork_bestOfTwo n P F A J x1 x2 x3) (fun r => QFc P r.2.1 F r.2.2.1 A r.2.2.2.1) := by
  have l0 : (0 : Int32).toInt = 0 := by decide
  unfold e_SleepWork_bestOfTwo
  refine ok_call (s_areTwoMen G) ?_
  intro v vp
  refine ok_cond (fun _ => fq0 G) (fun c => ?_)
  rw [i_neq, l0] at c
  have a := vp.resolve_left c
  refine ok_cond (fun _ => fq0 G) (fun _ => ?_)
  refine ok_cond (fun _ => ?_) (fun _ => fq0 G)
  refine ok_call (f_s_forTwo G ⟨by omega, by omega⟩ ⟨by omega, by omega⟩ (by omega)) ?_
  rintro ⟨u, P2, F2, A2, J2⟩ q
  dsimp only at q ⊢
  refine ok_cond (fun _ => ok_cond (fun _ => ?_) (fun _ => ?_)) (fun _ => ok_some (q))
  · exact ok_call s_codeOf (fun v _ => ok_some (q))
  · unfold e_SleepWork_bestOfTwo_63
    exact ok_call s_codeOf (fun v _ => ok_some (q))
theorem f_s_cHire {n : Nat} {x1 : Int32} (G : Gc P F A) (hn : 1800 ≤ n) : ok (e_SleepWork_hire n P F A J x1) (fun r => QFc P r.2.1 F r.2.2.1 A r.2.2.2.1) := by
  have l0 : (0 : Int32).toInt = 0 := by decide
  unfold e_SleepWork_hire
  refine ok_call (s_isMan G) ?_
  intro v vp
  refine ok_cond (fun c => ?_) (fun _ => fq0 G)
  rw [i_ne, l0] at c
  have a := vp.resolve_left c
  refine ok_call (f_s_forOne G ⟨by omega, by omega⟩ (by omega)) ?_
  rintro ⟨u, P2, F2, A2, J2⟩ q
  exact ok_some (q)
theorem f_s_cHide {n : Nat} {x1 x2 : Int32} (G : Gc P F A) (hn : 1800 ≤ n) : ok (e_SleepWork_hide n P F A J x1 x2) (fun r => QFc P r.2.1 F r.2.2.1 A r.2.2.2.1) := by
  have l0 : (0 : Int32).toInt = 0 := by decide
  unfold e_SleepWork_hide
  refine ok_call (s_isTool G) ?_
  intro v vp
  refine ok_cond (fun _ => fq0 G) (fun c => ?_)
  rw [i_neq, l0] at c
  have a := vp.resolve_left c
  refine ok_chk G.k08 ?_
  refine ok_cond (fun _ => fq0 G) (fun _ => ?_)
  refine ok_cond (fun _ => fq0 G) (fun _ => ?_)
  refine ok_cond (fun _ => ?_) (fun _ => fq0 G)
  refine ok_call (f_s_hide G ⟨by omega, by omega⟩ (by omega)) ?_
  rintro ⟨u, P2, F2, A2, J2⟩ q
  dsimp only at q ⊢
  exact ok_cond (fun _ => ok_some (q)) (fun _ => ok_some (q))
theorem f_s_cStrokes {n : Nat} {x1 x2 : Int32} (G : Gc P F A) (hn : 1500 ≤ n) : ok (e_SleepWork_strokes n P F A J x1 x2) (fun r => QFc P r.2.1 F r.2.2.1 A r.2.2.2.1) := by
  have l0 : (0 : Int32).toInt = 0 := by decide
  have h6 : (F (P 0 8) 18).toInt ≤ 600 := G.2.2.2.1.2.2.2.2.2.2
  unfold e_SleepWork_strokes
  refine ok_call (s_isMan G) ?_
  intro v vp
  refine ok_cond (fun _ => fq0 G) (fun c => ?_)
  rw [i_neq, l0] at c
  have a := vp.resolve_left c
  refine ok_cond (fun _ => fq0 G) (fun _ => ?_)
  refine ok_chk G.k08 ?_
  refine ok_cond (fun c2 => ?_) (fun _ => fq0 G)
  rw [i_le] at c2
  unfold e_Evening_strokesTill
  have body : ok ((e_State_copy P F A J 33 2).bind fun (_, P2, F3, A4, J5) => (c_chk 6 (P2 32 4)).bind fun q6 => (e_Sleep_goTill n P2 F3 A4 J5 x2 q6 33).bind fun (_, P8, F9, A10, J11) => (m_ld (A10 33 5) 6 x1).bind fun v12 => some (v12, P8, F9, A10, J11)) (fun r => QFc P r.2.1 F r.2.2.1 A r.2.2.2.1) := by
    refine ok_call (fq_trial G) ?_
    rintro ⟨u, P2, F2, A2, J2⟩ ⟨g1, q2, L2, -⟩
    dsimp only at g1 q2 L2 ⊢
    subst g1
    have G2 := q2.g G
    refine ok_chk G2.k324 ?_
    refine ok_call (fq_goTill G2 L2 (by omega) (by omega)) ?_
    rintro ⟨u3, P3, F3, A3, J3⟩ ⟨q3, -⟩
    dsimp only at q3 ⊢
    exact ok_ldn (by omega) (by omega) (fun v => ok_some ((q2.tr q3)))
  refine ok_call body ?_
  rintro ⟨v, P2, F2, A2, J2⟩ hr
  exact ok_some hr
theorem f_s_cFits {n : Nat} {x1 x2 x3 : Int32} (G : Gc P F A) (hn : 1800 ≤ n) : ok (e_SleepWork_fits n P F A J x1 x2 x3) (fun r => QFc P r.2.1 F r.2.2.1 A r.2.2.2.1) := by
  have l0 : (0 : Int32).toInt = 0 := by decide
  have lm : (-1 : Int32).toInt = -1 := by decide
  unfold e_SleepWork_fits
  refine ok_call (s_isMan G) ?_
  intro v vp
  refine ok_cond (fun _ => fq0 G) (fun c => ?_)
  rw [i_neq, l0] at c
  have a := vp.resolve_left c
  refine ok_call s_isKnownBy ?_
  intro w _
  refine ok_cond (fun _ => fq0 G) (fun _ => ?_)
  refine ok_cond (fun c3 => ?_) (fun _ => fq0 G)
  rw [i_ge] at c3
  refine ok_call (f_s_fits G ⟨by omega, by omega⟩ (by omega)) ?_
  rintro ⟨u, P2, F2, A2, J2⟩ q
  dsimp only at q ⊢
  refine ok_cond (fun c4 => ?_) (fun _ => ok_some (q))
  rw [i_ne] at c4
  refine ok_cond (fun _ => ok_some (q)) (fun c5 => ?_)
  rw [i_nge] at c5
  have a1 : 0 ≤ (F2 32 15).toInt ∧ (F2 32 15).toInt ≤ 37 := q.1.2.1.1 32 15
  refine ok_ldn (by omega) (by omega) (fun v13 => ?_)
  exact ok_call s_codeOf (fun v _ => ok_some (q))
theorem f_s_cSuspects {n : Nat} {x1 : Int32} (G : Gc P F A) (hn : 1800 ≤ n) : ok (e_SleepWork_suspects n P F A J x1) (fun r => QFc P r.2.1 F r.2.2.1 A r.2.2.2.1) := by
  have l0 : (0 : Int32).toInt = 0 := by decide
  unfold e_SleepWork_suspects
  refine ok_call s_isKnownBy ?_
  intro w _
  refine ok_cond (fun _ => fq0 G) (fun _ => ?_)
  unfold e_Evening_suspectBits
  refine ok_call (f_s_suspectBits_4 G (by decide) (by omega)) ?_
  rintro ⟨v, P2, F2, A2, J2⟩ q
  exact ok_some (q)
theorem f_s_cPairs {n : Nat} {x1 x2 x3 : Int32} (G : Gc P F A) (hn : 1800 ≤ n) : ok (e_SleepWork_pairs n P F A J x1 x2 x3) (fun r => QFc P r.2.1 F r.2.2.1 A r.2.2.2.1) := by
  have l0 : (0 : Int32).toInt = 0 := by decide
  have lm : (-1 : Int32).toInt = -1 := by decide
  unfold e_SleepWork_pairs
  refine ok_call (s_areTwoMen G) ?_
  intro v vp
  refine ok_cond (fun _ => fq0 G) (fun c => ?_)
  rw [i_neq, l0] at c
  have a := vp.resolve_left c
  refine ok_call s_isKnownBy ?_
  intro w _
  refine ok_cond (fun _ => ?_) (fun _ => fq0 G)
  unfold e_Evening_fittingPairs
  refine ok_call (f_s_pairs_6 ⟨by omega, by omega⟩ ⟨by omega, by omega⟩ G (QFc.rfl' G.1) (by decide) (by omega)) ?_
  rintro ⟨v, P2, F2, A2, J2⟩ q
  exact ok_some (q)
end H9f5
