section R9c
variable {P P' : Nat → Nat → Nat} {F F' F0 : Nat → Nat → Int32} {A A' A0 : Nat → Nat → Nat → Int32} {J : Nat → Nat → Nat → Int64} {n d : Nat}
theorem s_taskOfStep_57 {x1 x2 : Int32} {F1 : Nat → Nat → Int32} {P1 : Nat → Nat → Nat} {A1 : Nat → Nat → Nat → Int32} (e5 : P 37 5 = d) (hk : c_kind d = 6) (q1 : QRc P P1 F F1 A A1) (h2 : -1 ≤ x2.toInt ∧ x2.toInt ≤ 5 ∧ (x2.toInt < cf F d 16 ∨ x2.toInt = -1)) (hn : 20 ≤ n) : ok (e_Reader_takeTaskOfStep_57 n P1 F1 A1 J x1 x2) (fun r => QRc P r.2.1 F r.2.2.1 A r.2.2.2.1 ∧ -1 ≤ r.1.toInt ∧ r.1.toInt ≤ 5 ∧ (r.1.toInt < cf F d 16 ∨ r.1.toInt = -1) ∧ (cf r.2.2.1 37 10 ≠ 0 ∨ r.1.toInt < 0 ∨ ci A d 5 r.1.toInt < 6)) := by
  have l0 : (0 : Int32).toInt = 0 := by decide
  have l6 : (6 : Int32).toInt = 6 := by decide
  have x5 : P1 37 5 = d := by rw [q1.1]; exact e5
  unfold e_Reader_takeTaskOfStep_57
  rw [x5]
  refine ok_chk hk ?_
  refine ok_call (s_known_v1 q1.2.2.2.1 (by omega)) ?_
  rintro ⟨v13, P2, F2, A2, J2⟩ ⟨q2, -⟩
  dsimp only at q2 ⊢
  have qa := q1.tr q2
  refine ok_cond (fun c => ?_) (fun c => ?_)
  · rw [i_lt] at c
    exact ok_some ⟨qa, h2.1, h2.2.1, h2.2.2, .inr (.inl (show x2.toInt < 0 by omega))⟩
  · rw [i_nlt] at c
    have x5' : P2 37 5 = d := by rw [qa.1]; exact e5
    rw [x5']
    refine ok_chk hk ?_
    refine ok_ldc q2.2.2.2.1 hk (by omega) (by omega) ?_
    intro v20 v20e _
    rw [qa.2.1] at v20e
    refine ok_cond (fun c2 => ?_) (fun c2 => ?_)
    · rw [i_lt] at c2
      exact ok_some ⟨qa, h2.1, h2.2.1, h2.2.2, .inr (.inr (show ci A d 5 x2.toInt < 6 by omega))⟩
    · refine ok_call (s_fail q2.2.2.2.1 (by decide)) ?_
      rintro ⟨u, P3, F3, A3, J3⟩ ⟨q3, h3⟩
      exact ok_some ⟨qa.tr q3, h2.1, h2.2.1, h2.2.2, .inl h3⟩
theorem s_taskOfStep (e5 : P 37 5 = d) (hk : c_kind d = 6) (R : Rc F A) (hn : 20 ≤ n) : ok (e_Reader_takeTaskOfStep n P F A J) (fun r => QRc P r.2.1 F r.2.2.1 A r.2.2.2.1 ∧ -1 ≤ r.1.toInt ∧ r.1.toInt ≤ 5 ∧ (r.1.toInt < cf F d 16 ∨ r.1.toInt = -1) ∧ (cf r.2.2.1 37 10 ≠ 0 ∨ r.1.toInt < 0 ∨ ci A d 5 r.1.toInt < 6)) := by
  have l0 : (0 : Int32).toInt = 0 := by decide
  have lm : (-1 : Int32).toInt = -1 := by decide
  have hd := kd37 hk
  have a := R.tok
  unfold e_Reader_takeTaskOfStep
  refine ok_ldn (by omega) (by omega) (fun v1 => ?_)
  refine ok_call (s_take R) ?_
  rintro ⟨v2, P2, F2, A2, J2⟩ ⟨q2, -⟩
  dsimp only at q2 ⊢
  refine ok_call (s_isNext q2.2.2.2.1) ?_
  intro v7 _
  refine ok_cond (fun _ => ?_) (fun _ => ?_)
  · exact s_taskOfStep_57 e5 hk q2 ⟨by decide, by decide, .inr lm⟩ hn
  · have b := q2.2.2.2.1.tok
    refine ok_ldJc (by omega) (by omega) (fun v9 => ?_)
    have x5 : P2 37 5 = d := by rw [q2.1]; exact e5
    rw [x5]
    refine ok_chk hk ?_
    refine ok_call (s_find_v2 (by omega)) ?_
    intro v11 p11
    refine s_taskOfStep_57 e5 hk q2 ⟨p11.1, by omega, ?_⟩ hn
    have := p11.2.1
    rw [q2.dd hd 16] at this
    exact this
theorem s_readStep_107 {x1 x2 x3 x4 x5 x6 x7 : Int32} (e5 : P 37 5 = d) (hk : c_kind d = 6) (V : RVc d F0 F A0 A) (h1 : -1 ≤ x1.toInt ∧ x1.toInt ≤ 5 ∧ (x1.toInt < cf F d 16 ∨ x1.toInt = -1)) (h6 : -2 ≤ x6.toInt ∧ x6.toInt ≤ 5) (hc : cf F 37 10 ≠ 0 ∨ x1.toInt < 0 ∨ ci A d 5 x1.toInt < 6) (h7 : cf F 37 10 ≠ 0 ∨ cf F 37 12 ≠ 0 ∨ x1.toInt < 0 ∨ x7.toInt ≤ 5) : ok (e_Reader_readStep_107 n P F A J x1 x2 x3 x4 x5 x6 x7) (RXc P d F0 A0) := by
  have l0 : (0 : Int32).toInt = 0 := by decide
  have l1 : (1 : Int32).toInt = 1 := by decide
  have hd := kd37 hk
  have h3 := kd3 hk
  unfold e_Reader_readStep_107
  refine ok_call (s_take V.1) ?_
  rintro ⟨v, P5, F5, A5, J5⟩ ⟨q5, w5⟩
  dsimp only at q5 w5 ⊢
  have V5 := V.q hd q5
  have ea : A5 = A := q5.2.1
  subst ea
  refine ok_cond (fun _ => ok_some ⟨q5.1, V5⟩) (fun c => ?_)
  rw [i_neq, l0] at c
  refine ok_cond (fun _ => ok_some ⟨q5.1, V5⟩) (fun c1 => ?_)
  rw [i_nlt] at c1
  have z5 : cf F5 37 10 = 0 := by omega
  have z0 : cf F 37 10 = 0 := by omega
  have cnt : ci A5 d 5 x1.toInt < 6 := by omega
  have p5 : P5 37 5 = d := by rw [q5.1]; exact e5
  rw [p5]
  refine ok_chk hk ?_
  refine ok_ldc V5.1 hk (by omega) (by omega) ?_
  intro v61 v61e v61r
  change 0 ≤ v61.toInt ∧ v61.toInt ≤ 6 at v61r
  have m := i_mulR (c := 6) (k := 6) (x := x1) (by decide) (by omega) (by omega)
  have a := i_add (x := x1 * 6) (y := v61) (by omega) (by omega)
  refine ok_chk hk ?_
  refine ok_cst (by omega) (by omega) ?_
  intro B1 U1
  refine ok_chk hk ?_
  refine ok_cst (by omega) (by omega) ?_
  intro B2 U2
  refine ok_chk hk ?_
  refine ok_cst (by omega) (by omega) ?_
  intro B3 U3
  refine ok_chk hk ?_
  refine ok_cst (by omega) (by omega) ?_
  intro B4 U4
  refine ok_chk hk ?_
  refine ok_cst (by omega) (by omega) ?_
  intro B5 U5
  refine ok_chk hk ?_
  refine ok_cst (by omega) (by omega) ?_
  intro B6 U6
  refine ok_chk hk ?_
  have R6 : Rc F5 B6 := (((((V5.1.st U1 (hrow hk 6 _ trivial)).st U2 (hrow hk 7 _ trivial)).st U3 (hrow hk 8 _ trivial)).st U4 (hrow hk 9 _ trivial)).st U5 (hrow hk 10 _ h6)).st U6 (hrow hk 11 _ trivial)
  have b5 : B6 d 5 = A5 d 5 := (U6.2.2 d 5 (by simp)).trans ((U5.2.2 d 5 (by simp)).trans ((U4.2.2 d 5 (by simp)).trans ((U3.2.2 d 5 (by simp)).trans ((U2.2.2 d 5 (by simp)).trans (U1.2.2 d 5 (by simp))))))
  have b11 : B5 d 11 = A5 d 11 := (U5.2.2 d 11 (by simp)).trans ((U4.2.2 d 11 (by simp)).trans ((U3.2.2 d 11 (by simp)).trans ((U2.2.2 d 11 (by simp)).trans (U1.2.2 d 11 (by simp)))))
  refine ok_ldc R6 hk (by omega) (by omega) ?_
  intro v75 v75e _
  rw [ci_fr b5] at v75e
  have e := i_add (x := v75) (y := 1) (by omega) (by omega)
  refine ok_cst (by omega) (by omega) ?_
  intro B7 U7
  have R7 : Rc F5 B7 := R6.st U7 (hrow hk 5 _ (show 0 ≤ (v75 + 1).toInt ∧ (v75 + 1).toInt ≤ 6 by omega))
  have oth : ∀ r o, ¬ (r = d ∧ (o = 5 ∨ o = 6 ∨ o = 7 ∨ o = 8 ∨ o = 9 ∨ o = 10 ∨ o = 11)) → B7 r o = A5 r o := fun r o h => (U7.2.2 r o (by omega)).trans ((U6.2.2 r o (by omega)).trans ((U5.2.2 r o (by omega)).trans ((U4.2.2 r o (by omega)).trans ((U3.2.2 r o (by omega)).trans ((U2.2.2 r o (by omega)).trans (U1.2.2 r o (by omega)))))))
  have n5 : ∀ j, 0 ≤ j → j ≠ x1.toInt → ci B7 d 5 j = ci A5 d 5 j := fun j a b => by rw [U7.2.1 j a b, ci_fr b5]
  have s5 : ci B7 d 5 x1.toInt = ci A5 d 5 x1.toInt + 1 := by rw [U7.1]; omega
  have t16 : F5 d 16 = F d 16 := q5.dd hd 16
  suffices V6 : RVc d F0 F5 A0 B7 from ok_some ⟨q5.1, V6⟩
  refine V5.up hd R7 (fun _ _ _ _ => rfl) (fun r o a _ => oth r o (fun h => a h.1)) (fun t p r => ?_) rfl ?_
  · have p' : (F5 d 16).toInt ≤ t := p
    rw [t16] at p'
    have g1 := h1.2.2
    unfold cf at g1
    have rh := V.1.h hk
    rw [n5 t (by omega) (by omega)]
    exact V5.2.2.1 t p r
  · have h7' : cf F5 37 12 ≠ 0 ∨ x7.toInt ≤ 5 := by
      rcases h7 with h | h | h | h
      · exact absurd z0 h
      · exact .inl (q5.2.2.2.2.2.2 h)
      · omega
      · exact .inr h
    refine .inr (h7'.imp id (fun hh D => ?_))
    obtain ⟨d1, d2, d3, d4, d5, d6, d7⟩ := D
    refine ⟨?_, ?_, ?_, fun t s t0 t1 s0 s1 => ?_, ?_, d6, fun mm m0 m1 => ?_⟩
    · rw [ci_fr (oth d 1 (by simp)), ci_fr (oth d 2 (by simp))]; exact d1
    · rw [ci_fr (oth d 12 (by simp))]; exact d2
    · rw [ci_fr (oth d 4 (by simp))]; exact d3
    · have c11 : ci B7 d 11 = ci B6 d 11 := ci_fr (U7.2.2 d 11 (by simp))
      rw [c11]
      have idx : (x1 * 6 + v61).toInt = x1.toInt * 6 + v61.toInt := by omega
      rw [idx] at U6
      by_cases e1 : t = x1.toInt
      · subst e1
        rw [s5] at s1
        by_cases e2 : s = v61.toInt
        · rw [e2, U6.1]; exact hh
        · rw [U6.2.1 _ (by omega) (by omega), ci_fr b11]
          exact d4 _ s t0 t1 s0 (by omega)
      · rw [n5 t t0 e1] at s1
        have g6 : ci A5 d 5 t ≤ 6 := by
          have := V5.1.2 d 5 t t0
          rw [hk] at this
          exact this.2
        rw [U6.2.1 _ (by omega) (by omega), ci_fr b11]
        exact d4 t s t0 t1 s0 s1
    · unfold CVc
      rw [ci_fr (oth d 15 (by simp)), ci_fr (oth d 16 (by simp))]
      exact d5
    · rw [ci_fr (oth 3 3 (fun h => h3 h.1.symm))]
      rcases d7 mm m0 m1 with z | ⟨z1, z2, z3⟩
      · exact .inl z
      · refine .inr ⟨z1, z2, ?_⟩
        by_cases e1 : ci A5 3 3 mm / 6 = x1.toInt
        · rw [e1, s5]
          rw [e1] at z3
          omega
        · rw [n5 _ (by omega) e1]
          exact z3
theorem s_readStep (e5 : P 37 5 = d) (hk : c_kind d = 6) (V : RVc d F0 F A0 A) (hn : 20 ≤ n) : ok (e_Reader_readStep n P F A J) (RXc P d F0 A0) := by
  have l0 : (0 : Int32).toInt = 0 := by decide
  have lm2 : (-2 : Int32).toInt = -2 := by decide
  have hd := kd37 hk
  have rh := V.1.h hk
  unfold e_Reader_readStep
  refine ok_call (s_taskOfStep e5 hk V.1 hn) ?_
  rintro ⟨v1, P1, F1, A1, J1⟩ ⟨q1, a1, b1, c1, d1⟩
  dsimp only at q1 a1 b1 c1 d1 ⊢
  refine ok_call (s_takeNumber q1.2.2.2.1) ?_
  rintro ⟨v6, P2, F2, A2, J2⟩ ⟨q2, -⟩
  dsimp only at q2 ⊢
  refine ok_call (s_takeNumber q2.2.2.2.1) ?_
  rintro ⟨v11, P3, F3, A3, J3⟩ ⟨q3, -⟩
  dsimp only at q3 ⊢
  refine ok_call (s_takeNumber q3.2.2.2.1) ?_
  rintro ⟨v16, P4, F4, A4, J4⟩ ⟨q4, -⟩
  dsimp only at q4 ⊢
  refine ok_call (s_takeNumber q4.2.2.2.1) ?_
  rintro ⟨v21, P5, F5, A5, J5⟩ ⟨q5, -⟩
  dsimp only at q5 ⊢
  have qb := ((q2.tr q3).tr q4).tr q5
  -- the end, whatever quiet calls come between
  have last : ∀ {P7 F7 A7 J7} {x6 x7 : Int32}, QRc P1 P7 F1 F7 A1 A7 → -2 ≤ x6.toInt ∧ x6.toInt ≤ 5 → (cf F7 37 10 ≠ 0 ∨ cf F7 37 12 ≠ 0 ∨ v1.toInt < 0 ∨ x7.toInt ≤ 5) → ok (e_Reader_readStep_107 n P7 F7 A7 J7 v1 v6 v11 v16 v21 x6 x7) (RXc P d F0 A0) := by
    intro P7 F7 A7 J7 x6 x7 q7 h6 h7
    have qz := q1.tr q7
    have ep : P7 = P := qz.1
    subst ep
    refine s_readStep_107 e5 hk (V.q hd qz) ⟨a1, b1, by unfold cf at c1 ⊢; rw [qz.dd hd 16]; exact c1⟩ h6 ?_ h7
    rw [qz.2.1]
    rcases d1 with h | h | h
    · exact .inl (q7.2.2.2.2.2.1 h)
    · exact .inr (.inl h)
    · exact .inr (.inr h)
  have f78 : ∀ {P6 F6 A6 J6} {x6 : Int32}, QRc P1 P6 F1 F6 A1 A6 → -2 ≤ x6.toInt ∧ x6.toInt ≤ 5 → ok (e_Reader_readStep_78 n P6 F6 A6 J6 v1 v6 v11 v16 v21 x6) (RXc P d F0 A0) := by
    intro P6 F6 A6 J6 x6 q6 h6
    unfold e_Reader_readStep_78
    refine ok_call (s_isNext q6.2.2.2.1) ?_
    intro v40 _
    refine ok_cond (fun _ => last q6 h6 (.inr (.inr (.inr (by rw [lm2]; decide))))) (fun _ => ?_)
    refine ok_call (s_take q6.2.2.2.1) ?_
    rintro ⟨v42, P7, F7, A7, J7⟩ ⟨q7, -⟩
    dsimp only at q7 ⊢
    refine ok_cond (fun _ => last (q6.tr q7) h6 (.inr (.inr (.inr (by rw [lm2]; decide))))) (fun _ => ?_)
    have q17 := q1.tr (q6.tr q7)
    have x5 : P7 37 5 = d := by rw [q17.1]; exact e5
    refine ok_call (s_takeStepNumber x5 hk q7.2.2.2.1 b1) ?_
    rintro ⟨v48, P8, F8, A8, J8⟩ ⟨q8, w8⟩
    dsimp only at q8 w8 ⊢
    refine last ((q6.tr q7).tr q8) h6 ?_
    rcases w8 with h | h | h | h
    · exact .inl h
    · exact .inr (.inl h)
    · exact .inr (.inr (.inl h))
    · by_cases z : v1.toInt < 0
      · exact .inr (.inr (.inl z))
      · have g6 : ci A7 d 5 v1.toInt ≤ 6 := by
          have := q7.2.2.2.1.2 d 5 v1.toInt (by omega)
          rw [hk] at this
          exact this.2
        exact .inr (.inr (.inr (by omega)))
  refine ok_call (s_isNext q5.2.2.2.1) ?_
  intro v26 _
  refine ok_cond (fun _ => f78 qb (by decide)) (fun _ => ?_)
  refine ok_call (s_take q5.2.2.2.1) ?_
  rintro ⟨v28, P6, F6, A6, J6⟩ ⟨q6, -⟩
  dsimp only at q6 ⊢
  refine ok_cond (fun _ => f78 (qb.tr q6) (by decide)) (fun _ => ?_)
  have x5 : P6 37 5 = d := by rw [(q1.tr (qb.tr q6)).1]; exact e5
  rw [x5]
  refine ok_chk hk ?_
  refine ok_call (s_known_v2 q6.2.2.2.1 (by omega)) ?_
  rintro ⟨v35, P7, F7, A7, J7⟩ ⟨q7, a7, b7, c7, d7⟩
  dsimp only at q7 a7 b7 c7 d7 ⊢
  exact f78 ((qb.tr q6).tr q7) ⟨by omega, by omega⟩
theorem s_readMan_92 {x1 x2 : Int32} (e5 : P 37 5 = d) (e6 : P 37 6 = 3) (hk : c_kind d = 6) (V : RVc d F0 F A0 A) (h1 : -1 ≤ x1.toInt ∧ x1.toInt ≤ 7) (hc : cf F 37 10 ≠ 0 ∨ cf F d 17 < 6) (hv : cf F 37 10 ≠ 0 ∨ cf F 37 12 ≠ 0 ∨ (0 ≤ x1.toInt ∧ LVx A d x2.toInt)) : ok (e_Reader_readMan_92 n P F A J x1 x2) (RXc P d F0 A0) := by
  have l0 : (0 : Int32).toInt = 0 := by decide
  have l1 : (1 : Int32).toInt = 1 := by decide
  have hd := kd37 hk
  have h3 := kd3 hk
  unfold e_Reader_readMan_92
  refine ok_call (s_take V.1) ?_
  rintro ⟨v, P5, F5, A5, J5⟩ ⟨q5, w5⟩
  dsimp only at q5 w5 ⊢
  have V5 := V.q hd q5
  have ea : A5 = A := q5.2.1
  subst ea
  refine ok_cond (fun _ => ok_some ⟨q5.1, V5⟩) (fun c => ?_)
  rw [i_neq, l0] at c
  have z5 : cf F5 37 10 = 0 := by omega
  have z0 : cf F 37 10 = 0 := by omega
  have k17 := q5.dd hd 17
  have rh := V5.1.h hk
  have lt : (F5 d 17).toInt < 6 := by
    rw [k17]
    rcases hc with h | h
    · exact absurd z0 h
    · exact h
  have hv5 : cf F5 37 12 ≠ 0 ∨ (0 ≤ x1.toInt ∧ LVx A5 d x2.toInt) := by
    rcases hv with h | h | h
    · exact absurd z0 h
    · exact .inl (q5.2.2.2.2.2.2 h)
    · exact .inr h
  have p5 : P5 37 5 = d := by rw [q5.1]; exact e5
  have p6 : P5 37 6 = 3 := by rw [q5.1]; exact e6
  rw [p5, p6]
  refine ok_chk hk ?_
  refine ok_chk hk ?_
  refine ok_cst (by omega) (by omega) ?_
  intro A6 U6
  refine ok_chk (by decide) ?_
  refine ok_chk hk ?_
  refine ok_cst (by omega) (by omega) ?_
  intro A7 U7
  refine ok_chk hk ?_
  refine ok_cpf ?_
  intro F8 U8
  have e := i_add (x := F5 d 17) (y := 1) (by omega) (by omega)
  have k8 : (F8 d 17).toInt = (F5 d 17).toInt + 1 := by rw [U8.1]; omega
  have fd : ∀ k, k ≠ 17 → F8 d k = F5 d k := fun k hkk => U8.2 d k (fun h => hkk h.2)
  have ad : ∀ o, o ≠ 12 → A7 d o = A5 d o := fun o a => (U7.2.2 d o (fun h => h3 h.1)).trans (U6.2.2 d o (fun h => a h.2))
  have a3 : A6 3 3 = A5 3 3 := U6.2.2 3 3 (fun h => h3 h.1.symm)
  have R8 : Rc F8 A7 := ((V5.1.st U6 (hrow hk 12 _ h1)).st U7 trivial).pf U8 (by rw [hk]; exact (show 0 ≤ (F5 d 17 + 1).toInt ∧ (F5 d 17 + 1).toInt ≤ 6 by omega))
  suffices V6 : RVc d F0 F8 A0 A7 from ok_some ⟨q5.1, V6⟩
  refine V5.up hd R8 (fun r k a _ => U8.2 r k (fun h => a h.1)) (fun r o a b => (U7.2.2 r o (fun h => b h.1)).trans (U6.2.2 r o (fun h => a h.1))) (by unfold cf; rw [fd 16 (by decide), ci_fr (ad 5 (by decide))]; exact V5.2.2.1) (fd 1304 (by decide)) (.inr (hv5.imp id (fun hh D => ?_)))
  obtain ⟨d1, d2, d3, d4, d5, d6, d7⟩ := D
  refine ⟨?_, fun m p r => ?_, ?_, ?_, ?_, ?_, fun m m0 m1 => ?_⟩
  · unfold cf
    rw [fd 14 (by decide), ci_fr (ad 1 (by decide)), ci_fr (ad 2 (by decide))]
    exact d1
  · have r' : m < (F8 d 17).toInt := r
    rw [ci_fr (U7.2.2 d 12 (fun h => h3 h.1))]
    by_cases z : m = (F5 d 17).toInt
    · rw [z, U6.1]; exact hh.1
    · rw [U6.2.1 m p z]
      exact d2 m p (by unfold cf; omega)
  · unfold cf
    rw [fd 16 (by decide), ci_fr (ad 4 (by decide))]
    exact d3
  · rw [ci_fr (ad 5 (by decide)), ci_fr (ad 11 (by decide))]
    exact d4
  · unfold CVc cf
    rw [fd 1304 (by decide), ci_fr (ad 15 (by decide)), ci_fr (ad 16 (by decide))]
    exact d5
  · unfold cf
    rw [fd 18 (by decide)]
    exact d6
  · by_cases z : m = (F5 d 17).toInt
    · rw [z, U7.1]
      exact hh.2.cg (ad 5 (by decide))
    · rw [U7.2.1 m m0 z, ci_fr a3]
      exact (d7 m m0 m1).cg (ad 5 (by decide))
theorem s_readMan (e5 : P 37 5 = d) (e6 : P 37 6 = 3) (hk : c_kind d = 6) (V : RVc d F0 F A0 A) (hn : 20 ≤ n) : ok (e_Reader_readMan n P F A J) (RXc P d F0 A0) := by
  have l0 : (0 : Int32).toInt = 0 := by decide
  have l6 : (6 : Int32).toInt = 6 := by decide
  have lm : (-1 : Int32).toInt = -1 := by decide
  have hd := kd37 hk
  have rh := V.1.h hk
  unfold e_Reader_readMan
  rw [e5]
  refine ok_chk hk ?_
  refine ok_call (s_takeFirst V.1) ?_
  rintro ⟨u2, P2, F2, A2, J2⟩ ⟨q2, w2⟩
  dsimp only at q2 w2 ⊢
  have e5' : P2 37 5 = d := by rw [q2.1]; exact e5
  rw [e5']
  refine ok_chk hk ?_
  have k2 := q2.dd hd 17
  refine ok_call (s_newName_v3 e5' hk q2.2.2.2.1 (by rw [k2]; omega) (by omega)) ?_
  rintro ⟨u3, P3, F3, A3, J3⟩ q3
  dsimp only at q3 ⊢
  have e5'' : P3 37 5 = d := by rw [(q2.tr q3).1]; exact e5
  rw [e5'']
  refine ok_chk hk ?_
  refine ok_call (s_known q3.2.2.2.1 (by omega)) ?_
  rintro ⟨v14, P4, F4, A4, J4⟩ ⟨q4, a4, b4, c4, d4⟩
  dsimp only at q4 a4 b4 c4 d4 ⊢
  have qa := (q2.tr q3).tr q4
  have last : ∀ {P7 F7 A7 J7} {x2 : Int32}, QRc P4 P7 F4 F7 A4 A7 → (cf F7 37 10 ≠ 0 ∨ cf F7 37 12 ≠ 0 ∨ LVx A7 d x2.toInt) → ok (e_Reader_readMan_92 n P7 F7 A7 J7 v14 x2) (RXc P d F0 A0) := by
    intro P7 F7 A7 J7 x2 q7 hx
    have qz := qa.tr q7
    have ep : P7 = P := qz.1
    subst ep
    refine s_readMan_92 e5 e6 hk (V.q hd qz) ⟨a4, by omega⟩ ?_ ?_
    · rcases w2 with h | h
      · exact .inl (q7.2.2.2.2.2.1 (q4.2.2.2.2.2.1 (q3.2.2.2.2.2.1 h)))
      · right
        unfold cf
        rw [qz.dd hd 17]
        omega
    · rcases d4 with h | h | h
      · rcases hx with g | g | g
        · exact .inl g
        · exact .inr (.inl g)
        · exact .inr (.inr ⟨h, g⟩)
      · exact .inl (q7.2.2.2.2.2.1 h)
      · exact .inr (.inl (q7.2.2.2.2.2.2 h))
  refine ok_call (s_isNext q4.2.2.2.1) ?_
  intro v19 _
  refine ok_cond (fun _ => last (QRc.rfl' q4.2.2.2.1) (.inr (.inr (.inl lm)))) (fun _ => ?_)
  refine ok_call (s_take q4.2.2.2.1) ?_
  rintro ⟨v21, P5, F5, A5, J5⟩ ⟨q5, -⟩
  dsimp only at q5 ⊢
  refine ok_cond (fun _ => last q5 (.inr (.inr (.inl lm)))) (fun _ => ?_)
  have x5 : P5 37 5 = d := by rw [(qa.tr q5).1]; exact e5
  rw [x5]
  refine ok_chk hk ?_
  refine ok_call (s_known_v1 q5.2.2.2.1 (by omega)) ?_
  rintro ⟨v28, P6, F6, A6, J6⟩ ⟨q6, a6, b6, c6, d6⟩
  dsimp only at q6 a6 b6 c6 d6 ⊢
  have x5' : P6 37 5 = d := by rw [((qa.tr q5).tr q6).1]; exact e5
  refine ok_call (s_takeStepNumber x5' hk q6.2.2.2.1 c6) ?_
  rintro ⟨v33, P7, F7, A7, J7⟩ ⟨q7, w7⟩
  dsimp only at q7 w7 ⊢
  refine last ((q5.tr q6).tr q7) ?_
  rcases w7 with h | h | h | h
  · exact .inl h
  · exact .inr (.inl h)
  · rcases d6 with g | g | g
    · omega
    · exact .inl (q7.2.2.2.2.2.1 g)
    · exact .inr (.inl (q7.2.2.2.2.2.2 g))
  · rcases d6 with g | g | g
    · have g6 : ci A6 d 5 v28.toInt ≤ 6 := by
        have := q6.2.2.2.1.2 d 5 v28.toInt g
        rw [hk] at this
        exact this.2
      have m := i_mulR (c := 6) (k := 6) (x := v28) (by decide) (by omega) (by omega)
      have a := i_add (x := v28 * 6) (y := v33) (by omega) (by omega)
      refine .inr (.inr (.inr ⟨by omega, by omega, ?_⟩))
      rw [show (v28 * 6 + v33).toInt % 6 = v33.toInt by omega, show (v28 * 6 + v33).toInt / 6 = v28.toInt by omega, q7.2.1]
      exact h.2
    · exact .inl (q7.2.2.2.2.2.1 g)
    · exact .inr (.inl (q7.2.2.2.2.2.2 g))
theorem s_readNight (e5 : P 37 5 = d) (hk : c_kind d = 6) (V : RVc d F0 F A0 A) : ok (e_Reader_readNight P F A J) (RXc P d F0 A0) := by
  have l1 : (1 : Int32).toInt = 1 := by decide
  have l600 : (600 : Int32).toInt = 600 := by decide
  have hd := kd37 hk
  unfold e_Reader_readNight
  refine ok_call (s_take V.1) ?_
  rintro ⟨v1, P2, F2, A2, J2⟩ ⟨q2, -⟩
  dsimp only at q2 ⊢
  have x5 : P2 37 5 = d := by rw [q2.1]; exact e5
  rw [x5]
  refine ok_chk hk ?_
  refine ok_call (s_takeNumber q2.2.2.2.1) ?_
  rintro ⟨v7, P3, F3, A3, J3⟩ ⟨q3, w3⟩
  dsimp only at q3 w3 ⊢
  have qa := q2.tr q3
  have V3 := V.q hd qa
  refine ok_cpf ?_
  intro F4 U4
  have fd : ∀ k, k ≠ 18 → F4 d k = F3 d k := fun k hkk => U4.2 d k (fun h => hkk h.2)
  have V4 : RVc d F0 F4 A0 A3 := by
    refine V3.up hd (V3.1.pf U4 (by rw [hk]; exact trivial)) (fun r k a _ => U4.2 r k (fun h => a h.1)) (fun _ _ _ _ => rfl) (by unfold cf; rw [fd 16 (by decide)]; exact V3.2.2.1) (fd 1304 (by decide)) ?_
    rcases w3 with h | h | h
    · exact .inl h
    · exact .inr (.inl h)
    · refine .inr (.inr (fun D => ?_))
      obtain ⟨d1, d2, d3, d4, d5, d6, d7⟩ := D
      refine ⟨?_, ?_, ?_, d4, ?_, ?_, d7⟩
      · unfold cf
        rw [fd 14 (by decide)]; exact d1
      · unfold cf
        rw [fd 17 (by decide)]; exact d2
      · unfold cf
        rw [fd 16 (by decide)]; exact d3
      · unfold CVc cf
        rw [fd 1304 (by decide)]; exact d5
      · unfold cf
        rw [U4.1]; omega
  refine ok_call (s_take V4.1) ?_
  rintro ⟨v13, P5, F5, A5, J5⟩ ⟨q5, -⟩
  dsimp only at q5 ⊢
  exact ok_some ⟨q5.1.trans qa.1, V4.q hd q5⟩
end R9c
