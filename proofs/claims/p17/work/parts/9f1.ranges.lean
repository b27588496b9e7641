section H9f1
variable {P P' : Nat → Nat → Nat} {F F' F0 : Nat → Nat → Int32} {A A' A0 : Nat → Nat → Nat → Int32} {J : Nat → Nat → Nat → Int64} {n d : Nat}
theorem y_readStep_107 {x1 x2 x3 x4 x5 x6 x7 : Int32} (e5 : P 37 5 = d) (hk : c_kind d = 6) (R : Rc F A) (Y : EVc F A d) (h1 : -1 ≤ x1.toInt ∧ x1.toInt ≤ 5) (hc : cf F 37 10 ≠ 0 ∨ x1.toInt < 0 ∨ ci A d 5 x1.toInt < 6) (hv : cf F 37 10 ≠ 0 ∨ cf F 37 12 ≠ 0 ∨ (x1.toInt < 0 ∨ ((1 ≤ x2.toInt ∧ x2.toInt ≤ 120) ∧ (0 ≤ x3.toInt ∧ x3.toInt ≤ 99) ∧ (0 ≤ x4.toInt ∧ x4.toInt ≤ 99) ∧ (0 ≤ x5.toInt ∧ x5.toInt ≤ 99) ∧ x6.toInt ≤ 5 ∧ x7.toInt ≤ 5 ∧ (x6.toInt = -2 ∨ 0 ≤ x6.toInt) ∧ (x7.toInt = -2 ∨ 0 ≤ x7.toInt)))) : EPo d (e_Reader_readStep_107 n P F A J x1 x2 x3 x4 x5 x6 x7) := by
  have hd := kd37 hk
  have h3 := kd3 hk
  unfold e_Reader_readStep_107
  refine po_call (s_take R).po ?_
  rintro ⟨v, P5, F5, A5, J5⟩ ⟨q5, w5⟩
  dsimp only at q5 w5 ⊢
  have Y5 := Y.q hd q5
  have hv5 := q5.or hv
  have ea : A5 = A := q5.2.1
  subst ea
  refine po_cond (fun _ => po_some Y5) (fun c => ?_)
  refine po_cond (fun _ => po_some Y5) (fun c1 => ?_)
  rw [i_neq, i_0] at c
  rw [i_nlt, i_0] at c1
  have z5 : cf F5 37 10 = 0 := by omega
  have cnt : ci A5 d 5 x1.toInt < 6 := by
    rcases hc with h | h | h
    · exact absurd z5 (q5.2.2.2.2.2.1 h)
    · omega
    · exact h
  have p5 : P5 37 5 = d := by rw [q5.1]; exact e5
  rw [p5]
  refine po_bl (fun _ h => ?_)
  obtain rfl := (gg_chk h).2.symm
  refine po_bl (fun v61 h61 => po_bl (fun _ h => ?_))
  obtain rfl := (gg_chk h).2.symm
  refine po_bl (fun B1 k1 => po_bl (fun _ h => ?_))
  obtain rfl := (gg_chk h).2.symm
  refine po_bl (fun B2 k2 => po_bl (fun _ h => ?_))
  obtain rfl := (gg_chk h).2.symm
  refine po_bl (fun B3 k3 => po_bl (fun _ h => ?_))
  obtain rfl := (gg_chk h).2.symm
  refine po_bl (fun B4 k4 => po_bl (fun _ h => ?_))
  obtain rfl := (gg_chk h).2.symm
  refine po_bl (fun B5 k5 => po_bl (fun _ h => ?_))
  obtain rfl := (gg_chk h).2.symm
  refine po_bl (fun B6 k6 => po_bl (fun _ h => ?_))
  obtain rfl := (gg_chk h).2.symm
  refine po_bl (fun v75 h75 => po_bl (fun B7 k7 => po_some ?_))
  have g61 := (gl h61).2.2
  have g75 := (gl h75).2.2
  have U1 := (gg_cst k1).2.2
  have U2 := (gg_cst k2).2.2
  have U3 := (gg_cst k3).2.2
  have U4 := (gg_cst k4).2.2
  have U5 := (gg_cst k5).2.2
  have U6 := (gg_cst k6).2.2
  have U7 := (gg_cst k7).2.2
  have g0 : 0 ≤ ci A5 d 5 x1.toInt := by
    have := R.2 d 5 x1.toInt c1
    rw [hk] at this
    exact this.1
  have gle : ∀ t, 0 ≤ t → ci A5 d 5 t ≤ 6 := fun t t0 => by
    have := R.2 d 5 t t0
    rw [hk] at this
    exact this.2
  have ic := cx6 (x := x1) (y := v61) (by omega) (by omega)
  rw [ic, g61] at U1 U2 U3 U4 U5 U6
  have b5 : B6 d 5 = A5 d 5 := (U6.2.2 d 5 (by simp)).trans ((U5.2.2 d 5 (by simp)).trans ((U4.2.2 d 5 (by simp)).trans ((U3.2.2 d 5 (by simp)).trans ((U2.2.2 d 5 (by simp)).trans (U1.2.2 d 5 (by simp))))))
  rw [ci_fr b5] at g75
  have e75 := i_p1 (x := v75) (by omega)
  rw [e75, g75] at U7
  have oth : ∀ r o, ¬ (r = d ∧ (o = 5 ∨ o = 6 ∨ o = 7 ∨ o = 8 ∨ o = 9 ∨ o = 10 ∨ o = 11)) → B7 r o = A5 r o := fun r o h => (U7.2.2 r o (by omega)).trans ((U6.2.2 r o (by omega)).trans ((U5.2.2 r o (by omega)).trans ((U4.2.2 r o (by omega)).trans ((U3.2.2 r o (by omega)).trans ((U2.2.2 r o (by omega)).trans (U1.2.2 r o (by omega)))))))
  show EVc F5 B7 d
  refine (or_and3 Y5 hv5).imp id (fun h => h.imp id (fun h => ?_))
  obtain ⟨⟨y1, y2, y3, y4, y5⟩, hv⟩ := h
  obtain ⟨v2, v3, v4, v5, v6, v7⟩ := hv.resolve_left (by omega)
  unfold EYc
  rw [ci_fr (oth d 1 (by simp)), ci_fr (oth d 2 (by simp)), ci_fr (oth d 3 (by simp)), ci_fr (oth d 4 (by simp)), ci_fr (oth d 12 (by simp)), ci_fr (oth 3 2 (fun h => h3 h.1.symm))]
  refine ⟨y1, y2, fun t u t0 t1 u0 u1 => ?_, y4, y5.cg rfl (oth 3 2 (fun h => h3 h.1.symm))⟩
  have s6 : ci B7 d 6 = ci B1 d 6 := by rw [ci_fr (U7.2.2 d 6 (by simp)), ci_fr (U6.2.2 d 6 (by simp)), ci_fr (U5.2.2 d 6 (by simp)), ci_fr (U4.2.2 d 6 (by simp)), ci_fr (U3.2.2 d 6 (by simp)), ci_fr (U2.2.2 d 6 (by simp))]
  have s7 : ci B7 d 7 = ci B2 d 7 := by rw [ci_fr (U7.2.2 d 7 (by simp)), ci_fr (U6.2.2 d 7 (by simp)), ci_fr (U5.2.2 d 7 (by simp)), ci_fr (U4.2.2 d 7 (by simp)), ci_fr (U3.2.2 d 7 (by simp))]
  have s8 : ci B7 d 8 = ci B3 d 8 := by rw [ci_fr (U7.2.2 d 8 (by simp)), ci_fr (U6.2.2 d 8 (by simp)), ci_fr (U5.2.2 d 8 (by simp)), ci_fr (U4.2.2 d 8 (by simp))]
  have s9 : ci B7 d 9 = ci B4 d 9 := by rw [ci_fr (U7.2.2 d 9 (by simp)), ci_fr (U6.2.2 d 9 (by simp)), ci_fr (U5.2.2 d 9 (by simp))]
  have s10 : ci B7 d 10 = ci B5 d 10 := by rw [ci_fr (U7.2.2 d 10 (by simp)), ci_fr (U6.2.2 d 10 (by simp))]
  have s11 : ci B7 d 11 = ci B6 d 11 := by rw [ci_fr (U7.2.2 d 11 (by simp))]
  have p7 : ci B1 d 7 = ci A5 d 7 := ci_fr (U1.2.2 d 7 (by simp))
  have p8 : ci B2 d 8 = ci A5 d 8 := by rw [ci_fr (U2.2.2 d 8 (by simp)), ci_fr (U1.2.2 d 8 (by simp))]
  have p9 : ci B3 d 9 = ci A5 d 9 := by rw [ci_fr (U3.2.2 d 9 (by simp)), ci_fr (U2.2.2 d 9 (by simp)), ci_fr (U1.2.2 d 9 (by simp))]
  have p10 : ci B4 d 10 = ci A5 d 10 := by rw [ci_fr (U4.2.2 d 10 (by simp)), ci_fr (U3.2.2 d 10 (by simp)), ci_fr (U2.2.2 d 10 (by simp)), ci_fr (U1.2.2 d 10 (by simp))]
  have p11 : ci B5 d 11 = ci A5 d 11 := by rw [ci_fr (U5.2.2 d 11 (by simp)), ci_fr (U4.2.2 d 11 (by simp)), ci_fr (U3.2.2 d 11 (by simp)), ci_fr (U2.2.2 d 11 (by simp)), ci_fr (U1.2.2 d 11 (by simp))]
  rw [s6, s7, s8, s9, s10, s11]
  have lt5 : t = x1.toInt ∧ u = ci A5 d 5 x1.toInt ∨ (t * 6 + u ≠ x1.toInt * 6 + ci A5 d 5 x1.toInt ∧ u < ci A5 d 5 t) := by
    by_cases e1 : t = x1.toInt
    · subst e1
      rw [U7.1] at u1
      by_cases e2 : u = ci A5 d 5 x1.toInt
      · exact .inl ⟨rfl, e2⟩
      · exact .inr ⟨by omega, by omega⟩
    · rw [U7.2.1 t t0 e1, ci_fr b5] at u1
      have := gle t t0
      exact .inr ⟨by omega, u1⟩
  rcases lt5 with ⟨rfl, rfl⟩ | ⟨ne, lt⟩
  · rw [U1.1, U2.1, U3.1, U4.1, U5.1, U6.1]
    exact ⟨v2, v3, v4, v5, v6, v7⟩
  · have i0 : 0 ≤ t * 6 + u := by omega
    rw [U1.2.1 _ i0 ne, U2.2.1 _ i0 ne, U3.2.1 _ i0 ne, U4.2.1 _ i0 ne, U5.2.1 _ i0 ne, U6.2.1 _ i0 ne, p7, p8, p9, p10, p11]
    exact y3 t u t0 t1 u0 lt
theorem y_readStep (e5 : P 37 5 = d) (hk : c_kind d = 6) (R : Rc F A) (Y : EVc F A d) (hn : 20 ≤ n) : EPo d (e_Reader_readStep n P F A J) := by
  have lm2 : (-2 : Int32).toInt = -2 := by decide
  have l99 : (99 : Int32).toInt = 99 := by decide
  have l120 : (120 : Int32).toInt = 120 := by decide
  have hd := kd37 hk
  unfold e_Reader_readStep
  refine po_call (s_taskOfStep e5 hk R hn).po ?_
  rintro ⟨v1, P1, F1, A1, J1⟩ ⟨q1, a1, b1, c1, d1⟩
  dsimp only at q1 a1 b1 c1 d1 ⊢
  refine po_call (s_takeNumber q1.2.2.2.1).po ?_
  rintro ⟨v6, P2, F2, A2, J2⟩ ⟨q2, w2⟩
  dsimp only at q2 w2 ⊢
  refine po_call (s_takeNumber q2.2.2.2.1).po ?_
  rintro ⟨v11, P3, F3, A3, J3⟩ ⟨q3, w3⟩
  dsimp only at q3 w3 ⊢
  refine po_call (s_takeNumber q3.2.2.2.1).po ?_
  rintro ⟨v16, P4, F4, A4, J4⟩ ⟨q4, w4⟩
  dsimp only at q4 w4 ⊢
  refine po_call (s_takeNumber q4.2.2.2.1).po ?_
  rintro ⟨v21, P5, F5, A5, J5⟩ ⟨q5, w5⟩
  dsimp only at q5 w5 ⊢
  rw [i_1, l120] at w2
  rw [i_0, l99] at w3 w4 w5
  have qb := ((q2.tr q3).tr q4).tr q5
  have ww := or_and3 (((q3.tr q4).tr q5).or w2) (or_and3 ((q4.tr q5).or w3) (or_and3 (q5.or w4) w5))
  have last : ∀ {P7 F7 A7 J7} {x6 x7 : Int32}, QRc P5 P7 F5 F7 A5 A7 → (cf F7 37 10 ≠ 0 ∨ cf F7 37 12 ≠ 0 ∨ (v1.toInt < 0 ∨ (x6.toInt ≤ 5 ∧ (x6.toInt = -2 ∨ 0 ≤ x6.toInt)))) → (cf F7 37 10 ≠ 0 ∨ cf F7 37 12 ≠ 0 ∨ (v1.toInt < 0 ∨ (x7.toInt ≤ 5 ∧ (x7.toInt = -2 ∨ 0 ≤ x7.toInt)))) → EPo d (e_Reader_readStep_107 n P7 F7 A7 J7 v1 v6 v11 v16 v21 x6 x7) := by
    intro P7 F7 A7 J7 x6 x7 q7 h6 h7
    have q17 := qb.tr q7
    have qz := q1.tr q17
    have ep : P7 = P := qz.1
    subst ep
    refine y_readStep_107 e5 hk qz.2.2.2.1 (Y.q hd qz) ⟨a1, b1⟩ ?_ ?_
    · rw [q17.2.1, q1.2.1]
      rcases d1 with h | h | h
      · exact .inl (q17.2.2.2.2.2.1 h)
      · exact .inr (.inl h)
      · exact .inr (.inr h)
    · refine (or_and3 (q7.or ww) (or_and3 h6 h7)).imp id (fun h => h.imp id (fun h => ?_))
      obtain ⟨⟨g1, g2, g3, g4⟩, g5, g6⟩ := h
      by_cases e : v1.toInt < 0
      · exact .inl e
      · exact .inr ⟨g1, g2, g3, g4, (g5.resolve_left e).1, (g6.resolve_left e).1, (g5.resolve_left e).2, (g6.resolve_left e).2⟩
  have f78 : ∀ {P6 F6 A6 J6} {x6 : Int32}, QRc P5 P6 F5 F6 A5 A6 → (cf F6 37 10 ≠ 0 ∨ cf F6 37 12 ≠ 0 ∨ (v1.toInt < 0 ∨ (x6.toInt ≤ 5 ∧ (x6.toInt = -2 ∨ 0 ≤ x6.toInt)))) → EPo d (e_Reader_readStep_78 n P6 F6 A6 J6 v1 v6 v11 v16 v21 x6) := by
    intro P6 F6 A6 J6 x6 q6 h6
    unfold e_Reader_readStep_78
    refine po_call (s_isNext q6.2.2.2.1).po (fun v40 _ => ?_)
    refine po_cond (fun _ => last q6 h6 (.inr (.inr (.inr (by rw [lm2]; decide))))) (fun _ => ?_)
    refine po_call (s_take q6.2.2.2.1).po ?_
    rintro ⟨v42, P7, F7, A7, J7⟩ ⟨q7, -⟩
    dsimp only at q7 ⊢
    refine po_cond (fun _ => last (q6.tr q7) (q7.or h6) (.inr (.inr (.inr (by rw [lm2]; decide))))) (fun _ => ?_)
    have q17 := (q1.tr qb).tr (q6.tr q7)
    have x5 : P7 37 5 = d := by rw [q17.1]; exact e5
    refine po_call (s_takeStepNumber x5 hk q7.2.2.2.1 b1).po ?_
    rintro ⟨v48, P8, F8, A8, J8⟩ ⟨q8, w8⟩
    dsimp only at q8 w8 ⊢
    refine last ((q6.tr q7).tr q8) ((q7.tr q8).or h6) ?_
    refine w8.imp id (fun h => h.imp id (fun h => ?_))
    by_cases z : v1.toInt < 0
    · exact .inl z
    · have g6 : ci A7 d 5 v1.toInt ≤ 6 := by
        have := q7.2.2.2.1.2 d 5 v1.toInt (by omega)
        rw [hk] at this
        exact this.2
      rcases h with h | h
      · exact .inl h
      · exact .inr ⟨by omega, by omega⟩
  refine po_call (s_isNext q5.2.2.2.1).po (fun v26 _ => ?_)
  refine po_cond (fun _ => f78 (QRc.rfl' q5.2.2.2.1) (.inr (.inr (.inr (by rw [lm2]; decide))))) (fun _ => ?_)
  refine po_call (s_take q5.2.2.2.1).po ?_
  rintro ⟨v28, P6, F6, A6, J6⟩ ⟨q6, -⟩
  dsimp only at q6 ⊢
  refine po_cond (fun _ => f78 q6 (.inr (.inr (.inr (by rw [lm2]; decide))))) (fun _ => ?_)
  refine po_bl (fun _ h => ?_)
  obtain rfl := (gg_chk h).2.symm
  refine po_call (s_known_v2 q6.2.2.2.1 (by omega)).po ?_
  rintro ⟨v35, P7, F7, A7, J7⟩ ⟨q7, a7, b7, c7, d7⟩
  dsimp only at q7 a7 b7 c7 d7 ⊢
  exact f78 (q6.tr q7) (d7.elim (fun h => .inr (.inr (.inr ⟨c7, .inr h⟩))) (fun h => h.imp id .inl))
theorem y_readMan_92 {x1 x2 : Int32} (e5 : P 37 5 = d) (e6 : P 37 6 = 3) (hk : c_kind d = 6) (R : Rc F A) (Y : EVc F A d) (hv : cf F 37 10 ≠ 0 ∨ cf F 37 12 ≠ 0 ∨ (0 ≤ x1.toInt ∧ x1.toInt < (F d 13).toInt)) : EPo d (e_Reader_readMan_92 n P F A J x1 x2) := by
  have hd := kd37 hk
  have h3 := kd3 hk
  unfold e_Reader_readMan_92
  refine po_call (s_take R).po ?_
  rintro ⟨v, P5, F5, A5, J5⟩ ⟨q5, w5⟩
  dsimp only at q5 w5 ⊢
  have Y5 := Y.q hd q5
  have hv5 := q5.or hv
  refine po_cond (fun _ => po_some Y5) (fun c => ?_)
  have x5 : P5 37 5 = d := by rw [q5.1]; exact e5
  have x6 : P5 37 6 = 3 := by rw [q5.1]; exact e6
  rw [x5, x6]
  refine po_bl (fun _ h => ?_)
  obtain rfl := (gg_chk h).2.symm
  refine po_bl (fun _ h => ?_)
  obtain rfl := (gg_chk h).2.symm
  refine po_bl (fun A6 h6 => po_bl (fun _ h => ?_))
  obtain rfl := (gg_chk h).2.symm
  refine po_bl (fun _ h => ?_)
  obtain rfl := (gg_chk h).2.symm
  refine po_bl (fun A7 h7 => po_bl (fun _ h => ?_))
  obtain rfl := (gg_chk h).2.symm
  refine po_bl (fun F8 h8 => po_some ?_)
  have lt := gg_cst h6
  have U6 := lt.2.2
  have U7 := (gg_cst h7).2.2
  have U8 := gg_cpf h8
  have e17 : (F8 d 17).toInt = (F5 d 17).toInt + 1 := by rw [U8.1, i_p1 (by omega)]
  have fd : ∀ k, k ≠ 17 → F8 d k = F5 d k := fun k hkk => U8.2 d k (fun h => hkk h.2)
  have ad : ∀ o, o ≠ 12 → A7 d o = A5 d o := fun o ho => (U7.2.2 d o (fun h => h3 h.1)).trans (U6.2.2 d o (fun h => ho h.2))
  have a3 : A7 3 2 = A5 3 2 := (U7.2.2 3 2 (by simp)).trans (U6.2.2 3 2 (fun h => h3 h.1.symm))
  show EVc F8 A7 d
  have c10 : cf F8 37 10 = cf F5 37 10 := by unfold cf; rw [U8.2 37 10 (fun h => hd h.1.symm)]
  have c12 : cf F8 37 12 = cf F5 37 12 := by unfold cf; rw [U8.2 37 12 (fun h => hd h.1.symm)]
  unfold EVc
  rw [c10, c12]
  refine (or_and3 Y5 hv5).imp id (fun h => h.imp id (fun h => ?_))
  obtain ⟨⟨y1, y2, y3, y4, y5⟩, g1⟩ := h
  rw [← q5.dd hd 13] at g1
  unfold EYc
  rw [e17, fd 13 (by decide), fd 14 (by decide), fd 16 (by decide), ci_fr a3, ci_fr (ad 1 (by decide)), ci_fr (ad 2 (by decide)), ci_fr (ad 3 (by decide)), ci_fr (ad 4 (by decide)), ci_fr (ad 5 (by decide)), ci_fr (ad 6 (by decide)), ci_fr (ad 7 (by decide)), ci_fr (ad 8 (by decide)), ci_fr (ad 9 (by decide)), ci_fr (ad 10 (by decide)), ci_fr (ad 11 (by decide))]
  refine ⟨y1, y2, y3, fun m a b => ?_, y5.cg (U8.2 3 7 (fun e => absurd e.2 (by decide))) a3⟩
  rw [ci_fr (U7.2.2 d 12 (fun h => h3 h.1))]
  by_cases e : m = (F5 d 17).toInt
  · rw [e, U6.1]
    exact g1
  · rw [U6.2.1 m a e]
    exact y4 m a (by omega)
theorem y_readMan (e5 : P 37 5 = d) (e6 : P 37 6 = 3) (hk : c_kind d = 6) (R : Rc F A) (Y : EVc F A d) (hn : 20 ≤ n) : EPo d (e_Reader_readMan n P F A J) := by
  have hd := kd37 hk
  unfold e_Reader_readMan
  rw [e5]
  refine po_bl (fun _ h => ?_)
  obtain rfl := (gg_chk h).2.symm
  refine po_call (s_takeFirst R).po ?_
  rintro ⟨u2, P2, F2, A2, J2⟩ ⟨q2, w2⟩
  dsimp only at q2 w2 ⊢
  have e5' : P2 37 5 = d := by rw [q2.1]; exact e5
  rw [e5']
  refine po_bl (fun _ h => ?_)
  obtain rfl := (gg_chk h).2.symm
  have r13 := (q2.2.2.2.1).h hk
  refine po_call (s_newName_v3 e5' hk q2.2.2.2.1 (by omega) (by omega)).po ?_
  rintro ⟨u3, P3, F3, A3, J3⟩ q3
  dsimp only at q3 ⊢
  have e5'' : P3 37 5 = d := by rw [(q2.tr q3).1]; exact e5
  rw [e5'']
  refine po_bl (fun _ h => ?_)
  obtain rfl := (gg_chk h).2.symm
  refine po_call (s_known q3.2.2.2.1 (by omega)).po ?_
  rintro ⟨v14, P4, F4, A4, J4⟩ ⟨q4, a4, b4, c4, d4⟩
  dsimp only at q4 a4 b4 c4 d4 ⊢
  have qa := (q2.tr q3).tr q4
  have g4 : cf F4 37 10 ≠ 0 ∨ cf F4 37 12 ≠ 0 ∨ (0 ≤ v14.toInt ∧ v14.toInt < (F4 d 13).toInt) := by
    rw [q4.dd hd 13]
    rcases d4 with h | h | h
    · exact .inr (.inr ⟨h, by omega⟩)
    · exact .inl h
    · exact .inr (.inl h)
  have last : ∀ {P7 F7 A7 J7} {x2 : Int32}, QRc P4 P7 F4 F7 A4 A7 → EPo d (e_Reader_readMan_92 n P7 F7 A7 J7 v14 x2) := by
    intro P7 F7 A7 J7 x2 q7
    have qz := qa.tr q7
    have ep : P7 = P := qz.1
    subst ep
    refine y_readMan_92 e5 e6 hk qz.2.2.2.1 (Y.q hd qz) ?_
    rw [q7.dd hd 13]
    exact q7.or g4
  refine po_call (s_isNext q4.2.2.2.1).po (fun v19 _ => ?_)
  refine po_cond (fun _ => last (QRc.rfl' q4.2.2.2.1)) (fun _ => ?_)
  refine po_call (s_take q4.2.2.2.1).po ?_
  rintro ⟨v21, P5, F5, A5, J5⟩ ⟨q5, -⟩
  dsimp only at q5 ⊢
  refine po_cond (fun _ => last q5) (fun _ => ?_)
  have x5 : P5 37 5 = d := by rw [(qa.tr q5).1]; exact e5
  rw [x5]
  refine po_bl (fun _ h => ?_)
  obtain rfl := (gg_chk h).2.symm
  refine po_call (s_known_v1 q5.2.2.2.1 (by omega)).po ?_
  rintro ⟨v28, P6, F6, A6, J6⟩ ⟨q6, a6, b6, c6, d6⟩
  dsimp only at q6 a6 b6 c6 d6 ⊢
  have x5' : P6 37 5 = d := by rw [((qa.tr q5).tr q6).1]; exact e5
  refine po_call (s_takeStepNumber x5' hk q6.2.2.2.1 c6).po ?_
  rintro ⟨v33, P7, F7, A7, J7⟩ ⟨q7, w7⟩
  dsimp only at q7 ⊢
  exact last ((q5.tr q6).tr q7)
theorem y_readNight (e5 : P 37 5 = d) (hk : c_kind d = 6) (R : Rc F A) (Y : EVc F A d) : EPo d (e_Reader_readNight P F A J) := by
  have hd := kd37 hk
  unfold e_Reader_readNight
  refine po_call (s_take R).po ?_
  rintro ⟨v1, P2, F2, A2, J2⟩ ⟨q2, -⟩
  dsimp only at q2 ⊢
  have x5 : P2 37 5 = d := by rw [q2.1]; exact e5
  rw [x5]
  refine po_bl (fun _ h => ?_)
  obtain rfl := (gg_chk h).2.symm
  refine po_call (s_takeNumber q2.2.2.2.1).po ?_
  rintro ⟨v7, P3, F3, A3, J3⟩ ⟨q3, w3⟩
  dsimp only at q3 w3 ⊢
  have qa := q2.tr q3
  have Y3 := Y.q hd qa
  refine po_bl (fun F4 h4 => ?_)
  have U := gg_cpf h4
  have Y4 : EVc F4 A3 d := by
    have c10 : cf F4 37 10 = cf F3 37 10 := by unfold cf; rw [U.2 37 10 (fun h => hd h.1.symm)]
    have c12 : cf F4 37 12 = cf F3 37 12 := by unfold cf; rw [U.2 37 12 (fun h => hd h.1.symm)]
    have fd : ∀ k, k ≠ 18 → F4 d k = F3 d k := fun k hkk => U.2 d k (fun h => hkk h.2)
    unfold EVc EYc
    rw [c10, c12, fd 13 (by decide), fd 14 (by decide), fd 16 (by decide), fd 17 (by decide)]
    exact Y3.imp id (fun h => h.imp id (fun h => ⟨h.1, h.2.1, h.2.2.1, h.2.2.2.1, h.2.2.2.2.cg (U.2 3 7 (fun e => absurd e.2 (by decide))) rfl⟩))
  have R4 : Rc F4 A3 := qa.2.2.2.1.pf U (by rw [hk]; exact trivial)
  refine po_call (s_take R4).po ?_
  rintro ⟨v13, P5, F5, A5, J5⟩ ⟨q5, -⟩
  exact po_some (Y4.q hd q5)
theorem EVc.l (Y : EVc F A d) (hk : c_kind d = 6) (q : QLc d P P' F F' A A') : EVc F' A' d := by
  have hd := kd37 hk
  have h3 := kd3 hk
  rcases Y with h | h | h
  · exact .inl (q.2.2.2.2.2.1 h)
  · exact .inr (.inl (q.2.2.2.2.2.2.1 h))
  · refine .inr (.inr ?_)
    have f : ∀ k, k ≠ 1304 → F' d k = F d k := fun k hkk => q.2.1 d k (fun h => hd h.1) (fun h => hkk h.2)
    have a : ∀ o, o ≤ 12 → A' d o = A d o := fun o ho => q.2.2.1 d o (fun h => by have := h.2; omega)
    unfold EYc
    rw [f 13 (by decide), f 14 (by decide), f 16 (by decide), f 17 (by decide), ci_fr (q.2.2.1 3 2 (fun h => h3 h.1.symm)), ci_fr (a 1 (by decide)), ci_fr (a 2 (by decide)), ci_fr (a 3 (by decide)), ci_fr (a 4 (by decide)), ci_fr (a 5 (by decide)), ci_fr (a 6 (by decide)), ci_fr (a 7 (by decide)), ci_fr (a 8 (by decide)), ci_fr (a 9 (by decide)), ci_fr (a 10 (by decide)), ci_fr (a 11 (by decide)), ci_fr (a 12 (by decide))]
    exact ⟨h.1, h.2.1, h.2.2.1, h.2.2.2.1, h.2.2.2.2.cg (q.2.1 3 7 (fun h => absurd h.1 (by decide)) (fun h => absurd h.2 (by decide))) (q.2.2.1 3 2 (fun h => h3 h.1.symm))⟩
theorem y_readLaw_94 {x1 x2 : Int32} (e5 : P 37 5 = d) (hk : c_kind d = 6) (R : Rc F A) (Y : EVc F A d) (hn : 500 ≤ n) : EPo d (e_Reader_readLaw_94 n P F A J x1 x2) := by
  have hd := kd37 hk
  have z02 : (0 : Int32).toInt ≠ 2 := by decide
  unfold e_Reader_readLaw_94
  have l0z : (0 : Int32).toInt = 0 := by decide
  refine po_call (s_readSum e5 hk hn R (by decide) (by omega)).po ?_
  rintro ⟨u2, P2, F2, A2, J2⟩ ⟨q2, w2⟩
  dsimp only at q2 ⊢
  have ep := q2.1
  subst ep
  rw [e5]
  refine po_bl (fun _ h => ?_)
  obtain rfl := (gg_chk h).2.symm
  refine po_call (s_add hk q2.2.2.2.1 (fun h => absurd h z02)).po ?_
  rintro ⟨v3, P3, F3, A3, J3⟩ ⟨q3, -⟩
  dsimp only at q3 ⊢
  have qa := q2.tr q3
  have Y3 := Y.l hk qa
  refine po_call (s_take qa.2.2.2.1).po ?_
  rintro ⟨v, P4, F4, A4, J4⟩ ⟨q4, w4⟩
  dsimp only at q4 w4 ⊢
  have Y4 := Y3.q hd q4
  refine po_cond (fun _ => po_some Y4) (fun c => ?_)
  refine po_bl (fun F5 h5 => ?_)
  have U := gg_cpf h5
  have Y5 : EVc F5 A4 d := by
    have c10 : cf F5 37 10 = cf F4 37 10 := by unfold cf; rw [U.2 37 10 (by simp)]
    have c12 : cf F5 37 12 = cf F4 37 12 := by unfold cf; rw [U.2 37 12 (by simp)]
    have fd : ∀ k, F5 d k = F4 d k := fun k => U.2 d k (fun h => hd h.1)
    unfold EVc EYc
    rw [c10, c12, fd 13, fd 14, fd 16, fd 17]
    exact Y4.imp id (fun h => h.imp id (fun h => ⟨h.1, h.2.1, h.2.2.1, h.2.2.2.1, h.2.2.2.2.cg (U.2 3 7 (by simp)) rfl⟩))
  refine po_cond (fun _ => po_some Y5) (fun c5 => ?_)
  have x5 : P4 37 5 = d := by rw [q4.1, q3.1]; exact e5
  rw [x5]
  refine po_bl (fun _ h => ?_)
  obtain rfl := (gg_chk h).2.symm
  refine po_bl (fun A6 h6 => po_some ?_)
  have U6 := (gg_cst h6).2.2
  show EVc F5 A6 d
  have a : ∀ o, o ≠ 14 → A6 d o = A4 d o := fun o ho => U6.2.2 d o (fun h => ho h.2)
  unfold EVc EYc
  rw [ci_fr (U6.2.2 3 2 (by simp)), ci_fr (a 1 (by decide)), ci_fr (a 2 (by decide)), ci_fr (a 3 (by decide)), ci_fr (a 4 (by decide)), ci_fr (a 5 (by decide)), ci_fr (a 6 (by decide)), ci_fr (a 7 (by decide)), ci_fr (a 8 (by decide)), ci_fr (a 9 (by decide)), ci_fr (a 10 (by decide)), ci_fr (a 11 (by decide)), ci_fr (a 12 (by decide))]
  exact Y5.imp id (fun h => h.imp id (fun h => ⟨h.1, h.2.1, h.2.2.1, h.2.2.2.1, h.2.2.2.2.cg rfl (U6.2.2 3 2 (by simp))⟩))
theorem y_readLaw_48 {x1 x2 : Int32} (e5 : P 37 5 = d) (hk : c_kind d = 6) : ∀ {n : Nat} {F : Nat → Nat → Int32} {A : Nat → Nat → Nat → Int32} {J : Nat → Nat → Nat → Int64} {x3 : Int32}, Rc F A → EVc F A d → (cf F 37 10 ≠ 0 ∨ cf F d 1304 + 1 ≤ cf F 37 7) → 0 ≤ x3.toInt ∧ x3.toInt ≤ 5 → 510 - x3.toInt < (n : Int) → EPo d (e_Reader_readLaw_48 n P F A J x1 x2 x3) := by
  have hd := kd37 hk
  intro n
  induction n with
  | zero => intro F A J x3 R Y hb hx hn; exact absurd hn (by omega)
  | succ n ih =>
    intro F A J x3 R Y hb hx hn
    have l4 : (4 : Int32).toInt = 4 := by decide
    have e3 := i_p1 (x := x3) (by omega)
    have f94 : EPo d (e_Reader_readLaw_94 n P F A J x1 x2) := y_readLaw_94 e5 hk R Y (by omega)
    have on : x3.toInt ≤ 4 → ∀ {P2 F2 A2 J2}, QRc P P2 F F2 A A2 → EPo d ((e_Reader_readIf n P2 F2 A2 J2).bind fun (_, P55, F56, A57, J58) => e_Reader_readLaw_48 n P55 F56 A57 J58 x1 x2 (x3 + 1)) := by
      intro hle P2 F2 A2 J2 q2
      have ep := q2.1
      subst ep
      have k2 : cf F2 d 1304 = cf F d 1304 := by unfold cf; rw [q2.dd hd 1304]
      have t2 := q2.2.2.2.2.1
      have hb2 : cf F2 37 10 ≠ 0 ∨ cf F2 d 1304 + 1 ≤ cf F2 37 7 := by
        rcases hb with h | h
        · exact .inl (q2.2.2.2.2.2.1 h)
        · right; omega
      refine po_call (s_readIf e5 hk q2.2.2.2.1 hb2 (by omega)).po ?_
      rintro ⟨u, P3, F3, A3, J3⟩ ⟨q3, w3⟩
      dsimp only at q3 w3 ⊢
      have ep := q3.1
      subst ep
      refine ih q3.2.2.2.1 ((Y.q hd q2).l hk q3) ?_ (by omega) (by omega)
      rcases w3 with h | h
      · exact .inl h
      · rcases hb2 with g | g
        · exact .inl (q3.2.2.2.2.2.1 g)
        · right; omega
    unfold e_Reader_readLaw_48
    refine po_cond (fun _ => f94) (fun c => ?_)
    rw [i_ngt, l4] at c
    refine po_call (s_isNext R).po (fun v19 _ => ?_)
    refine po_cond (fun _ => f94) (fun _ => ?_)
    refine po_cond (fun _ => ?_) (fun _ => ?_)
    · unfold e_Reader_readLaw_84
      exact on (by omega) (QRc.rfl' R)
    · refine po_bl (fun v22 _ => ?_)
      refine po_call (s_fail R (by decide)).po ?_
      rintro ⟨u, P2, F2, A2, J2⟩ ⟨q2, -⟩
      dsimp only at q2 ⊢
      exact on (by omega) q2
theorem y_readLaw (e5 : P 37 5 = d) (hk : c_kind d = 6) (R : Rc F A) (Y : EVc F A d) (hV : cf F 37 10 ≠ 0 ∨ cf F d 1304 ≤ cf F 37 7) (hn : 520 ≤ n) : EPo d (e_Reader_readLaw n P F A J) := by
  have hd := kd37 hk
  unfold e_Reader_readLaw
  refine po_call (s_takeFirst R).po ?_
  rintro ⟨u2, P2, F2, A2, J2⟩ ⟨q2, w2⟩
  dsimp only at q2 w2 ⊢
  have e5' : P2 37 5 = d := by rw [q2.1]; exact e5
  rw [e5']
  refine po_bl (fun _ h => ?_)
  obtain rfl := (gg_chk h).2.symm
  refine po_call (s_known_v3 q2.2.2.2.1 (by omega)).po ?_
  rintro ⟨v7, P3, F3, A3, J3⟩ ⟨q3, a3, b3, c3, d3⟩
  dsimp only at q3 ⊢
  have e5'' : P3 37 5 = d := by rw [(q2.tr q3).1]; exact e5
  rw [e5'']
  refine po_bl (fun _ h => ?_)
  obtain rfl := (gg_chk h).2.symm
  refine po_call (s_take q3.2.2.2.1).po ?_
  rintro ⟨v13, P4, F4, A4, J4⟩ ⟨q4, -⟩
  dsimp only at q4 ⊢
  have qa := (q2.tr q3).tr q4
  have ep := qa.1
  subst ep
  have k4 : cf F4 d 1304 = cf F d 1304 := by unfold cf; rw [qa.dd hd 1304]
  have t3 := q3.2.2.2.2.1
  have t4 := q4.2.2.2.2.1
  have l0z : (0 : Int32).toInt = 0 := by decide
  refine y_readLaw_48 e5 hk qa.2.2.2.1 (Y.q hd qa) ?_ (by decide) (by omega)
  rcases w2 with h | h
  · exact .inl (q4.2.2.2.2.2.1 (q3.2.2.2.2.2.1 h))
  · rcases hV with g | g
    · exact .inl (qa.2.2.2.2.2.1 g)
    · right; omega
/-- a whole text -/
theorem y_readText_10 (e5 : P 37 5 = d) (e6 : P 37 6 = 3) (hk : c_kind d = 6) : ∀ {n : Nat} {F : Nat → Nat → Int32} {A : Nat → Nat → Nat → Int32} {J : Nat → Nat → Nat → Int64} {x4 : Int32}, RVc d F0 F A0 A → EVc F A d → 0 ≤ x4.toInt ∧ x4.toInt ≤ 401 → 1000 - x4.toInt < (n : Int) → po (e_Reader_readText_10 n P F A J x4) (fun r => r.1.toInt ≠ 0 ∨ EYc r.2.2.1 r.2.2.2.1 d) := by
  have hd := kd37 hk
  intro n
  induction n with
  | zero => intro F A J x4 V Y hx hn; exact absurd hn (by omega)
  | succ n ih =>
    intro F A J x4 V Y hx hn
    have l400 : (400 : Int32).toInt = 400 := by decide
    have f171 : po (e_Reader_readText_171 n P F A J) (fun r => r.1.toInt ≠ 0 ∨ EYc r.2.2.1 r.2.2.2.1 d) := by
      unfold e_Reader_readText_171
      refine po_cond (fun c => po_some (.inl ?_)) (fun c => ?_)
      · rw [i_ne, i_0] at c
        exact c
      · rw [i_nne, i_0] at c
        refine po_bl (fun F2 h2 => po_bl (fun F3 h3 => po_some ?_))
        have U2 := gg_cpf h2
        have U3 := gg_cpf h3
        have k10 : F3 37 10 = F 37 12 := (U3.2 37 10 (by simp)).trans U2.1
        show (F3 37 10).toInt ≠ 0 ∨ EYc F3 A d
        rw [k10]
        rcases Y with h | h | h
        · exact absurd c h
        · exact .inl h
        · exact .inr (h.cg (fun k => (U3.2 d k (fun h => hd h.1)).trans (U2.2 d k (fun h => hd h.1))) (fun _ _ => rfl) rfl ((U3.2 3 7 (by simp)).trans (U2.2 3 7 (by simp))))
    unfold e_Reader_readText_10
    refine po_cond (fun _ => f171) (fun c => ?_)
    rw [i_ngt, l400] at c
    have e4 := i_p1 (x := x4) (by omega)
    refine po_cond (fun _ => f171) (fun _ => ?_)
    refine po_call (s_isNext V.1).po (fun v8 _ => ?_)
    refine po_cond (fun _ => f171) (fun _ => ?_)
    refine po_bl (fun v10 _ => ?_)
    have nx : ∀ {o : Option (cR Unit)}, ok o (RXc P d F0 A0) → EPo d o → po (o.bind fun (_, P13, F14, A15, J16) => e_Reader_readText_165 (e_Reader_readText_10 n) n P13 F14 A15 J16 x4) (fun r => r.1.toInt ≠ 0 ∨ EYc r.2.2.1 r.2.2.2.1 d) := by
      intro o ho hy
      refine po_call (po_and ho.po hy) ?_
      rintro ⟨u, P2, F2, A2, J2⟩ ⟨⟨g1, g2⟩, g3⟩
      dsimp only at g1 g2 g3 ⊢
      subst g1
      unfold e_Reader_readText_165
      exact ih g2 g3 (by omega) (by omega)
    refine po_cond (fun _ => nx (s_readRoom e5 hk V (by omega)) (y_readRoom e5 hk V.1 Y (by omega))) (fun _ => ?_)
    refine po_cond (fun _ => nx (s_readDoor e5 e6 hk V (by omega)) (y_readDoor e5 e6 hk V.1 Y (by omega))) (fun _ => ?_)
    refine po_cond (fun _ => nx (s_readTool e5 e6 hk V (by omega)) (y_readTool e5 e6 hk V.1 Y (by omega))) (fun _ => ?_)
    refine po_cond (fun _ => nx (s_readTask e5 e6 hk V (by omega)) (y_readTask e5 e6 hk V.1 Y (by omega))) (fun _ => ?_)
    refine po_cond (fun _ => nx (s_readStep e5 hk V (by omega)) (y_readStep e5 hk V.1 Y (by omega))) (fun _ => ?_)
    refine po_cond (fun _ => nx (s_readMan e5 e6 hk V (by omega)) (y_readMan e5 e6 hk V.1 Y (by omega))) (fun _ => ?_)
    refine po_cond (fun _ => nx (s_readLaw e5 hk V (by omega)) (y_readLaw e5 hk V.1 Y V.2.2.2.1 (by omega))) (fun _ => ?_)
    refine po_cond (fun _ => nx (s_readNight e5 hk V) (y_readNight e5 hk V.1 Y)) (fun _ => ?_)
    refine po_bl (fun v52 _ => ?_)
    refine po_call (s_fail V.1 (by decide)).po ?_
    rintro ⟨u, P2, F2, A2, J2⟩ ⟨q, -⟩
    dsimp only at q ⊢
    have V2 := V.q hd q
    have ep := q.1
    subst ep
    exact ih V2 (Y.q hd q) (by omega) (by omega)
/-- a text just begun says nothing yet -/
theorem y_open (hk : c_kind d = 6) (R : Rc F A) (hn : 5200 ≤ n) : po (e_Reader_open n P F A J d 3) (fun z => Z3c z.2.2.1 z.2.2.2.1 → EVc z.2.2.1 z.2.2.2.1 d) := by
  have hd := kd37 hk
  have h3 := kd3 hk
  unfold e_Reader_open
  refine po_bl (fun P1 e1 => ?_)
  have u1 := gg_cpp e1
  refine po_bl (fun P2 e2 => ?_)
  have u2 := gg_cpp e2
  have x5 : P2 37 5 = d := (u2.2 37 5 (by simp)).trans u1.1
  refine po_bl (fun q3 e3 => ?_)
  obtain ⟨-, rfl⟩ := gg_chk e3
  rw [x5]
  refine po_call (s_houseClear hk R).po ?_
  rintro ⟨u3, P3, F3, A3, J3⟩ ⟨g1, g2, g3, g4, g5, g6, g7, g8, g9, g10⟩
  dsimp only at g1 g2 g3 g4 g5 g6 g7 g8 g9 g10 ⊢
  subst g1
  refine po_bl (fun q9 e9 => ?_)
  obtain ⟨-, rfl⟩ := gg_chk e9
  rw [show P3 37 6 = 3 from u2.1]
  refine po_call (s_clear (r0 := 3) (by decide) g4).po ?_
  rintro ⟨u4, P4, F4, A4, J4⟩ ⟨y1, y2, y3, y4, y5⟩
  dsimp only at y1 y2 y3 y4 y5 ⊢
  subst y1
  refine po_bl (fun F5 h5 => po_bl (fun F6 h6 => po_bl (fun F7 h7 => po_bl (fun F8 h8 => po_bl (fun F9 h9 => ?_)))))
  have U5 := gg_cpf h5
  have U6 := gg_cpf h6
  have U7 := gg_cpf h7
  have U8 := gg_cpf h8
  have U9 := gg_cpf h9
  have R9 : Rc F9 A4 := ((((y4.pf U5 (show 0 ≤ (0 : Int32).toInt ∧ (0 : Int32).toInt ≤ 400 by decide)).pf U6 (show 0 ≤ (0 : Int32).toInt ∧ (0 : Int32).toInt ≤ 400 by decide)).pf U7 (show 0 ≤ (0 : Int32).toInt ∧ (0 : Int32).toInt ≤ 8 by decide)).pf U8 trivial).pf U9 trivial
  refine po_call (s_scanAll R9 (by omega)).po ?_
  rintro ⟨u10, P10, F10, A10, J10⟩ ⟨z1, z2, z3, z4⟩
  dsimp only at z1 z2 z3 z4 ⊢
  have f37 : ∀ r k, r ≠ 37 → F10 r k = F4 r k := fun r k h => (z2 r k (fun e => h e.1)).trans ((U9.2 r k (fun e => h e.1)).trans ((U8.2 r k (fun e => h e.1)).trans ((U7.2 r k (fun e => h e.1)).trans ((U6.2 r k (fun e => h e.1)).trans (U5.2 r k (fun e => h e.1))))))
  have fd : ∀ k, cf F10 d k = cf F3 d k := fun k => by unfold cf; rw [f37 d k hd, y2 d k h3]
  have k14 : (F10 d 14).toInt = 0 := (fd 14).trans g5
  have k16 : (F10 d 16).toInt = 0 := (fd 16).trans g6
  have k17 : (F10 d 17).toInt = 0 := (fd 17).trans g7
  refine po_some (fun zc => .inr (.inr ?_))
  unfold EYc
  rw [k14, k16, k17]
  refine ⟨fun x a b => absurd b (by omega), fun t a b => absurd b (by omega), fun t u t0 t1 u0 u1 => ?_, fun m a b => absurd b (by omega), zc⟩
  rw [ci_fr (z3 d 5 (fun e => hd e.1)), ci_fr (y3 d 5 h3), g10 t t0 t1] at u1
  exact absurd u1 (by omega)
/-- what a text leaves, read into the draft -/
theorem y_readText (R : Rc F A) (hk : c_kind d = 6) (hn : 6000 ≤ n) : po (e_Reader_readText n P F A J d 3) (fun r => r.1.toInt ≠ 0 ∨ EYc r.2.2.1 r.2.2.2.1 d) := by
  unfold e_Reader_readText
  refine po_call (po_and (s_open (P := P) (J := J) hk R (by omega)).po (po_and (y_open (P := P) (J := J) hk R (by omega)) (v_open (P := P) (J := J) hk R (by omega)))) ?_
  rintro ⟨u, P2, F2, A2, J2⟩ ⟨⟨oP, x5, x6, V⟩, vz, vc⟩
  dsimp only at oP x5 x6 V vz vc ⊢
  have vo := vz ⟨fun t t0 t1 => by have := (vc.1.2.1 t t0 t1).1; omega, by rw [vc.1.2.2.1]; exact b7_0⟩
  have l0z : (0 : Int32).toInt = 0 := by decide
  exact y_readText_10 x5 x6 hk V vo (by decide) (by omega)
end H9f1
