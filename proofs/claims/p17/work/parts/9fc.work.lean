/-! work, on both sides -/
section H9fc
variable {n m : Nat} {P P' : Nat → Nat → Nat} {F F' : Nat → Nat → Int32} {A A' : Nat → Nat → Nat → Int32} {J : Nat → Nat → Nat → Int64} {Fm Fm' : Nat → Int32} {Am Am' : Nat → Nat → Int32} {Jm : Nat → Nat → Int64} {x1 x2 x3 : Int32}
theorem r_work_42 : ∀ {n : Nat} {Fm : Nat → Int32} {Am : Nat → Nat → Int32} {Jm : Nat → Nat → Int64} {x2 : Int32}, 0 ≤ x2.toInt → po (d_work_42 n Fm Am Jm x2) (fun r => r.1 = 1 ∧ r.2.1 = Fm ∧ CPm 48 47 0 0 x2.toInt Am r.2.2.1) := by
  intro n
  induction n with
  | zero => intro Fm Am Jm x2 _ r hr; cases hr
  | succ n ih =>
    intro Fm Am Jm x2 h0
    have l100 : (100 : Int32).toInt = 100 := by decide
    unfold d_work_42
    refine po_cond (fun c => po_some ⟨rfl, rfl, CPm.rfl' (by rw [i_ge, l100] at c; exact c)⟩) (fun c => ?_)
    rw [i_nge, l100] at c
    refine po_bl (fun v2 h2 => po_bl (fun A3 h3 => ?_))
    have e := i_p1 (x := x2) (by omega)
    refine po_mono (ih (by omega)) (fun r h => ⟨h.1, h.2.1, CPm.step (by decide) h2 h3 (by omega) (by omega) h0 (by omega) (by omega) (by rw [← e]; exact h.2.2)⟩)
theorem p2_pob {α β : Type} {x : Option α} {z : Option β} {Q : α → β → Prop} {R : α → Prop} (h : po x R) (k : P2 x z Q) : P2 x z (fun a b => Q a b ∧ R a) := fun a b ha hb => ⟨k a b ha hb, h a ha⟩
theorem p2_workR (X : XR P F A Fm Am) (G : Gc P F A) (S : SAm Fm Am) : P2 (e_SleepWork_work P F A J x1 x2) (d_work m Fm Am Jm x1 x2) (fun a b => a.1 = b.1 ∧ XR a.2.1 a.2.2.1 a.2.2.2.1 b.2.1 b.2.2.1) := by
  have X0 := X
  obtain ⟨N, -, Y, -, -⟩ := X0
  have n2 : P 0 8 ≠ 2 := G.n2
  have ct := N.ct
  unfold e_SleepWork_work d_work
  refine p2_bl (fun _ hk => ?_)
  obtain ⟨-, rfl⟩ := gg_chk hk
  refine p2_call (R := fun v w => BV v (0 ≤ x1.toInt ∧ x1.toInt < (F (P 0 8) 16).toInt ∧ 0 ≤ x2.toInt ∧ x2.toInt < ci A (P 0 8) 5 x1.toInt) ∧ v = w) (p2_of v_cStep (v_dStep S) (fun a b h h' => ⟨h, h.eq h' (CX.stp N.1)⟩)) ?_
  rintro v w ⟨b, rfl⟩
  rcases b with ⟨rfl, p⟩ | ⟨rfl, p⟩
  · refine p2_cl (fun c => absurd c (by decide)) (fun _ => p2_cr (fun c => absurd c (by decide)) (fun _ => ?_))
    refine p2_bl (fun v4 h4 => p2_br (fun v3 h3 => ?_))
    have g4 := (gl h4).2.2
    have g3 := (gm h3).2.2
    obtain ⟨s1, s2, s3, s4, s5, s6, s7⟩ := Y.1
    have t6 : x1.toInt < 6 := by omega
    have st : v4.toInt = ai Am 47 x1.toInt ∧ 0 ≤ v4.toInt := by
      have := s2 x1.toInt p.1 t6
      rw [g4]
      exact this
    refine p2_cl (fun c => p2_cr (fun _ => ?_) (fun c2 => ?_)) (fun c => p2_cr (fun c2 => ?_) (fun _ => p2_some ⟨rfl, X⟩))
    · rw [i_gt, i_0] at c
      refine p2_bl (fun v6 h6 => p2_bl (fun A7 h7 => p2_bl (fun _ hk8 => ?_)))
      obtain ⟨-, rfl⟩ := gg_chk hk8
      have g6 := (gl h6).2.2
      have U := (gg_cst h7).2.2
      refine p2_r r_takes ?_
      rintro ⟨u, F6, A7m, J8⟩ ⟨rfl, cp⟩
      dsimp only at cp ⊢
      refine p2_br (fun v9 h9 => p2_br (fun A10 h10 => ?_))
      have g9 := (gm h9).2.2
      have V := (gg_st h10).2.2
      have t47 : ∀ i, 0 ≤ i → i < 100 → ai A7m 48 i = ai Am 47 i := fun i i0 i1 => by
        have := cp.2.1 i i0 i1
        rw [Int.zero_add] at this
        exact this
      have e64 : v6.toInt = v4.toInt := by rw [g6, g4]
      have e9 : v9.toInt = v4.toInt := by rw [g9, t47 _ p.1 (by omega), st.1]
      have rg6 := i_rng v6
      have rg9 := i_rng v9
      have m6 := i_sub (x := v6) (y := 1) (by rw [i_1]; omega) (by rw [i_1]; omega)
      have m9 := i_sub (x := v9) (y := 1) (by rw [i_1]; omega) (by rw [i_1]; omega)
      rw [i_1] at m6 m9
      have o48 : ∀ i, 0 ≤ i → i < 100 → i ≠ x1.toInt → ai A10 48 i = ai Am 47 i := fun i i0 i1 hne => by rw [V.2.2 i i0 hne, t47 i i0 i1]
      have rows : ∀ q, q ≠ 48 → A10 q = Am q := fun q hq => (V.1 q hq).trans (cp.1 q hq)
      have a7 : ∀ o, o ≠ 2 → A7 2 o = A 2 o := fun o ho => U.2.2 2 o (fun e => ho e.2)
      have a8 : ∀ r o, r ≠ 2 → A7 r o = A r o := fun r o hr => U.2.2 r o (fun e => hr e.1)
      have N7 : NHx (P 0 8) F A7 F6 A10 := N.fr (fun _ => rfl) (fun o _ => a8 _ o n2) rfl (fun q _ _ => rows q (by omega))
      have B7 : SBx True (P 0 8) 2 F A7 A10 48 0 := by
        refine SBx.mk0 (fun k k0 k1 => ?_) (fun k k0 k1 => ?_) (fun k k0 k1 => ?_) (fun k k0 k1 => ?_)
        · rw [ci_fr (a7 1 (by decide)), o48 (6 + k) (by omega) (by omega) (by omega)]
          exact s1 k k0 k1
        · by_cases e : k = x1.toInt
          · rw [e, U.1, V.2.1, m6, m9]
            omega
          · rw [U.2.1 k k0 e, o48 k k0 (by omega) e]
            exact s2 k k0 k1
        · rw [ci_fr (a7 4 (by decide)), o48 (72 + k) (by omega) (by omega) (by omega)]
          exact s3 k k0 k1
        · rw [ci_fr (a7 3 (by decide)), ci_fr (a7 5 (by decide)), ci_fr (a7 6 (by decide)), ci_fr (a7 7 (by decide)), o48 (42 + k) (by omega) (by omega) (by omega), o48 (48 + k) (by omega) (by omega) (by omega), o48 (54 + k) (by omega) (by omega) (by omega), o48 (60 + k) (by omega) (by omega) (by omega), o48 (66 + k) (by omega) (by omega) (by omega)]
          have w := s4 k k0 k1
          exact ⟨w.1.cg rfl (a8 _ 5 n2), w.2.1, w.2.2.1, fun _ => w.2.2.2⟩
      have u5 : x2.toInt < ci A7 (P 0 8) 5 x1.toInt := by rw [ci_fr (a8 _ 5 n2)]; exact p.2.2.2
      refine p2_call (p2_pob (b_work (by decide) s7.2.s (by decide) U p.1 t6 (by omega) (by omega)) (p2_fin N7 B7 (by decide) p.1 p.2.1 p.2.2.1 u5 rfl rfl rfl rfl)) ?_
      rintro ⟨u1, P10, F11, A12, J13⟩ ⟨u2, F12, A13, J14⟩ ⟨⟨f1, f2, f3, f4, f5, f6, f7⟩, bd⟩
      dsimp only at bd f1 f2 f3 f4 f5 f6 f7 ⊢
      subst f1 f2 f4
      refine p2_l w_stale ?_
      rintro ⟨u3, P15, F16, A17, J18⟩ ⟨w1, w2, w3⟩
      dsimp only at w1 w2 w3 ⊢
      refine p2_of (po_some (R := fun (a : cR Int32) => a.1 = 1 ∧ a.2.1 = P15 ∧ a.2.2.1 = F16 ∧ a.2.2.2.1 = A17) ⟨rfl, rfl, rfl, rfl⟩) (r_work_42 (x2 := 0) (by decide)) ?_
      rintro ⟨v0, P0, F0, A0, J0⟩ ⟨v1, Fz, Az, Jz⟩ ⟨z1, z2, z3, z4⟩ ⟨y1, y2, y3⟩
      dsimp only at z1 z2 z3 z4 y1 y2 y3 ⊢
      subst z2 z3 z4
      rw [i_0] at y3
      have t48 : ∀ i, 0 ≤ i → i < 100 → ai Az 47 i = ai A13 48 i := fun i i0 i1 => by
        have := y3.2.1 i i0 i1
        rw [Int.zero_add] at this
        exact this
      refine ⟨z1.trans y1.symm, ?_⟩
      rw [w1, w3]
      have a12 : ∀ o, o ≠ 1 → A12 2 o = A7 2 o := fun o ho => f3 2 o (fun e => ho e.2)
      have k1 : ∀ i, 0 ≤ i → i < 100 → i < 6 ∨ 42 ≤ i → ai Az 47 i = ai A10 48 i := fun i i0 i1 hi => by rw [t48 i i0 i1, f6 i i0 hi]
      refine X.now G (fun r k _ h2 => w2.2 r k h2) (fun r o hr => (f3 r o (fun e => hr e.1)).trans (a8 r o hr)) y2 (fun q h1 h2 => (y3.1 q h1).trans ((f5 q (by omega)).trans (rows q (by omega)))) ?_
      refine ⟨fun k k0 k1' => ?_, fun k k0 k1' => ?_, fun k k0 k1' => ?_, fun k k0 k1' => ?_, ?_, ?_, ?_, bd.a⟩
      · show ci A12 2 1 k = ai Az 47 (6 + k)
        rw [t48 _ (by omega) (by omega)]
        exact f7 k k0 k1'
      · show ci A12 2 2 k = ai Az 47 k ∧ 0 ≤ ci A12 2 2 k
        rw [ci_fr (a12 2 (by decide)), k1 k k0 (by omega) (by omega)]
        exact B7.sf k0 k1'
      · show ci A12 2 4 k = ai Az 47 (72 + k)
        rw [ci_fr (a12 4 (by decide)), k1 _ (by omega) (by omega) (by omega)]
        exact B7.tl k0 k1'
      · show LQx (P10 0 8) F11 A (ci A12 2 3 k) (ai Az 47 (42 + k)) (ai Az 47 (48 + k)) ∧ ci A12 2 5 k = ai Az 47 (54 + k) ∧ ci A12 2 6 k = ai Az 47 (60 + k) ∧ ci A12 2 7 k = ai Az 47 (66 + k)
        rw [ci_fr (a12 3 (by decide)), ci_fr (a12 5 (by decide)), ci_fr (a12 6 (by decide)), ci_fr (a12 7 (by decide)), k1 (42 + k) (by omega) (by omega) (by omega), k1 (48 + k) (by omega) (by omega) (by omega), k1 (54 + k) (by omega) (by omega) (by omega), k1 (60 + k) (by omega) (by omega) (by omega), k1 (66 + k) (by omega) (by omega) (by omega)]
        have w := B7.mn k0 k1'
        exact ⟨w.1.cg rfl (a8 _ 5 n2).symm, w.2.1, w.2.2.1, w.2.2.2 trivial⟩
      · show (F0 2 7).toInt = ai Az 47 78
        rw [w2.2 2 7 (by decide), k1 78 (by decide) (by decide) (by decide), o48 78 (by decide) (by decide) (by omega)]
        exact s5
      · show (F0 2 8).toInt = ai Az 47 79
        rw [w2.2 2 8 (by decide), k1 79 (by decide) (by decide) (by decide), o48 79 (by decide) (by decide) (by omega)]
        exact s6
      · show F0 2 7 &&& 4095 = F0 2 7
        rw [w2.2 2 7 (by decide)]
        exact s7.1
    · rw [i_gt, i_0] at c
      rw [i_nne, i_0] at c2
      rw [g3] at c2
      omega
    · rw [i_ngt, i_0] at c
      rw [i_ne, i_0] at c2
      rw [g3] at c2
      omega
  · exact p2_cl (fun _ => p2_cr (fun _ => p2_some ⟨rfl, X⟩) (fun c => absurd c (by decide))) (fun c => absurd c (by decide))
end H9fc
