/-! quiet calls: the same answers (step, way, where, strokes, gain) -/
section H9fk
variable {n m h : Nat} {P P' : Nat → Nat → Nat} {F F' F1 : Nat → Nat → Int32} {A A' : Nat → Nat → Nat → Int32} {J : Nat → Nat → Nat → Int64} {Fm Fm' : Nat → Int32} {Am Am' A7 : Nat → Nat → Int32} {Jm : Nat → Nat → Int64} {x1 x2 x3 y1 : Int32} {D : Int → Int → Int}
theorem p2_step (X : XR P F A Fm Am) (S : SAm Fm Am) : P2 (e_SleepWork_step P F A J x1 x2 x3) (d_step Fm Am Jm x1 x2 x3) (fun a b => a = b) := by
  obtain ⟨N, -, Y, -, -⟩ := X
  have ct := N.ct
  have hs := N.sd
  unfold e_SleepWork_step d_step
  refine p2_bl (fun _ hk => ?_)
  obtain rfl := (gg_chk hk).2.symm
  refine p2_call (R := fun v w => BV v (0 ≤ x1.toInt ∧ x1.toInt < (F (P 0 8) 16).toInt ∧ 0 ≤ x2.toInt ∧ x2.toInt < ci A (P 0 8) 5 x1.toInt) ∧ v = w) (p2_of v_cStep (v_dStep S) (fun a b h h' => ⟨h, h.eq h' (CX.stp N.1)⟩)) ?_
  rintro v w ⟨b, rfl⟩
  rcases b with ⟨rfl, p⟩ | ⟨rfl, p⟩
  · refine p2_cl (fun _ => p2_cr (fun _ => ?_) (fun c => absurd c (by decide))) (fun c => absurd c (by decide))
    obtain ⟨t0, t1, u0, u1⟩ := p
    have s6 := N.s6 t0
    have r := N.row t0 t1 u0 u1
    have hy := N.hy.2.2.1 _ _ t0 t1 u0 u1
    have ic := cx6 (x := x1) (y := x2) (by omega) (by omega)
    refine p2_r (v_stepAt hs (by omega) (by omega)) ?_
    intro w3 q3
    refine p2_dd (fun _ => ?_) (fun _ => ?_)
    · refine p2_bl (fun v5 h5 => p2_br (fun w5 k5 => p2_some (i_ext ?_)))
      rw [(gl h5).2.2, (gm k5).2.2, ic, rx6 (by omega) (by omega)]
      have e := Y.1.1 (x1.toInt * 6 + x2.toInt) (by omega) (by omega)
      have z : 6 + 6 * x1.toInt + x2.toInt = 6 + (x1.toInt * 6 + x2.toInt) := by omega
      rw [z]
      exact e
    refine p2_dd (fun _ => ?_) (fun _ => ?_)
    · refine p2_bl (fun _ hk => ?_)
      obtain rfl := (gg_chk hk).2.symm
      refine p2_bl (fun v5 h5 => p2_br (fun w5 k5 => p2_some (i_ext ?_)))
      rw [(gl h5).2.2, (gm k5).2.2, ic, q3]
      exact r.1
    refine p2_dd (fun _ => ?_) (fun _ => ?_)
    · refine p2_bl (fun _ hk => ?_)
      obtain rfl := (gg_chk hk).2.symm
      refine p2_bl (fun v5 h5 => p2_br (fun w5 k5 => p2_some (i_ext ?_)))
      rw [(gl h5).2.2, (gm k5).2.2, ic, q3]
      exact r.2.1
    refine p2_dd (fun _ => ?_) (fun _ => ?_)
    · refine p2_bl (fun _ hk => ?_)
      obtain rfl := (gg_chk hk).2.symm
      refine p2_bl (fun v5 h5 => p2_br (fun w5 k5 => p2_some (i_ext ?_)))
      rw [(gl h5).2.2, (gm k5).2.2, ic, q3]
      exact r.2.2.1
    refine p2_dd (fun _ => ?_) (fun _ => ?_)
    · refine p2_bl (fun _ hk => ?_)
      obtain rfl := (gg_chk hk).2.symm
      refine p2_bl (fun v5 h5 => p2_br (fun w5 k5 => p2_some (i_ext ?_)))
      rw [(gl h5).2.2, (gm k5).2.2, ic, q3]
      exact r.2.2.2.1
    have nn : ∀ {a b : Int}, NNx a b → (a = -2 ∨ 0 ≤ a) → a = if 0 ≤ b then b else -2 := fun {a b} h k => by
      rcases h with e | ⟨e1, e2⟩
      · rw [← e]
        rcases k with z | z
        · rw [z, if_neg (by decide)]
        · rw [if_pos z]
      · rw [e1, e2, if_neg (by decide)]
    refine p2_dd (fun _ => ?_) (fun _ => ?_)
    · refine p2_bl (fun _ hk => ?_)
      obtain rfl := (gg_chk hk).2.symm
      refine p2_bl (fun v5 h5 => p2_br (fun w5 k5 => p2_r v_none (fun w6 q6 => p2_some (i_ext ?_))))
      rw [(gl h5).2.2, q6, (gm k5).2.2, ic, q3]
      exact nn r.2.2.2.2.1 hy.2.2.2.2.2.2.1
    refine p2_dd (fun _ => ?_) (fun _ => p2_some rfl)
    · refine p2_bl (fun _ hk => ?_)
      obtain rfl := (gg_chk hk).2.symm
      refine p2_bl (fun v5 h5 => p2_br (fun w5 k5 => p2_r v_none (fun w6 q6 => p2_some (i_ext ?_))))
      rw [(gl h5).2.2, q6, (gm k5).2.2, ic, q3]
      exact nn r.2.2.2.2.2 hy.2.2.2.2.2.2.2
  · exact p2_cl (fun c => absurd c (by decide)) (fun _ => p2_cr (fun c => absurd c (by decide)) (fun _ => p2_some rfl))
/-- the ways of now, on both sides -/
theorem XR.ways {b : mR Unit} (X : XR P F A Fm Am) (G : Gc P F A) (cp : CPm 47 48 0 0 0 Am A7) (hb : d_fillsWays m Fm A7 Jm = some b) : FW Fm A7 b.2.1 b.2.2.1 ∧ WIx (F (P 0 8) 13).toInt b.2.2.1 ∧ ∀ {n : Nat} {J : Nat → Nat → Nat → Int64} {x1 x2 : Int32}, 0 ≤ x1.toInt ∧ x1.toInt < (F (P 0 8) 13).toInt → 0 ≤ x2.toInt ∧ x2.toInt < (F (P 0 8) 13).toInt → po (e_Evening_minutesBetween n P F A J x1 x2) (fun r => r.1.toInt = mx b.2.2.1 x1.toInt x2.toInt) := by
  obtain ⟨N7, B7, s7, -, s0⟩ := X.take cp
  have ct := N7.ct
  refine ⟨fw_d_fillsWays FW.rfl' b hb, WIx_of N7 G.1 G.2.2.2.1 b hb, fun {n J x1 x2} h1 h2 => ?_⟩
  have hsh : F 2 7 ≠ -1 := fun e => by rw [e] at s0; exact b7_m1 s0
  have e : F 2 7 = A7 48 78 := i_ext s7
  have WD := WD_of N7 hb
  rw [← e] at WD
  unfold e_Evening_minutesBetween
  refine po_bl (fun _ hk => ?_)
  obtain rfl := (gg_chk hk).2.symm
  rw [G.2.2.1]
  refine po_call (v_between X.2.2.2.1 WD hsh h1 h2 ct.1.2 (k6ne G.k08)) ?_
  rintro ⟨v, P3, F4, A5, J6⟩ ⟨q, -⟩
  exact po_some q
theorem i_8 {x y : Int32} (hx : 0 ≤ x.toInt ∧ x.toInt ≤ 8) (hy : 0 ≤ y.toInt ∧ y.toInt ≤ 8) : (8 * x + y).toInt = 8 * x.toInt + y.toInt := by
  have m := i_mulL (c := 8) (k := 8) (x := x) (by decide) (by omega) (by omega)
  rw [i_add (by rw [m]; omega) (by rw [m]; omega), m]
theorem p2_way (X : XR P F A Fm Am) (G : Gc P F A) (S : SAm Fm Am) : P2 (e_SleepWork_way n P F A J x1 x2) (d_way m Fm Am Jm x1 x2) (fun a b => a.1 = b.1) := by
  have N := X.1
  have ct := N.ct
  have lF : (1000000 : Int32).toInt = 1000000 := by decide
  unfold e_SleepWork_way d_way
  refine p2_call (R := fun v w => BV v (0 ≤ x1.toInt ∧ x1.toInt < (F (P 0 8) 13).toInt) ∧ v = w) (p2_of v_cRoom (v_dRoom S) (fun a b h h' => ⟨h, h.eq h' (by rw [CX.rooms N.1])⟩)) ?_
  rintro v w ⟨b, rfl⟩
  rcases b with ⟨rfl, p⟩ | ⟨rfl, p⟩
  · refine p2_cl (fun c => absurd c (by decide)) (fun _ => p2_cr (fun c => absurd c (by decide)) (fun _ => ?_))
    refine p2_call (R := fun v w => BV v (0 ≤ x2.toInt ∧ x2.toInt < (F (P 0 8) 13).toInt) ∧ v = w) (p2_of v_cRoom (v_dRoom S) (fun a b h h' => ⟨h, h.eq h' (by rw [CX.rooms N.1])⟩)) ?_
    rintro v w ⟨b, rfl⟩
    rcases b with ⟨rfl, q⟩ | ⟨rfl, q⟩
    · refine p2_cl (fun _ => p2_cr (fun _ => ?_) (fun c => absurd c (by decide))) (fun c => absurd c (by decide))
      refine p2_r r_takes ?_
      rintro ⟨u, F6, A7, J8⟩ ⟨t1, cp⟩
      dsimp only at t1 cp ⊢
      obtain rfl : Fm = F6 := t1.symm
      refine p2_br (fun b hb => ?_)
      obtain ⟨-, wi, mb⟩ := X.ways G cp hb
      obtain ⟨u2, F10, A11, J12⟩ := b
      dsimp only at wi mb ⊢
      refine p2_l (mb p q) ?_
      rintro ⟨v5, P6, F7, A8, J9⟩ e5
      dsimp only at e5 ⊢
      refine p2_br (fun v13 h13 => ?_)
      have g13 := (gm h13).2.2
      rw [i_8 (by omega) (by omega)] at g13
      have w1 := (wi x1.toInt x2.toInt p.1 (by omega) q.1 (by omega)).1
      have e13 : v5.toInt = v13.toInt := e5.trans g13.symm
      have le : v13.toInt ≤ 1000000 := by
        have w2 : mx A11 x1.toInt x2.toInt ≤ 1000000 := w1.2
        omega
      refine p2_cl (fun c => ?_) (fun c => ?_)
      · rw [i_lt, lF] at c
        refine p2_cr (fun _ => p2_br (fun v15 h15 => p2_some (i_ext ?_))) (fun c2 => ?_)
        · have g15 := (gm h15).2.2
          rw [i_8 (by omega) (by omega)] at g15
          show v5.toInt = v15.toInt
          omega
        · rw [i_nne, lF] at c2
          omega
      · rw [i_nlt, lF] at c
        refine p2_cr (fun c2 => ?_) (fun _ => p2_some rfl)
        rw [i_ne, lF] at c2
        omega
    · exact p2_cl (fun c => absurd c (by decide)) (fun _ => p2_cr (fun c => absurd c (by decide)) (fun _ => p2_some rfl))
  · exact p2_cl (fun _ => p2_cr (fun _ => p2_some rfl) (fun c => absurd c (by decide))) (fun c => absurd c (by decide))
theorem v_dIn : po (d_in x1 x2 x3) (fun v => BV v (x2.toInt ≤ x1.toInt ∧ x1.toInt ≤ x3.toInt)) := by
  unfold d_in
  refine po_cond (fun c => po_some (.inr ⟨rfl, ?_⟩)) (fun c => ?_)
  · rw [i_lt] at c
    omega
  · rw [i_nlt] at c
    refine po_cond (fun c2 => po_some (.inr ⟨rfl, ?_⟩)) (fun c2 => po_some (.inl ⟨rfl, ?_⟩))
    · rw [i_gt] at c2
      omega
    · rw [i_ngt] at c2
      omega
theorem p2_where (X : XR P F A Fm Am) (G : Gc P F A) (S : SAm Fm Am) : P2 (e_SleepWork_where n P F A J x1 x2) (d_where m Fm Am Jm x1 x2) (fun a b => a.1 = b.1) := by
  have N := X.1
  have ct := N.ct
  have hs := N.sd
  have nn := N.nn
  unfold e_SleepWork_where d_where
  refine p2_call (R := fun v w => BV v (0 ≤ x1.toInt ∧ x1.toInt < (F (P 0 8) 17).toInt) ∧ v = w) (p2_of v_cMan (v_dMan S) (fun a b h h' => ⟨h, h.eq h' (by rw [CX.men N.1])⟩)) ?_
  rintro v w ⟨b, rfl⟩
  rcases b with ⟨rfl, p⟩ | ⟨rfl, p⟩
  · refine p2_cl (fun c => absurd c (by decide)) (fun _ => p2_cr (fun c => absurd c (by decide)) (fun _ => ?_))
    refine p2_br (fun v3 h3 => p2_r v_dIn (fun v4 b4 => ?_))
    have g3 := (gm h3).2.2
    rw [i_0] at b4
    rcases b4 with ⟨rfl, q⟩ | ⟨rfl, q⟩
    · refine p2_cr (fun _ => ?_) (fun c => absurd c (by decide))
      refine p2_cl (fun c => ?_) (fun _ => ?_)
      · rw [i_lt, i_0] at c
        omega
      refine p2_bl (fun _ hk => ?_)
      obtain rfl := (gg_chk hk).2.symm
      refine p2_cl (fun _ => ?_) (fun c => ?_)
      · refine p2_bl (fun _ hk => ?_)
        obtain rfl := (gg_chk hk).2.symm
        refine p2_bl (fun v7 h7 => p2_bl (fun v8 h8 => ?_))
        have g7 := (gl h7).2.2
        have g8 := (gl h8).2.2
        refine p2_r r_takes ?_
        rintro ⟨u, F7, A8, J9⟩ ⟨t1, cp⟩
        dsimp only at t1 cp ⊢
        obtain rfl : Fm = F7 := t1.symm
        refine p2_br (fun b hb => ?_)
        obtain ⟨⟨fF, fA⟩, -, mb⟩ := X.ways G cp hb
        obtain ⟨N7, B7, -, -, -⟩ := X.take cp
        obtain ⟨u2, F11, A12, J13⟩ := b
        dsimp only at fF fA mb ⊢
        obtain rfl : Fm = F11 := fF.symm
        refine p2_br (fun v14 h14 => p2_br (fun v15 h15 => ?_))
        have g14 := (gm h14).2.2
        have g15 := (gm h15).2.2
        rw [ix6 hs (by omega), ai_fr (fA 30 (by decide)), ← N7.hm p.1 p.2] at g14
        rw [kx1 (k := 42) (by decide) (by decide) (by omega), ai_fr (fA 48 (by decide))] at g15
        have y12 := N.hy.2.2.2.1 _ p.1 p.2
        have e7 : v7 = v14 := i_ext (by omega)
        obtain ⟨L, -⟩ := B7.mn p.1 p.2
        rw [← g8, ← g15] at L
        refine p2_cl (fun c => ?_) (fun c => ?_)
        · rw [i_ge, i_0] at c
          rcases L with ⟨a, -, -⟩ | ⟨t0, t1, u0, u1, ae⟩
          · omega
          have s6 := N.s6 t0
          have y4 := N.hy.2.1 _ t0 t1
          refine p2_bl (fun _ hk => ?_)
          obtain rfl := (gg_chk hk).2.symm
          refine p2_bl (fun v11 h11 => p2_bl (fun v12 h12 => ?_))
          have g11 : v11.toInt = v15.toInt := by
            rw [gg_div6 h11, i_div6 c]
            omega
          have g12 := (gl h12).2.2
          rw [g11] at g12
          refine p2_l (mb (x1 := v7) (x2 := v12) (by omega) (by omega)) ?_
          rintro ⟨v13, P14, F15, A16, J17⟩ e13
          dsimp only at e13 ⊢
          refine p2_cr (fun _ => ?_) (fun c2 => ?_)
          · refine p2_br (fun v17 h17 => p2_br (fun v18 h18 => p2_br (fun v19 h19 => ?_)))
            have g17 := (gm h17).2.2
            rw [kx1 (k := 42) (by decide) (by decide) (by omega), ai_fr (fA 48 (by decide)), ← g15] at g17
            have g18 := (gm h18).2.2
            rw [ix6 hs (by omega), ai_fr (fA 20 (by decide)), g17, ← N7.rm t0 t1] at g18
            have e12 : v12 = v18 := i_ext (by omega)
            have g19 := (gm h19).2.2
            rw [i_8 (by omega) (by omega), ← e12, ← e7] at g19
            have e19 : v13 = v19 := i_ext (e13.trans g19.symm)
            rw [← e19]
            refine p2_cl (fun c3 => p2_cr (fun _ => p2_some e7) (fun c4 => ?_)) (fun c3 => p2_cr (fun c4 => ?_) (fun _ => p2_some e12))
            · rw [c3] at c4
              cases c4
            · rw [c3] at c4
              cases c4
          · rw [i_nge, i_0] at c2
            omega
        · rw [i_nge, i_0] at c
          refine p2_cr (fun c2 => ?_) (fun _ => p2_some e7)
          rw [i_ge, i_0] at c2
          rcases L with ⟨-, a, -⟩ | ⟨t0, t1, u0, u1, ae⟩
          · omega
          · omega
      · rw [i_nle] at c
        omega
    · refine p2_cr (fun c => absurd c (by decide)) (fun _ => ?_)
      refine p2_cl (fun _ => p2_some rfl) (fun c => ?_)
      rw [i_nlt, i_0] at c
      refine p2_bl (fun _ hk => ?_)
      obtain rfl := (gg_chk hk).2.symm
      refine p2_cl (fun c2 => ?_) (fun _ => p2_some rfl)
      rw [i_le] at c2
      exact absurd ⟨c, by omega⟩ q
  · exact p2_cl (fun _ => p2_cr (fun _ => p2_some rfl) (fun c => absurd c (by decide))) (fun c => absurd c (by decide))
/-- the trial, on both sides: a copy of now -/
theorem XR.trial {z : cR Unit} (X : XR P F A Fm Am) (G : Gc P F A) (cp : CPm 47 48 0 0 0 Am A7) (h1 : ∀ r k, r ≠ 32 → F1 r k = F r k) (cv : CVv P F1 A 33 2 z) : NHx (P 0 8) z.2.2.1 z.2.2.2.1 Fm A7 ∧ SBx True (P 0 8) 33 z.2.2.1 z.2.2.2.1 A7 48 0 ∧ (z.2.2.1 33 7).toInt = ai A7 48 78 ∧ (z.2.2.1 33 8).toInt = ai A7 48 79 ∧ B7 (z.2.2.1 33 7) ∧ WCx (P 0 8) z.2.2.1 z.2.2.2.1 := by
  obtain ⟨N7, -, -, -, -⟩ := X.take cp
  obtain ⟨-, c2, c3, c4⟩ := cv
  have lv := G.live
  have hF8 : ∀ k, z.2.2.1 (P 0 8) k = F (P 0 8) k := fun k => (c2 _ k (by omega)).trans (h1 _ k (by omega))
  have hA8 : ∀ o, z.2.2.2.1 (P 0 8) o = A (P 0 8) o := fun o => c3 _ o (by omega)
  have t48 : ∀ i, 0 ≤ i → i < 100 → ai A7 48 i = ai Am 47 i := fun i i0 i1 => by
    have w := cp.2.1 i i0 i1
    rw [Int.zero_add] at w
    exact w
  have hS : SOK (SS (P 0 8) F A) := SS.ok X.1.ct.2.2.2.2.2
  have s : SS (P 0 8) F A (z.2.2.1 33) (z.2.2.2.1 33) (fun i => ai A7 48 i) := hS _ _ _ _ _ _ ((SE.of (fun k => h1 2 k (by decide)) (fun _ => rfl)).tr c4) t48 X.2.2.1.1
  obtain ⟨s1, s2, s3, s4, s5, s6, s7⟩ := s.hs (hF8 17) (hF8 16) (hA8 5)
  exact ⟨N7.fr hF8 (fun o _ => hA8 o) rfl (fun _ _ _ => rfl), SBx.mk0 s1 s2 s3 (fun m m0 m1 => ⟨(s4 m m0 m1).1, (s4 m m0 m1).2.1, (s4 m m0 m1).2.2.1, fun _ => (s4 m m0 m1).2.2.2⟩), s5, s6, s7.1, X.2.2.2.1.cg hF8 (fun o _ => hA8 o) ((c2 36 101 (by decide)).trans (h1 36 101 (by decide))) (c3 36 2 (by decide))⟩
/-- a night till a minute, on both sides -/
theorem p2_till {q : Nat} {E : Int} {ex : Prop} (H : NHx h F A Fm Am) (hq : c_kind q = 2) (S : SBx ex h q F A Am 48 0) (W : WCx h F A) (SH : SHx ex q F Am) (hsh : F q 7 ≠ -1) (AR : ∀ (m : Nat) (b : mR Unit), d_fillsWays m Fm Am Jm = some b → ∃ D, WDx h F A (F q 7) D ∧ ARx ex h (F h 18).toInt F A b.2.2.1 D) (ex1 : x1.toInt = E) (ey1 : y1.toInt = E) (EN : E ≤ (F h 18).toInt) : P2 (e_Sleep_goTill n P F A J x1 h q) (d_goesTill m Fm Am Jm y1) (fun a b => ∀ m : Int, 0 ≤ m → m < (F h 17).toInt → ci a.2.2.2.1 q 5 m = ai b.2.2.1 55 m) := by
  intro a b ha hb
  have y18 := H.hy.2.2.2.2
  have h36 : h ≠ 36 := k6ne H.kd
  unfold d_goesTill at hb
  obtain ⟨⟨u, F3, A3, J3⟩, hf, h6⟩ := Option.bind_eq_some_iff.mp hb
  obtain ⟨f3, a3⟩ := fw_d_fillsWays FW.rfl' _ hf
  obtain ⟨D, WD, ar⟩ := AR _ _ hf
  dsimp only at f3 a3 ar h6
  obtain rfl : Fm = F3 := f3.symm
  have H3 : NHx h F A Fm A3 := H.fr (fun _ => rfl) (fun _ _ => rfl) rfl (fun j _ _ => a3 j (by omega))
  have S3 : SBx ex h q F A A3 48 0 := S.cg rfl rfl rfl (fun _ _ _ => rfl) (a3 48 (by decide))
  have SH3 : SHx ex q F A3 := SH.cg rfl rfl (by rw [ai_fr (a3 48 (by decide))]) (by rw [ai_fr (a3 48 (by decide))])
  obtain ⟨P', F', hF', Q⟩ := p2_goTill (E := E) (N := (F h 18).toInt) H3 hq S3 W SH3 WD hsh ar EN y18.2 rfl ex1 ey1 a b ha h6
  obtain ⟨-, q5, -⟩ := Q
  rw [hF' h 17 (fun e => h36 e.1)] at q5
  exact q5
theorem p2_strokes (X : XR P F A Fm Am) (G : Gc P F A) (S : SAm Fm Am) (hn : 1500 ≤ n) : P2 (e_SleepWork_strokes n P F A J x1 x2) (d_strokes m Fm Am Jm x1 x2) (fun a b => a.1 = b.1) := by
  have N := X.1
  have ct := N.ct
  have nn := N.nn
  unfold e_SleepWork_strokes d_strokes
  refine p2_call (R := fun v w => BV v (0 ≤ x1.toInt ∧ x1.toInt < (F (P 0 8) 17).toInt) ∧ v = w) (p2_of v_cMan (v_dMan S) (fun a b h h' => ⟨h, h.eq h' (by rw [CX.men N.1])⟩)) ?_
  rintro v w ⟨b, rfl⟩
  rcases b with ⟨rfl, p⟩ | ⟨rfl, p⟩
  · refine p2_cl (fun c => absurd c (by decide)) (fun _ => p2_cr (fun c => absurd c (by decide)) (fun _ => ?_))
    refine p2_br (fun v3 h3 => p2_r v_dIn (fun v4 b4 => ?_))
    have g3 := (gm h3).2.2
    rw [i_0] at b4
    rcases b4 with ⟨rfl, q⟩ | ⟨rfl, q⟩
    · refine p2_cr (fun _ => ?_) (fun c => absurd c (by decide))
      refine p2_cl (fun c => ?_) (fun _ => ?_)
      · rw [i_lt, i_0] at c
        omega
      refine p2_bl (fun _ hk => ?_)
      obtain rfl := (gg_chk hk).2.symm
      refine p2_cl (fun _ => ?_) (fun c => ?_)
      · unfold e_Evening_strokesTill
        intro a b ha0 hb0
        obtain ⟨r, hr0, ha⟩ := Option.bind_eq_some_iff.mp ha0
        obtain ⟨z, hz, hr⟩ := Option.bind_eq_some_iff.mp hr0
        obtain ⟨⟨u, F7, A8, J9⟩, ht, hb⟩ := Option.bind_eq_some_iff.mp hb0
        obtain ⟨t1, cp⟩ := r_takes _ ht
        dsimp only at t1 cp hb
        obtain rfl : Fm = F7 := t1.symm
        have cv := v_copy (r0 := 33) (r1 := 2) (by decide) z hz
        obtain ⟨N8, B8, s7, s8, s0, W8⟩ := X.trial G cp (fun _ _ _ => rfl) cv
        obtain ⟨e1, q8, -, -⟩ := (q_trial G).po z hz
        have G8 := q8.g G
        have hF8 : ∀ k, z.2.2.1 (P 0 8) k = F (P 0 8) k := fun k => cv.2.1 _ k (fun e => absurd G.k08 (by rw [e]; decide))
        obtain ⟨uz, Pz, Fz, Az, Jz⟩ := z
        dsimp only at e1 s7 s8 s0 N8 B8 W8 G8 hF8 hr
        subst e1
        obtain ⟨q6, c6, hr⟩ := Option.bind_eq_some_iff.mp hr
        obtain rfl := (gg_chk c6).2.symm
        obtain ⟨w, hw, hr⟩ := Option.bind_eq_some_iff.mp hr
        obtain ⟨w2, hw2, hb⟩ := Option.bind_eq_some_iff.mp hb
        rw [G8.2.2.1] at hw
        have hsh : Fz 33 7 ≠ -1 := fun e => by rw [e] at s0; exact b7_m1 s0
        have e5 := p2_till (ex := True) (E := x2.toInt) N8 (by decide : c_kind 33 = 2) B8 W8 (fun _ => ⟨s7, s8⟩) hsh (fun m' b' hb' => AR_exact N8 G8.1 G8.2.2.2.1 B8 s7 hb') rfl rfl (by rw [hF8]; omega) w w2 hw hw2 x1.toInt p.1 (by rw [hF8]; exact p.2)
        obtain ⟨uw, Pw, Fw, Aw, Jw⟩ := w
        obtain ⟨uw2, Fw2, Aw2, Jw2⟩ := w2
        dsimp only at e5 hr hb
        obtain ⟨v12, h12, hr⟩ := Option.bind_eq_some_iff.mp hr
        obtain ⟨v14, h14, hb⟩ := Option.bind_eq_some_iff.mp hb
        obtain rfl := Option.some.inj hb
        obtain rfl := Option.some.inj hr
        obtain rfl := Option.some.inj ha
        show v12 = v14
        exact i_ext (by rw [(gl h12).2.2, (gm h14).2.2]; exact e5)
      · rw [i_nle] at c
        omega
    · refine p2_cr (fun c => absurd c (by decide)) (fun _ => ?_)
      refine p2_cl (fun _ => p2_some rfl) (fun c => ?_)
      rw [i_nlt, i_0] at c
      refine p2_bl (fun _ hk => ?_)
      obtain rfl := (gg_chk hk).2.symm
      refine p2_cl (fun c2 => ?_) (fun _ => p2_some rfl)
      rw [i_le] at c2
      exact absurd ⟨c, by omega⟩ q
  · exact p2_cl (fun _ => p2_cr (fun _ => p2_some rfl) (fun c => absurd c (by decide))) (fun c => absurd c (by decide))
/-- what a try wins, on both sides -/
theorem p2_trialGain (G : Gc P F A) (L : LVc A (P 0 8) 33) (H : NHx (P 0 8) F A Fm Am) (B : SBx True (P 0 8) 33 F A Am 48 0) (W : WCx (P 0 8) F A) (s7 : (F 33 7).toInt = ai Am 48 78) (s8 : (F 33 8).toInt = ai Am 48 79) (s0 : B7 (F 33 7)) (wv : ∀ (m0 : Nat) (J0 : Nat → Nat → Int64) (v0 : Int32), d_worthNow m0 Fm Am J0 = some v0 → v0 = F 32 5) (hn : 1400 ≤ n) : P2 (e_Evening_gainOfTrial n P F A J) (d_wholeNight m Fm Am Jm) (fun a b => a.1 = b.1) := by
  have hsh : F 33 7 ≠ -1 := fun e => by rw [e] at s0; exact b7_m1 s0
  unfold e_Evening_gainOfTrial
  refine p2_bl (fun _ hk => ?_)
  obtain rfl := (gg_chk hk).2.symm
  refine p2_bl (fun _ hk => ?_)
  obtain rfl := (gg_chk hk).2.symm
  intro a b ha hb
  obtain ⟨w, hw, ha⟩ := Option.bind_eq_some_iff.mp ha
  have y18 : (F (P 0 8) 18).toInt ≤ 600 := H.hy.2.2.2.2.2
  obtain ⟨qw, fw⟩ := (fq_goTill (n := n) (J := J) (x1 := F (P 32 4) 18) G L (by rw [G.2.2.1]; exact y18) hn).po w hw
  rw [G.2.2.1] at hw
  obtain ⟨⟨m0, m1, J0, J1, v0, v1, hv0, hv1, eb⟩, N2, B2, -, -⟩ := p2_wn (ex := True) H (by decide : c_kind 33 = 2) B W (fun _ => ⟨s7, s8⟩) hsh (fun m' b' hb' => AR_exact H G.1 G.2.2.2.1 B s7 hb') rfl w b hw hb
  have e0 := wv m0 J0 v0 hv0
  obtain ⟨u, P4, F5, A6, J7⟩ := w
  dsimp only at qw fw hv1 eb N2 B2 ha
  have e4 : P4 32 4 = P 0 8 := (qw.1.1 32 4 (by decide)).trans G.2.2.1
  obtain ⟨q8, c8, ha⟩ := Option.bind_eq_some_iff.mp ha
  obtain rfl := (gg_chk c8).2.symm
  obtain ⟨v9, h9, ha⟩ := Option.bind_eq_some_iff.mp ha
  rw [e4] at h9
  have e9 : v9 = v1 := p2_worthAll N2 (fun k k0 k1 => B2.dn k0 k1) v9 v1 h9 hv1
  obtain rfl := Option.some.inj ha
  show v9 - F5 32 5 = b.1
  rw [eb, e9, fw 5, e0]
theorem p2_gain (X : XR P F A Fm Am) (G : Gc P F A) (S : SAm Fm Am) (hn : 1500 ≤ n) : P2 (e_SleepWork_gain n P F A J) (d_gain m Fm Am Jm) (fun a b => a.1 = b.1) := by
  unfold e_SleepWork_gain d_gain
  intro a b ha hb
  obtain ⟨r, hr, ha⟩ := Option.bind_eq_some_iff.mp ha
  obtain ⟨⟨u, F2, A3, J4⟩, ht, hb⟩ := Option.bind_eq_some_iff.mp hb
  obtain ⟨t1, cp⟩ := r_takes _ ht
  dsimp only at t1 cp hb
  obtain rfl : Fm = F2 := t1.symm
  obtain ⟨w, hw, hb⟩ := Option.bind_eq_some_iff.mp hb
  unfold e_Evening_gainAsItIs at hr
  obtain ⟨q1, c1, hr⟩ := Option.bind_eq_some_iff.mp hr
  obtain rfl := (gg_chk c1).2.symm
  obtain ⟨v2, h2, hr⟩ := Option.bind_eq_some_iff.mp hr
  obtain ⟨F3, h3, hr⟩ := Option.bind_eq_some_iff.mp hr
  obtain ⟨z, hz, hr⟩ := Option.bind_eq_some_iff.mp hr
  obtain ⟨g, hg, hr⟩ := Option.bind_eq_some_iff.mp hr
  have U3 := gg_cpf h3
  have q3 := (QKc.rfl' (P := P) G.1).pf U3 trivial (by decide)
  have G3 := q3.g G
  have h1 : ∀ r k, r ≠ 32 → F3 r k = F r k := fun r k hr => U3.2 r k (fun e => hr e.1)
  have cv := v_copy (r0 := 33) (r1 := 2) (by decide) z hz
  obtain ⟨N8, B8, s7, s8, s0, W8⟩ := X.trial G cp h1 cv
  obtain ⟨e1, q8, L8, -⟩ := (q_trial G3).po z hz
  have G8 := q8.g G3
  have e5 : z.2.2.1 32 5 = v2 := (cv.2.1 32 5 (by decide)).trans U3.1
  obtain ⟨N, B, -, -, -⟩ := X.take cp
  obtain ⟨uz, Pz, Fz, Az, Jz⟩ := z
  dsimp only at e1 s7 s8 s0 N8 B8 W8 G8 L8 e5 hg
  subst e1
  rw [G.2.2.1] at h2
  have ev := p2_trialGain G8 L8 N8 B8 W8 s7 s8 s0 (fun m0 J0 v0 hv0 => by
    rw [e5]
    exact (p2_worthAll N (fun k k0 k1 => B.dn k0 k1) v2 v0 h2 hv0).symm) (by omega) g w hg hw
  obtain ⟨vg, Pg, Fg, Ag, Jg⟩ := g
  obtain ⟨vw, Fw, Aw, Jw⟩ := w
  obtain rfl := Option.some.inj hr
  obtain rfl := Option.some.inj ha
  obtain rfl := Option.some.inj hb
  exact ev
end H9fk
