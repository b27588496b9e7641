section H9ez8
variable {h q : Nat} {k l k' l' N x E : Int} {ex : Prop} {P : Nat → Nat → Nat} {F F' : Nat → Nat → Int32} {A A' A1 : Nat → Nat → Nat → Int32} {J : Nat → Nat → Nat → Int64} {Fm Fm' : Nat → Int32} {Am Am' Am1 : Nat → Nat → Int32} {Jm : Nat → Nat → Int64} {x1 x2 x4 x5 y1 y2 y3 : Int32} {D : Int → Int → Int} {sh : Int32} {β γ δ : Type}
/-- a man gets up, in the reference -/
def GUx (y : Int) (Fm : Nat → Int32) (Am Am' : Nat → Nat → Int32) : Prop := (∀ j, j ≠ 48 → j ≠ 50 → j ≠ 51 → j ≠ 54 → j ≠ 55 → j ≠ 56 → Am' j = Am j) ∧ (∀ i, 0 ≤ i → i ≠ 66 + y → ai Am' 48 i = ai Am 48 i) ∧ (∀ j, 50 ≤ j → j ≤ 56 → ∀ m, 0 ≤ m → m ≠ y → ai Am' j m = ai Am j m) ∧ ai Am' 55 y = 0 ∧ ai Am' 56 y = 0 ∧ ai Am' 54 y = ai Am 48 (48 + y) ∧ ((ai Am 48 (42 + y) < 0 ∧ ai Am' 50 y = 0 ∧ ai Am' 48 (66 + y) = -2) ∨ (0 ≤ ai Am 48 (42 + y) ∧ ∃ e, e = ai Am 49 (8 * ai Am 30 (6 * (Fm 18).toInt + y) + ai Am 20 (6 * (Fm 18).toInt + ai Am 48 (42 + y))) ∧ ai Am' 51 y = e ∧ ((e ≠ 1000000 ∧ ai Am' 50 y = 1 ∧ ai Am' 48 (66 + y) = -2) ∨ (e = 1000000 ∧ ai Am' 50 y = 3 ∧ ai Am' 48 (66 + y) = 0))))
theorem v_getsUp {y : Int} (hs : 0 ≤ (Fm 18).toInt ∧ (Fm 18).toInt ≤ 1) (ey : y2.toInt = y) (y0 : 0 ≤ y) (y6 : y < 6) (ht : ai Am 48 (42 + y) ≤ 5) (hr : 0 ≤ ai Am 48 (42 + y) → (0 ≤ ai Am 30 (6 * (Fm 18).toInt + y) ∧ ai Am 30 (6 * (Fm 18).toInt + y) < 8) ∧ 0 ≤ ai Am 20 (6 * (Fm 18).toInt + ai Am 48 (42 + y)) ∧ ai Am 20 (6 * (Fm 18).toInt + ai Am 48 (42 + y)) < 8) : po (d_getsUp Fm Am Jm y2) (fun b => b.2.1 = Fm ∧ GUx y Fm Am b.2.2.1) := by
  have i42 := kx1 (c := 42) (x := y2) (k := 42) (by decide) (by decide) (by omega)
  have i48 := kx1 (c := 48) (x := y2) (k := 48) (by decide) (by decide) (by omega)
  have i66 := kx1 (c := 66) (x := y2) (k := 66) (by decide) (by decide) (by omega)
  have l2 : (-2 : Int32).toInt = -2 := by decide
  have lF : (1000000 : Int32).toInt = 1000000 := by decide
  have n0 : (vp_nar .boolean 0).toInt = 0 := by decide
  unfold d_getsUp
  refine po_bl (fun v1 h1 => po_bl (fun A2 h2 => po_bl (fun A3 h3 => po_bl (fun A4 h4 => po_bl (fun A5 h5 => po_bl (fun v6 h6 => po_bl (fun A7 h7 => ?_)))))))
  have g1 := (gm h1).2.2
  have M2 := gg_st h2
  have M3 := gg_st h3
  have M4 := gg_st h4
  have M5 := gg_st h5
  have g6 := (gm h6).2.2
  have M7 := gg_st h7
  rw [i42, ey] at g1
  rw [ey, i_0] at M2 M3
  rw [ey, n0] at M4
  rw [i66, ey, l2] at M5
  rw [i48, ey, M5.2.2.2.2 _ (by omega) (by omega), ai_fr (M4.2.2.1 48 (by decide)), ai_fr (M3.2.2.1 48 (by decide)), ai_fr (M2.2.2.1 48 (by decide))] at g6
  rw [ey, g6] at M7
  have o7 : ∀ j, j ≠ 48 → j ≠ 50 → j ≠ 54 → j ≠ 55 → j ≠ 56 → A7 j = Am j := fun j h48 h50 h54 h55 h56 => by rw [M7.2.2.1 j h54, M5.2.2.1 j h48, M4.2.2.1 j h56, M3.2.2.1 j h55, M2.2.2.1 j h50]
  have b48 : ∀ i, 0 ≤ i → i ≠ 66 + y → ai A7 48 i = ai Am 48 i := fun i i0 hi => by rw [ai_fr (M7.2.2.1 48 (by decide)), M5.2.2.2.2 i i0 hi, ai_fr (M4.2.2.1 48 (by decide)), ai_fr (M3.2.2.1 48 (by decide)), ai_fr (M2.2.2.1 48 (by decide))]
  have b66 : ai A7 48 (66 + y) = -2 := by rw [ai_fr (M7.2.2.1 48 (by decide))]; exact M5.2.2.2.1
  have b55 : ai A7 55 y = 0 := by rw [ai_fr (M7.2.2.1 55 (by decide)), ai_fr (M5.2.2.1 55 (by decide)), ai_fr (M4.2.2.1 55 (by decide))]; exact M3.2.2.2.1
  have b56 : ai A7 56 y = 0 := by rw [ai_fr (M7.2.2.1 56 (by decide)), ai_fr (M5.2.2.1 56 (by decide))]; exact M4.2.2.2.1
  have b50 : ai A7 50 y = 0 := by rw [ai_fr (M7.2.2.1 50 (by decide)), ai_fr (M5.2.2.1 50 (by decide)), ai_fr (M4.2.2.1 50 (by decide)), ai_fr (M3.2.2.1 50 (by decide))]; exact M2.2.2.2.1
  have bm : ∀ j, 50 ≤ j → j ≤ 56 → ∀ m, 0 ≤ m → m ≠ y → ai A7 j m = ai Am j m := fun j j0 j1 m m0 hm => by
    by_cases e0 : j = 50
    · subst e0
      rw [ai_fr (M7.2.2.1 50 (by decide)), ai_fr (M5.2.2.1 50 (by decide)), ai_fr (M4.2.2.1 50 (by decide)), ai_fr (M3.2.2.1 50 (by decide))]
      exact M2.2.2.2.2 m m0 hm
    by_cases e4 : j = 54
    · subst e4
      rw [M7.2.2.2.2 m m0 hm, ai_fr (M5.2.2.1 54 (by decide)), ai_fr (M4.2.2.1 54 (by decide)), ai_fr (M3.2.2.1 54 (by decide)), ai_fr (M2.2.2.1 54 (by decide))]
    by_cases e5 : j = 55
    · subst e5
      rw [ai_fr (M7.2.2.1 55 (by decide)), ai_fr (M5.2.2.1 55 (by decide)), ai_fr (M4.2.2.1 55 (by decide)), M3.2.2.2.2 m m0 hm, ai_fr (M2.2.2.1 55 (by decide))]
    by_cases e6 : j = 56
    · subst e6
      rw [ai_fr (M7.2.2.1 56 (by decide)), ai_fr (M5.2.2.1 56 (by decide)), M4.2.2.2.2 m m0 hm, ai_fr (M3.2.2.1 56 (by decide)), ai_fr (M2.2.2.1 56 (by decide))]
    rw [ai_fr (o7 j (by omega) e0 e4 e5 e6)]
  have b54 : ai A7 54 y = ai Am 48 (48 + y) := M7.2.2.2.1
  refine po_cond (fun c => ?_) (fun c => ?_)
  · rw [i_ge, i_0] at c
    obtain ⟨⟨h0, h1'⟩, r0, r1⟩ := hr (by omega)
    refine po_bl (fun v9 h9 => po_bl (fun v10 h10 => po_bl (fun v11 h11 => ?_)))
    have g9 := (gm h9).2.2
    have g10 := (gm h10).2.2
    have g11 := (gm h11).2.2
    rw [ix6 hs (by omega), ey, ai_fr (o7 30 (by decide) (by decide) (by decide) (by decide) (by decide))] at g9
    rw [ix6 hs (by omega), g1, ai_fr (o7 20 (by decide) (by decide) (by decide) (by decide) (by decide))] at g10
    rw [w_ix (by omega) (by omega) (by omega) (by omega), g9, g10, ai_fr (o7 49 (by decide) (by decide) (by decide) (by decide) (by decide))] at g11
    have gu : ∀ {s2 : Int32}, ((v11.toInt ≠ 1000000 ∧ s2.toInt = 1) ∨ (v11.toInt = 1000000 ∧ s2.toInt = 3)) → po (d_getsUp_117 Fm A7 Jm y2 v11 y2 s2) (fun b => b.2.1 = Fm ∧ GUx y Fm Am b.2.2.1) := fun {s2} hs2 => by
      unfold d_getsUp_117
      refine po_bl (fun A13 h13 => po_bl (fun A14 h14 => ?_))
      have M13 := gg_st h13
      have M14 := gg_st h14
      rw [ey] at M13 M14
      have c50 : ai A14 50 y = s2.toInt := by rw [ai_fr (M14.2.2.1 50 (by decide))]; exact M13.2.2.2.1
      have o14 : ∀ j, j ≠ 50 → j ≠ 51 → A14 j = A7 j := fun j h0 h1 => (M14.2.2.1 j h1).trans (M13.2.2.1 j h0)
      have m14 : ∀ j, 50 ≤ j → j ≤ 56 → ∀ m, 0 ≤ m → m ≠ y → ai A14 j m = ai Am j m := fun j j0 j1 m m0 hm => by
        rw [← bm j j0 j1 m m0 hm]
        by_cases e0 : j = 50
        · subst e0
          rw [ai_fr (M14.2.2.1 50 (by decide))]
          exact M13.2.2.2.2 m m0 hm
        by_cases e1 : j = 51
        · subst e1
          rw [M14.2.2.2.2 m m0 hm, ai_fr (M13.2.2.1 51 (by decide))]
        rw [ai_fr (o14 j e0 e1)]
      refine po_cond (fun c2 => po_some ⟨rfl, ?_⟩) (fun c2 => ?_)
      · rw [i_ne, lF] at c2
        refine ⟨fun j a b c' d e f => (o14 j b c').trans (o7 j a b d e f), fun i i0 hi => by rw [ai_fr (o14 48 (by decide) (by decide))]; exact b48 i i0 hi, m14, by rw [ai_fr (o14 55 (by decide) (by decide))]; exact b55, by rw [ai_fr (o14 56 (by decide) (by decide))]; exact b56, by rw [ai_fr (o14 54 (by decide) (by decide))]; exact b54, .inr ⟨by omega, _, rfl, by rw [M14.2.2.2.1]; exact g11, .inl ⟨by omega, (show ai A14 50 y = 1 by omega), by rw [ai_fr (o14 48 (by decide) (by decide))]; exact b66⟩⟩⟩
      · rw [i_nne, lF] at c2
        refine po_bl (fun A16 h16 => po_some ⟨rfl, ?_⟩)
        have M16 := gg_st h16
        rw [i66, ey, i_0] at M16
        have o16 : ∀ j, j ≠ 48 → A16 j = A14 j := M16.2.2.1
        refine ⟨fun j a b c' d e f => (o16 j a).trans ((o14 j b c').trans (o7 j a b d e f)), fun i i0 hi => by rw [M16.2.2.2.2 i i0 hi, ai_fr (o14 48 (by decide) (by decide))]; exact b48 i i0 hi, fun j j0 j1 m m0 hm => by rw [ai_fr (o16 j (by omega))]; exact m14 j j0 j1 m m0 hm, by rw [ai_fr (o16 55 (by decide)), ai_fr (o14 55 (by decide) (by decide))]; exact b55, by rw [ai_fr (o16 56 (by decide)), ai_fr (o14 56 (by decide) (by decide))]; exact b56, by rw [ai_fr (o16 54 (by decide)), ai_fr (o14 54 (by decide) (by decide))]; exact b54, .inr ⟨by omega, _, rfl, by rw [ai_fr (o16 51 (by decide)), M14.2.2.2.1]; exact g11, .inr ⟨by omega, by rw [ai_fr (o16 50 (by decide))]; omega, M16.2.2.2.1⟩⟩⟩
    refine po_cond (fun c2 => ?_) (fun c2 => ?_)
    · rw [i_ne, lF] at c2
      exact gu (.inl ⟨c2, by decide⟩)
    · rw [i_nne, lF] at c2
      exact gu (.inr ⟨c2, by decide⟩)
  · rw [i_nge, i_0] at c
    exact po_some ⟨rfl, fun j a b _ d e f => o7 j a b d e f, b48, bm, b55, b56, b54, .inl ⟨by omega, b50, b66⟩⟩
/-- when men arrive: alike, or both too late -/
def ARx (ex : Prop) (h : Nat) (N : Int) (F : Nat → Nat → Int32) (A : Nat → Nat → Nat → Int32) (Am : Nat → Nat → Int32) (D : Int → Int → Int) : Prop := ∀ m, 0 ≤ m → m < (F h 17).toInt → 0 ≤ ai Am 48 (42 + m) → (0 ≤ D (ci A h 12 m) (ci A h 4 (ai Am 48 (42 + m))) ∧ D (ci A h 12 m) (ci A h 4 (ai Am 48 (42 + m))) ≤ 1000000) ∧ (0 ≤ ai Am 49 (8 * ci A h 12 m + ci A h 4 (ai Am 48 (42 + m))) ∧ ai Am 49 (8 * ci A h 12 m + ci A h 4 (ai Am 48 (42 + m))) ≤ 1000000) ∧ (D (ci A h 12 m) (ci A h 4 (ai Am 48 (42 + m))) = ai Am 49 (8 * ci A h 12 m + ci A h 4 (ai Am 48 (42 + m))) ∨ (¬ ex ∧ N ≤ D (ci A h 12 m) (ci A h 4 (ai Am 48 (42 + m))) ∧ N ≤ ai Am 49 (8 * ci A h 12 m + ci A h 4 (ai Am 48 (42 + m)))))
def UPx (ex : Prop) (h q : Nat) (N : Int) (sh : Int32) (D : Int → Int → Int) (F : Nat → Nat → Int32) (A : Nat → Nat → Nat → Int32) (Fm : Nat → Int32) (Am : Nat → Nat → Int32) (x : Int) : Prop := NHx h F A Fm Am ∧ SBx ex h q F A Am 48 0 ∧ (WCx h F A ∧ SHx ex q F Am) ∧ (WDx h F A sh D ∧ F q 7 = sh ∧ sh ≠ -1) ∧ ARx ex h N F A Am D ∧ (∀ u, 0 ≤ u → u < 6 → ci A 36 8 u = 0) ∧ (∀ m, 0 ≤ m → m < x → MNx N h A Am 0 0 m ∧ ci A 36 4 m = -1)
theorem p2_up {fk : cR Unit → Option (cR Unit)} {F0 : Nat → Nat → Int32} {Q : cR Unit → mR Unit → Prop} (hq : c_kind q = 2) (e8 : P 36 8 = h) (e9 : P 36 9 = q) (hN : N ≤ 600)
    (kk : ∀ {m : Nat} {F : Nat → Nat → Int32} {A : Nat → Nat → Nat → Int32} {J : Nat → Nat → Nat → Int64} {Fm : Nat → Int32} {Am : Nat → Nat → Int32} {Jm : Nat → Nat → Int64}, (∀ r k, ¬ (r = 36 ∧ k = 101) → F r k = F0 r k) → NBx ex h q N F A Fm Am 0 0 0 0 0 → P2 (fk ((), P, F, A, J)) (d_goesTill_27 m Fm Am Jm y1 0) Q) : ∀ {n m : Nat} {F : Nat → Nat → Int32} {A : Nat → Nat → Nat → Int32} {J : Nat → Nat → Nat → Int64} {Fm : Nat → Int32} {Am : Nat → Nat → Int32} {Jm : Nat → Nat → Int64} {x1 y2 : Int32}, (∀ r k, ¬ (r = 36 ∧ k = 101) → F r k = F0 r k) → UPx ex h q N sh D F A Fm Am x1.toInt → x1.toInt = y2.toInt → 0 ≤ x1.toInt → P2 ((e_Sleep_getUp_2 n P F A J x1).bind fk) (d_goesTill_6 m Fm Am Jm y1 y2) Q := by
  have lm : (-1 : Int32).toInt = -1 := by decide
  have l2 : (-2 : Int32).toInt = -2 := by decide
  have lF : (1000000 : Int32).toInt = 1000000 := by decide
  intro n
  induction n with
  | zero => intro m F A J Fm Am Jm x1 y2 _ _ _ _ a b ha; cases ha
  | succ n ih =>
    intro m F A J Fm Am Jm x1 y2 oF U exy x0
    obtain ⟨H, S, ⟨W, SH⟩, ⟨WD, e7, hsh⟩, AR, z8, MM⟩ := U
    have ct := H.ct
    have hm := H.men
    have hs := H.sd
    have hk := H.kd
    have hne : h ≠ q := k62 hk hq
    have h36 : h ≠ 36 := k6ne hk
    have q36 : q ≠ 36 := k2ne hq
    cases m with
    | zero => intro a b _ hb; cases hb
    | succ m =>
      unfold e_Sleep_getUp_2 d_goesTill_6
      refine p2_bbl (fun _ hk => ?_)
      obtain rfl := (gg_chk hk).2.symm
      try rw [e8]
      refine p2_r v_menNow ?_
      intro v5 e5
      refine p2_bcl (fun c => ?_) (fun c => ?_)
      · rw [i_ge] at c
        refine p2_cr (fun _ => kk oF ⟨H, S, ⟨fun u u0 u1 => .inl (z8 u u0 u1), fun m m0 m1 hd => ?_, fun m m' m0 m1 _ _ hd => ?_⟩, ⟨W, SH⟩, fun m m0 m1 => ⟨fun h => by omega, fun _ => (MM m m0 (by omega)).1⟩⟩) (fun c2 => ?_)
        · have := (MM m m0 (by omega)).2
          omega
        · have := (MM m m0 (by omega)).2
          omega
        · rw [i_nge] at c2
          omega
      · rw [i_nge] at c
        refine p2_cr (fun c2 => ?_) (fun _ => ?_)
        · rw [i_ge] at c2
          omega
        have e11 := i_p1 (x := x1) (by omega)
        have e21 := i_p1 (x := y2) (by omega)
        obtain ⟨sl, s5, s6, s7⟩ := S.mn x0 c
        have tt : ai Am 48 (42 + x1.toInt) ≤ 5 ∧ (0 ≤ ai Am 48 (42 + x1.toInt) → ai Am 48 (42 + x1.toInt) < (F h 16).toInt) := by
          rcases sl with ⟨-, e, -⟩ | ⟨t0, t1, u0, u1, e⟩
          · omega
          · exact ⟨by omega, fun _ => t1⟩
        have hm12 := H.hm x0 c
        have y12 := H.hy.2.2.2.1 x1.toInt x0 c
        refine p2_r (v_getsUp (y := x1.toInt) (Jm := Jm) hs exy.symm x0 (by omega) tt.1 (fun t0 => ?_)) ?_
        · have r1 := H.rm t0 (tt.2 t0)
          have y4 := H.hy.2.1 _ t0 (tt.2 t0)
          rw [← hm12, ← r1]
          omega
        rintro ⟨_, Fm8, B, Jm10⟩ ⟨eFm, G⟩
        dsimp only at eFm G ⊢
        rw [eFm]
        obtain ⟨oB, b48, bm, b55, b56, b54, G⟩ := G
        refine p2_bbl (fun _ hk => ?_)
        obtain rfl := (gg_chk hk).2.symm
        try rw [e9]
        refine p2_bbl (fun v4 h4 => p2_bbl (fun A5 h5 => p2_bbl (fun A6 h6 => p2_bbl (fun A7 h7 => p2_bbl (fun A8 h8 => p2_bbl (fun _ hk => ?_))))))
        obtain rfl := (gg_chk hk).2.symm
        try rw [e9]
        refine p2_bbl (fun A10 h10 => ?_)
        have g4 := (gl h4).2.2
        have U5 := (gg_cst h5).2.2
        have U6 := (gg_cst h6).2.2
        have U7 := (gg_cst h7).2.2
        have U8 := (gg_cst h8).2.2
        have U10 := (gg_cst h10).2.2
        rw [lm] at U5
        rw [i_0] at U6 U7
        rw [lF] at U8
        rw [l2] at U10
        -- the class's rows so far
        have o10 : ∀ r o, ¬ (r = 36 ∧ (o = 3 ∨ o = 4 ∨ o = 6 ∨ o = 7)) → ¬ (r = q ∧ o = 7) → A10 r o = A r o := fun r o e e' => by rw [U10.2.2 r o e', U8.2.2 r o (fun z => e ⟨z.1, .inl z.2⟩), U7.2.2 r o (fun z => e ⟨z.1, .inr (.inr (.inr z.2))⟩), U6.2.2 r o (fun z => e ⟨z.1, .inr (.inr (.inl z.2))⟩), U5.2.2 r o (fun z => e ⟨z.1, .inr (.inl z.2)⟩)]
        have q10 : ∀ o, A10 36 o = A8 36 o := fun o => U10.2.2 36 o (fun e => q36 e.1.symm)
        have c4 : ci A10 36 4 x1.toInt = -1 := by rw [ci_fr (q10 4), ci_fr (U8.2.2 36 4 (by decide)), ci_fr (U7.2.2 36 4 (by decide)), ci_fr (U6.2.2 36 4 (by decide))]; exact U5.1
        have c6 : ci A10 36 6 x1.toInt = 0 := by rw [ci_fr (q10 6), ci_fr (U8.2.2 36 6 (by decide)), ci_fr (U7.2.2 36 6 (by decide))]; exact U6.1
        have c7 : ci A10 36 7 x1.toInt = 0 := by rw [ci_fr (q10 7), ci_fr (U8.2.2 36 7 (by decide))]; exact U7.1
        have c3 : ci A10 36 3 x1.toInt = 1000000 := by rw [ci_fr (q10 3)]; exact U8.1
        have cq7 : ci A10 q 7 x1.toInt = -2 := U10.1
        have m10 : ∀ m, 0 ≤ m → m ≠ x1.toInt → ∀ o, 3 ≤ o → o ≤ 7 → ci A10 36 o m = ci A 36 o m := fun m m0 hm o o0 o1 => by
          rw [ci_fr (q10 o)]
          by_cases f3 : o = 3
          · subst f3
            rw [U8.2.1 m m0 hm, ci_fr (U7.2.2 36 3 (by decide)), ci_fr (U6.2.2 36 3 (by decide)), ci_fr (U5.2.2 36 3 (by decide))]
          by_cases f4 : o = 4
          · subst f4
            rw [ci_fr (U8.2.2 36 4 (by decide)), ci_fr (U7.2.2 36 4 (by decide)), ci_fr (U6.2.2 36 4 (by decide)), U5.2.1 m m0 hm]
          by_cases f6 : o = 6
          · subst f6
            rw [ci_fr (U8.2.2 36 6 (by decide)), ci_fr (U7.2.2 36 6 (by decide)), U6.2.1 m m0 hm, ci_fr (U5.2.2 36 6 (by decide))]
          by_cases f7 : o = 7
          · subst f7
            rw [ci_fr (U8.2.2 36 7 (by decide)), U7.2.1 m m0 hm, ci_fr (U6.2.2 36 7 (by decide)), ci_fr (U5.2.2 36 7 (by decide))]
          rw [ci_fr (U8.2.2 36 o (fun e => f3 e.2)), ci_fr (U7.2.2 36 o (fun e => f7 e.2)), ci_fr (U6.2.2 36 o (fun e => f6 e.2)), ci_fr (U5.2.2 36 o (fun e => f4 e.2))]
        have mq7 : ∀ m, 0 ≤ m → m ≠ x1.toInt → ci A10 q 7 m = ci A q 7 m := fun m m0 hm => by rw [U10.2.1 m m0 hm, ci_fr (U8.2.2 q 7 (fun e => q36 e.1)), ci_fr (U7.2.2 q 7 (fun e => q36 e.1)), ci_fr (U6.2.2 q 7 (fun e => q36 e.1)), ci_fr (U5.2.2 q 7 (fun e => q36 e.1))]
        -- what has to be shown of the rows behind this man
        have go : ∀ {F' : Nat → Nat → Int32} {A' : Nat → Nat → Nat → Int32} {J' : Nat → Nat → Nat → Int64}, (∀ r k, ¬ (r = 36 ∧ k = 101) → F' r k = F r k) → WCx h F' A' → (∀ r o, ¬ (r = 36 ∧ (o = 2 ∨ o = 3 ∨ o = 4 ∨ o = 5 ∨ o = 6 ∨ o = 7)) → ¬ (r = q ∧ o = 7) → A' r o = A r o) → (∀ m, 0 ≤ m → m ≠ x1.toInt → (∀ o, 3 ≤ o → o ≤ 7 → ci A' 36 o m = ci A 36 o m) ∧ ci A' q 7 m = ci A q 7 m) → (ex → ci A' q 7 x1.toInt = ai B 48 (66 + x1.toInt)) → MNx N h A' B 0 0 x1.toInt → ci A' 36 4 x1.toInt = -1 → P2 ((e_Sleep_getUp_2 n P F' A' J' (x1 + 1)).bind fk) (d_goesTill_6 m Fm B Jm10 y1 (y2 + 1)) Q := fun {F' A' J'} fF w oA mA hx M d4 => by
          have oh : ∀ o, A' h o = A h o := fun o => oA h o (fun e => h36 e.1) (fun e => hne e.1)
          have oq : ∀ o, o ≠ 7 → A' q o = A q o := fun o ho => oA q o (fun e => q36 e.1) (fun e => ho e.2)
          have fh : ∀ k, F' h k = F h k := fun k => fF h k (fun e => h36 e.1)
          refine ih (fun r k e => (fF r k e).trans (oF r k e)) ⟨H.fr fh (fun o _ => oh o) rfl (fun j j8 j44 => oB j (by omega) (by omega) (by omega) (by omega) (by omega) (by omega)), ?_, ⟨w, SH.cg (fF q 7 (fun e => q36 e.1)) (fF q 8 (fun e => q36 e.1)) (b48 78 (by decide) (by omega)) (b48 79 (by decide) (by omega))⟩, ⟨WD.cg fh (fun o _ => oh o), by rw [fF q 7 (fun e => q36 e.1)]; exact e7, hsh⟩, ?_, ?_, fun m m0 m1 => ?_⟩ (by omega) (by omega)
          · refine SBx.mk0 (fun k k0 k1 => ?_) (fun k k0 k1 => ?_) (fun k k0 k1 => ?_) (fun m m0 m1 => ?_)
            · rw [ci_fr (oq 1 (by decide)), b48 _ (by omega) (by omega)]; exact S.dn k0 k1
            · rw [ci_fr (oq 2 (by decide)), b48 _ (by omega) (by omega)]; exact S.sf k0 k1
            · rw [ci_fr (oq 4 (by decide)), b48 _ (by omega) (by omega)]; exact S.tl k0 k1
            · rw [fh] at m1
              obtain ⟨z1, z2, z3, z4⟩ := S.mn m0 m1
              refine ⟨?_, ?_, ?_, fun hx' => ?_⟩
              · rw [ci_fr (oq 3 (by decide)), b48 _ (by omega) (by omega), b48 _ (by omega) (by omega)]
                exact z1.cg (fh 16) (oh 5)
              · rw [ci_fr (oq 5 (by decide)), b48 _ (by omega) (by omega)]; exact z2
              · rw [ci_fr (oq 6 (by decide)), b48 _ (by omega) (by omega)]; exact z3
              · by_cases e : m = x1.toInt
                · rw [e]; exact hx hx'
                · rw [(mA m m0 e).2, b48 _ (by omega) (by omega)]; exact z4 hx'
          · intro m m0 m1 ht
            rw [fh] at m1
            have ht' : 0 ≤ ai Am 48 (42 + m) := by rw [← b48 _ (by omega) (by omega)]; exact ht
            rw [b48 _ (by omega) (by omega), ci_fr (oh 12), ci_fr (oh 4), ai_fr (oB 49 (by decide) (by decide) (by decide) (by decide) (by decide) (by decide))]
            exact AR m m0 m1 ht'
          · intro u u0 u1
            rw [ci_fr (oA 36 8 (by simp) (fun e => q36 e.1.symm))]
            exact z8 u u0 u1
          · by_cases e : m = x1.toInt
            · rw [e]
              exact ⟨M, d4⟩
            · obtain ⟨z1, z2⟩ := MM m m0 (by omega)
              have z := (mA m m0 e).1
              refine ⟨z1.cg (oh 5) (z 3 (by decide) (by decide)) (z 4 (by decide) (by decide)) (z 5 (by decide) (by decide)) (z 6 (by decide) (by decide)) (z 7 (by decide) (by decide)) (fun j j0 j1 => bm j j0 j1 m m0 e) (b48 _ (by omega) (by omega)), ?_⟩
              rw [z 4 (by decide) (by decide)]
              exact z2
        have lqa : (ci A q 3 x1.toInt < 0 ↔ ai Am 48 (42 + x1.toInt) < 0) ∧ (0 ≤ ai Am 48 (42 + x1.toInt) → ci A q 3 x1.toInt / 6 = ai Am 48 (42 + x1.toInt) ∧ ci A q 3 x1.toInt % 6 = ai Am 48 (48 + x1.toInt) ∧ 0 ≤ ai Am 48 (48 + x1.toInt) ∧ ai Am 48 (48 + x1.toInt) < ci A h 5 (ai Am 48 (42 + x1.toInt))) ∧ (ai Am 48 (42 + x1.toInt) < 0 → ai Am 48 (42 + x1.toInt) = -1 ∧ ai Am 48 (48 + x1.toInt) = -1) := by
          rcases sl with ⟨e1, e2, e3⟩ | ⟨t0, t1, u0, u1, e⟩
          · omega
          · have s6' := H.s6 t0
            omega
        refine p2_bcl (fun cl => ?_) (fun cl => ?_)
        · rw [i_lt, i_0] at cl
          unfold e_Sleep_getUp_145
          obtain ⟨n1, n2⟩ := lqa.2.2 (by omega)
          rcases G with ⟨_, g50, g66⟩ | ⟨g, _⟩
          · refine go (fun _ _ _ => rfl) (W.cg (fun _ => rfl) (fun o _ => o10 h o (fun e => h36 e.1) (fun e => hne e.1)) rfl (o10 36 2 (by simp) (fun e => q36 e.1.symm))) (fun r o e e' => o10 r o (fun z => e ⟨z.1, by omega⟩) e') (fun m m0 hm => ⟨m10 m m0 hm, mq7 m m0 hm⟩) (fun _ => by rw [cq7, g66]) ?_ c4
            refine ⟨by rw [c6, b55], ⟨by rw [c7, b56], .inl b56⟩, .inl ⟨by rw [b48 _ (by omega) (by omega)]; exact n1, by rw [b54]; exact n2, g50, c4, by rw [c3]; omega, b56⟩⟩
          · omega
        · rw [i_nlt, i_0] at cl
          have t0 : 0 ≤ ai Am 48 (42 + x1.toInt) := by omega
          obtain ⟨d6, r6, u0, u1⟩ := lqa.2.1 t0
          have t1 := tt.2 t0
          refine p2_bbl (fun v12 h12 => p2_bbl (fun A13 h13 => p2_bbl (fun _ hk => ?_)))
          obtain rfl := (gg_chk hk).2.symm
          try rw [e8]
          refine p2_bbl (fun v15 h15 => p2_bbl (fun v16 h16 => p2_bbl (fun _ hk => ?_)))
          obtain rfl := (gg_chk hk).2.symm
          try rw [e8]
          refine p2_bbl (fun _ hk => ?_)
          obtain rfl := (gg_chk hk).2.symm
          try rw [e9]
          refine p2_bbl (fun _ hk => ?_)
          obtain rfl := (gg_chk hk).2.symm
          try rw [e8]
          refine p2_bbl (fun v20 h20 => ?_)
          have U13 := (gg_cst h13).2.2
          have g12 : v12.toInt = ai Am 48 (48 + x1.toInt) := by rw [gg_rem6 h12, i_rem6 (by omega), g4]; exact r6
          have g15 : v15.toInt = ai Am 48 (42 + x1.toInt) := by rw [gg_div6 h15, i_div6 (by omega), g4]; exact d6
          have g16 := (gl h16).2.2
          have g20 := (gl h20).2.2
          have oh13 : ∀ o, A13 h o = A h o := fun o => (U13.2.2 h o (fun e => h36 e.1)).trans (o10 h o (fun e => h36 e.1) (fun e => hne e.1))
          rw [g15, ci_fr (oh13 4)] at g16
          rw [ci_fr (oh13 12)] at g20
          have y4 := H.hy.2.1 _ t0 t1
          have W13 : WCx h F A13 := W.cg (fun _ => rfl) (fun o _ => oh13 o) rfl ((U13.2.2 36 2 (by decide)).trans (o10 36 2 (by simp) (fun e => q36 e.1.symm)))
          rw [e7]
          have btw := v_between (n := n) (P := P) (J := J) W13 (WD.cg (fun _ => rfl) (fun o _ => oh13 o)) hsh (x3 := v20) (x4 := v16) (by omega) (by omega) (by omega) h36
          refine p2_bbl (fun a ha => ?_)
          have bt := btw a ha
          obtain ⟨v21, P22, F23, A24, J25⟩ := a
          obtain ⟨g21, ⟨eP, fF, oA24⟩, W24⟩ := bt
          dsimp only at g21 eP fF oA24 W24 ⊢
          rw [eP]
          refine p2_bbl (fun A26 h26 => p2_bbl (fun v27 h27 => ?_))
          have U26 := (gg_cst h26).2.2
          have g27 := (gl h27).2.2
          rw [U26.1] at g27
          obtain ⟨ar1, ar2, ar3⟩ := AR x1.toInt x0 c t0
          rw [g20, g16] at g21
          rw [← g21] at ar1 ar3
          rcases G with ⟨g, _⟩ | ⟨_, e, ee, g51, G⟩
          · omega
          rw [← hm12, ← H.rm t0 t1] at ee
          rw [← ee] at ar2 ar3
          have o26 : ∀ r o, ¬ (r = 36 ∧ (o = 2 ∨ o = 3 ∨ o = 5)) → A26 r o = A10 r o := fun r o z => by rw [U26.2.2 r o (fun e => z ⟨e.1, .inr (.inl e.2)⟩), oA24 r o (fun e => z ⟨e.1, .inl e.2⟩), U13.2.2 r o (fun e => z ⟨e.1, .inr (.inr e.2)⟩)]
          have k3 : ci A26 36 3 x1.toInt = v21.toInt := U26.1
          have k5 : ci A26 36 5 x1.toInt = ai Am 48 (48 + x1.toInt) := by rw [ci_fr (U26.2.2 36 5 (by decide)), ci_fr (oA24 36 5 (by decide)), U13.1, g12]
          have m26 : ∀ m, 0 ≤ m → m ≠ x1.toInt → ∀ o, 3 ≤ o → o ≤ 7 → ci A26 36 o m = ci A 36 o m := fun m m0 hm o o0 o1 => by
            rw [← m10 m m0 hm o o0 o1]
            by_cases f3 : o = 3
            · subst f3
              rw [U26.2.1 m m0 hm, ci_fr (oA24 36 3 (by decide)), ci_fr (U13.2.2 36 3 (by decide))]
            by_cases f5 : o = 5
            · subst f5
              rw [ci_fr (U26.2.2 36 5 (by decide)), ci_fr (oA24 36 5 (by decide)), U13.2.1 m m0 hm]
            rw [ci_fr (o26 36 o (by omega))]
          have W26 : WCx h F23 A26 := W24.cg (fun _ => rfl) (fun o _ => U26.2.2 h o (fun e => h36 e.1)) rfl (U26.2.2 36 2 (by decide))
          -- how the man stands now, whatever becomes of his lying down
          have man : ∀ {A' : Nat → Nat → Nat → Int32}, (∀ o, A' 36 o = A26 36 o) → A' h 5 = A26 h 5 → MNx N h A' B 0 0 x1.toInt := fun {A'} z36 zh => by
            unfold MNx
            rw [ci_fr (z36 6), ci_fr (z36 7), ci_fr (z36 5), ci_fr (z36 4), ci_fr (z36 3), ci_fr zh, ci_fr (o26 36 6 (by simp)), ci_fr (o26 36 7 (by simp)), ci_fr (o26 36 4 (by simp)), k3, k5, c4, c6, c7, b54, b55, b56, g51, b48 _ (by omega) (by omega), ci_fr (o26 h 5 (fun e => h36 e.1)), ci_fr (o10 h 5 (fun e => h36 e.1) (fun e => hne e.1))]
            refine ⟨rfl, ⟨rfl, .inl rfl⟩, .inr ⟨t0, rfl, u0, u1, ?_⟩⟩
            rcases G with ⟨ge, g50, -⟩ | ⟨ge, g50, -⟩
            · rcases ar3 with ar3 | ⟨-, a1, a2⟩
              · exact .inl ⟨g50, rfl, rfl, .inr ⟨by omega, by omega⟩⟩
              · exact .inr (.inr ⟨.inr ⟨g50, a2⟩, rfl, a1⟩)
            · refine .inr (.inr ⟨.inl g50, rfl, ?_⟩)
              rcases ar3 with ar3 | ⟨-, a1, -⟩
              · omega
              · exact a1
          have oA26 : ∀ r o, ¬ (r = 36 ∧ (o = 2 ∨ o = 3 ∨ o = 4 ∨ o = 5 ∨ o = 6 ∨ o = 7)) → ¬ (r = q ∧ o = 7) → A26 r o = A r o := fun r o z z' => (o26 r o (fun e => z ⟨e.1, by omega⟩)).trans (o10 r o (fun e => z ⟨e.1, by omega⟩) z')
          have d26 : ci A26 36 4 x1.toInt = -1 := by rw [ci_fr (o26 36 4 (by simp))]; exact c4
          refine p2_bcl (fun c27 => ?_) (fun c27 => ?_)
          · rw [i_lt, lF] at c27
            unfold e_Sleep_getUp_145
            refine go fF W26 oA26 (fun m m0 hm => ⟨m26 m m0 hm, by rw [ci_fr (o26 q 7 (fun e => q36 e.1))]; exact mq7 m m0 hm⟩) (fun hx => ?_) (man (fun _ => rfl) rfl) d26
            rw [ci_fr (o26 q 7 (fun e => q36 e.1)), cq7]
            rcases ar3 with ar3 | ⟨a0, -, -⟩
            · rcases G with ⟨_, _, g66⟩ | ⟨ge, _, _⟩
              · exact g66.symm
              · omega
            · exact absurd hx a0
          · rw [i_nlt, lF] at c27
            refine p2_bbl (fun _ hk => ?_)
            obtain rfl := (gg_chk hk).2.symm
            try rw [e9]
            refine p2_bbl (fun A30 h30 => ?_)
            have U30 := (gg_cst h30).2.2
            rw [i_0] at U30
            have z36 : ∀ o, A30 36 o = A26 36 o := fun o => U30.2.2 36 o (fun e => q36 e.1.symm)
            have zh : ∀ o, A30 h o = A26 h o := fun o => U30.2.2 h o (fun e => hne e.1)
            refine go fF (W26.cg (fun _ => rfl) (fun o _ => zh o) rfl (z36 2)) (fun r o z z' => (U30.2.2 r o z').trans (oA26 r o z z')) (fun m m0 hm => ⟨fun o o0 o1 => by rw [ci_fr (z36 o)]; exact m26 m m0 hm o o0 o1, by rw [U30.2.1 m m0 hm, ci_fr (o26 q 7 (fun e => q36 e.1))]; exact mq7 m m0 hm⟩) (fun hx => ?_) (man z36 (zh 5)) (by rw [ci_fr (z36 4)]; exact d26)
            rw [U30.1]
            rcases ar3 with ar3 | ⟨a0, -, -⟩
            · rcases G with ⟨ge, _, _⟩ | ⟨_, _, g66⟩
              · omega
              · exact g66.symm
            · exact absurd hx a0
/-- a night till minute E, on both sides; the ways of the reference have been filled -/
theorem p2_goTill {n m : Nat} (H : NHx h F A Fm Am) (hq : c_kind q = 2) (S : SBx ex h q F A Am 48 0) (W : WCx h F A) (SH : SHx ex q F Am) (WD : WDx h F A (F q 7) D) (hsh : F q 7 ≠ -1) (AR : ARx ex h N F A Am D) (EN : E ≤ N) (hN : N ≤ 600) (eN : N = (F h 18).toInt) (ex1 : x1.toInt = E) (ey1 : y1.toInt = E) : P2 (e_Sleep_goTill n P F A J x1 h q) (d_goesTill_6 m Fm Am Jm y1 0) (fun a b => ∃ P' F', (∀ r k, ¬ (r = 36 ∧ k = 101) → F' r k = F r k) ∧ QTx ex h q N E P' F' a b) := by
  have h36 : h ≠ 36 := k6ne H.kd
  have q36 : q ≠ 36 := k2ne hq
  have hne : h ≠ q := k62 H.kd hq
  unfold e_Sleep_goTill
  refine p2_bl (fun P1 h1 => p2_bl (fun P2' h2 => p2_bl (fun A3 h3 => ?_)))
  have u1 := gg_cpp h1
  have u2 := gg_cpp h2
  have u3 := gg_cfw h3
  have e8 : P2' 36 8 = h := by rw [u2.2 36 8 (by decide)]; exact u1.1
  have e9 : P2' 36 9 = q := u2.1
  unfold e_Sleep_getUp
  refine p2_up (F0 := F) (sh := F q 7) (D := D) (N := N) hq e8 e9 hN (fun {m F' A J Fm Am Jm} oF B => ?_) (fun _ _ _ => rfl) ⟨H.fr (fun _ => rfl) (fun o _ => u3.2 h o (fun e => h36 e.1)) rfl (fun _ _ _ => rfl), S.cg rfl rfl (u3.2 h 5 (fun e => h36 e.1)) (fun o _ _ => u3.2 q o (fun e => q36 e.1)) rfl, ⟨W.cg (fun _ => rfl) (fun o _ => u3.2 h o (fun e => h36 e.1)) rfl (u3.2 36 2 (by decide)), SH⟩, ⟨WD.cg (fun _ => rfl) (fun o _ => u3.2 h o (fun e => h36 e.1)), rfl, hsh⟩, ?_, fun u u0 u6 => by rw [u3.1 u u0 (by omega)]; decide, fun m m0 m1 => by rw [i_0] at m1; omega⟩ rfl (by decide)
  · dsimp only
    refine p2_l (v_next e8) ?_
    rintro ⟨v9, P10, F11, A12, J13⟩ ⟨⟨w1, w2, w3⟩, n1, n2, n3⟩
    dsimp only at w1 w2 w3 n1 n2 n3 ⊢
    subst w1 w2 w3
    have hF : N = (F11 h 18).toInt := by rw [oF h 18 (fun e => h36 e.1)]; exact eN
    have v0 : 0 ≤ v9.toInt := by
      rcases n3 with n3 | ⟨m', m0, m1, n3⟩
      · omega
      · have y18 := B.1.hy.2.2.2.2
        have M := (B.2.2.2.2 m' m0 m1).2 m0
        obtain ⟨-, -, M⟩ := M
        rcases M with ⟨c1, c2, c3, c4, c5, c6⟩ | ⟨c1, c2, c3, c4, M⟩
        · omega
        · rcases M with ⟨d1, d2, d3, d4⟩ | ⟨d1, d2, d3, d4, d5, d6, d7, d8⟩ | ⟨d1, d2, d3⟩
          · omega
          · omega
          · omega
    refine p2_mono (p2_31 (y2 := 0) hq e8 e9 EN hN hF ex1 ey1 B (by decide) (by rw [i_0]; exact v0) (by decide) (by decide) (fun _ => n2)) (fun a b h => ⟨_, _, oF, h⟩)
  · intro m m0 m1 ht
    rw [ci_fr (u3.2 h 12 (fun e => h36 e.1)), ci_fr (u3.2 h 4 (fun e => h36 e.1))]
    exact AR m m0 m1 ht
end H9ez8
