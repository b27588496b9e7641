section H9ez6
variable {h q : Nat} {k l k' l' N x E : Int} {ex : Prop} {P : Nat → Nat → Nat} {F F' : Nat → Nat → Int32} {A A' A1 : Nat → Nat → Nat → Int32} {J : Nat → Nat → Nat → Int64} {Fm Fm' : Nat → Int32} {Am Am' Am1 : Nat → Nat → Int32} {Jm : Nat → Nat → Int64} {x1 x2 x4 x5 y1 y2 y3 : Int32} {β γ δ : Type}
/-- a man's step is over: what both have then -/
def OVx (ex : Prop) (h q : Nat) (N k x : Int) (F : Nat → Nat → Int32) (A A' : Nat → Nat → Nat → Int32) (Fm Fm' : Nat → Int32) (Am Am' : Nat → Nat → Int32) : Prop := NHx h F A' Fm' Am' ∧ SBx ex h q F A' Am' 48 0 ∧ CVx h q (F h 17).toInt A' ∧ MNx N h A' Am' k (k + 1) x ∧ (∀ m, 0 ≤ m → m < 6 → m ≠ x → (∀ o, 3 ≤ o → o ≤ 7 → ci A' 36 o m = ci A 36 o m) ∧ (∀ j, 50 ≤ j → j ≤ 56 → ai Am' j m = ai Am j m)) ∧ (∀ i, 42 ≤ i → ai Am' 48 i = ai Am 48 i) ∧ A' h 5 = A h 5 ∧ A' 36 2 = A 36 2 ∧ (∀ o, o ≠ 17 → A' h o = A h o)
/-- a step is over, on both sides -/
theorem p2_over {u t : Int} {n m : Nat} {v9 v10 : Int32} {g : cR Unit → Option (cR Unit)} {g' : mR Unit → Option (mR Unit)} {Q : cR Unit → mR Unit → Prop} (H : NHx h F A Fm Am) (hq : c_kind q = 2) (e8 : P 36 8 = h) (e9 : P 36 9 = q) (S : SBx ex h q F A Am 48 0) (C : CVx h q (F h 17).toInt A) (x0 : 0 ≤ x) (x6 : x < (F h 17).toInt) (M6 : ci A 36 6 x = ai Am 55 x) (M7 : ci A 36 7 x = ai Am 56 x) (be : ai Am 56 x = 0) (t0 : 0 ≤ t) (t1 : t < (F h 16).toInt) (u0 : 0 ≤ u) (u1 : u < ci A h 5 t) (et : ai Am 48 (42 + x) = t) (el : ci A q 3 x / 6 = t) (d4 : ci A 36 4 x = u) (d53 : ai Am 53 x = u) (f51 : ai Am 51 x ≤ k) (due : ci A 36 3 x = k) (e2 : x2.toInt = x) (e3 : y3.toInt = x) (ev9 : v9.toInt = t) (ev10 : v10.toInt = u)
    (kk : ∀ {A' : Nat → Nat → Nat → Int32} {J' : Nat → Nat → Nat → Int64} {Fm' : Nat → Int32} {Am' : Nat → Nat → Int32} {Jm' : Nat → Nat → Int64}, OVx ex h q N k x F A A' Fm Fm' Am Am' → P2 (g ((), P, F, A', J')) (g' ((), Fm', Am', Jm')) Q) : P2 ((e_House_finish P F A J h q v9 v10).bind fun (_, P14, F15, A16, J17) => (c_chk 6 (P14 36 8)).bind fun q18 => (m_ld (A16 q18 10) 36 ((v9 * 6) + v10)).bind fun v19 => cond (g_cnd .lt v19 0) ((c_st A16 36 5 6 x2 v10).bind fun A26 => (m_ld (A26 36 6) 6 x2).bind fun v27 => (c_st A26 36 6 6 x2 (v27 + 1)).bind fun A28 => (c_st A28 36 4 6 x2 ((-1))).bind fun A29 => g ((), P14, F15, A29, J17)) ((c_st A16 36 8 6 v19 0).bind fun A21 => (c_st A21 36 5 6 x2 v10).bind fun A22 => (m_ld (A22 36 6) 6 x2).bind fun v23 => (c_st A22 36 6 6 x2 (v23 + 1)).bind fun A24 => (c_st A24 36 4 6 x2 ((-1))).bind fun A25 => g ((), P14, F15, A25, J17))) ((d_isOver Fm Am Jm y3).bind g') Q := by
  have ct := H.ct
  have hs := H.sd
  have hk := H.kd
  have hne : h ≠ q := k62 hk hq
  have h36 : h ≠ 36 := k6ne hk
  have q36 : q ≠ 36 := k2ne hq
  have s6 := H.s6 t0
  have i42 := kx1 (c := 42) (x := y3) (k := 42) (by decide) (by decide) (by omega)
  have lm : (-1 : Int32).toInt = -1 := by decide
  unfold d_isOver
  refine p2_bbr (fun w1 k1 => p2_bbr (fun w2 k2 => ?_))
  have a1 := (gm k1).2.2
  have a2 := (gm k2).2.2
  rw [i42, e3, et] at a1
  rw [e3, d53] at a2
  rw [Option.bind_assoc]
  refine p2_call (p2_fin (J := J) (Jm := Jm) H S hq t0 t1 u0 u1 ev9 ev10 a1 a2) ?_
  rintro ⟨_, P14, F15, A16, J17⟩ ⟨_, F4, A5, J6⟩ ⟨eP, eF, oA, eM, oM, o48, D⟩
  dsimp only at eP eF oA eM oM o48 D ⊢
  rw [eP, eF, eM]
  refine p2_bl (fun _ hk => ?_)
  obtain rfl := (gg_chk hk).2.symm
  try rw [e8]
  refine p2_bl (fun v19 h19 => ?_)
  have ic := cx6 (x := v9) (y := v10) (by omega) (by omega)
  have g19 := (gl h19).2.2
  rw [ic, ev9, ev10, ci_fr (oA h 10 (fun e => hne e.1))] at g19
  have tl : TUc h q A x = v19.toInt := by
    unfold TUc
    rw [el, d4, g19]
  refine p2_bbr (fun B7 k7 => p2_bbr (fun w8 k8 => p2_bbr (fun B9 k9 => p2_bbr (fun w10 k10 => p2_bbr (fun B11 k11 => ?_)))))
  have M7' := gg_st k7
  have a8 := (gm k8).2.2
  have M9 := gg_st k9
  have a10 := (gm k10).2.2
  have M11 := gg_st k11
  rw [e3, i_1] at M7'
  rw [e3, ai_fr (M7'.2.2.1 53 (by decide)), ai_fr (oM 53 (by decide)), d53] at a8
  rw [e3] at M9
  rw [e3, ai_fr (M9.2.2.1 55 (by decide)), ai_fr (M7'.2.2.1 55 (by decide)), ai_fr (oM 55 (by decide))] at a10
  rw [e3] at M11
  have bo : ∀ j, j ≠ 48 → j ≠ 50 → j ≠ 54 → j ≠ 55 → B11 j = Am j := fun j h1 h2 h3 h4 => by rw [M11.2.2.1 j h4, M9.2.2.1 j h3, M7'.2.2.1 j h2, oM j h1]
  have b48 : B11 48 = A5 48 := by rw [M11.2.2.1 48 (by decide), M9.2.2.1 48 (by decide), M7'.2.2.1 48 (by decide)]
  have b50 : ai B11 50 x = 1 := by rw [ai_fr (M11.2.2.1 50 (by decide)), ai_fr (M9.2.2.1 50 (by decide))]; exact M7'.2.2.2.1
  have b54 : ai B11 54 x = u := by rw [ai_fr (M11.2.2.1 54 (by decide)), M9.2.2.2.1, a8]
  have b55 : ai B11 55 x = (w10 + 1).toInt := M11.2.2.2.1
  have o48' : ∀ i, 42 ≤ i → ai B11 48 i = ai Am 48 i := fun i hi => by rw [ai_fr b48]; exact o48 i (by omega) (.inr hi)
  have bm : ∀ m, 0 ≤ m → m ≠ x → ∀ j, 50 ≤ j → j ≤ 56 → ai B11 j m = ai Am j m := fun m m0 hm j j0 j1 => by
    by_cases e0 : j = 50
    · subst e0
      rw [ai_fr (M11.2.2.1 50 (by decide)), ai_fr (M9.2.2.1 50 (by decide)), M7'.2.2.2.2 m m0 hm, ai_fr (oM 50 (by decide))]
    by_cases e4 : j = 54
    · subst e4
      rw [ai_fr (M11.2.2.1 54 (by decide)), M9.2.2.2.2 m m0 hm, ai_fr (M7'.2.2.1 54 (by decide)), ai_fr (oM 54 (by decide))]
    by_cases e5 : j = 55
    · subst e5
      rw [M11.2.2.2.2 m m0 hm, ai_fr (M9.2.2.1 55 (by decide)), ai_fr (M7'.2.2.1 55 (by decide)), ai_fr (oM 55 (by decide))]
    rw [ai_fr (bo j (by omega) e0 e4 e5)]
  -- the class's four stores, behind whatever has become of the tool
  have fin : ∀ {A2 A26 A28 A29 : Nat → Nat → Nat → Int32} {v27 : Int32}, (∀ r o, ¬ (r = 36 ∧ o = 8) → A2 r o = A16 r o) → ((v19.toInt < 0 ∧ A2 36 8 = A16 36 8) ∨ (0 ≤ v19.toInt ∧ ci A2 36 8 v19.toInt = 0 ∧ ∀ u, 0 ≤ u → u ≠ v19.toInt → ci A2 36 8 u = ci A16 36 8 u)) → c_st A2 36 5 6 x2 v10 = some A26 → m_ld (A26 36 6) 6 x2 = some v27 → c_st A26 36 6 6 x2 (v27 + 1) = some A28 → c_st A28 36 4 6 x2 (-1) = some A29 → P2 (g ((), P, F, A29, J17)) (g' ((), Fm, B11, J6)) Q := fun {A2 A26 A28 A29 v27} o2 z h26 h27 h28 h29 => by
    have U26 := (gg_cst h26).2.2
    have g27 := (gl h27).2.2
    have U28 := (gg_cst h28).2.2
    have U29 := (gg_cst h29).2.2
    rw [e2] at U26 U28
    rw [e2, lm] at U29
    rw [e2, ci_fr (U26.2.2 36 6 (by decide)), ci_fr (o2 36 6 (by decide)), ci_fr (oA 36 6 (fun e => q36 e.1.symm)), M6] at g27
    have oo : ∀ r o, ¬ (r = 36 ∧ (o = 4 ∨ o = 5 ∨ o = 6)) → A29 r o = A2 r o := fun r o e => by rw [U29.2.2 r o (fun e' => e ⟨e'.1, .inl e'.2⟩), U28.2.2 r o (fun e' => e ⟨e'.1, .inr (.inr e'.2)⟩), U26.2.2 r o (fun e' => e ⟨e'.1, .inr (.inl e'.2)⟩)]
    have oq : ∀ o, o ≠ 1 → A29 q o = A q o := fun o ho => by rw [oo q o (fun e => q36 e.1), o2 q o (fun e => q36 e.1), oA q o (fun e => ho e.2)]
    have oh : ∀ o, A29 h o = A h o := fun o => by rw [oo h o (fun e => h36 e.1), o2 h o (fun e => h36 e.1), oA h o (fun e => hne e.1)]
    have o3 : ∀ o, o ≠ 4 → o ≠ 5 → o ≠ 6 → o ≠ 8 → A29 36 o = A 36 o := fun o h1 h2 h3 h4 => by rw [oo 36 o (by omega), o2 36 o (fun e => h4 e.2), oA 36 o (fun e => q36 e.1.symm)]
    have c4 : ci A29 36 4 x = -1 := U29.1
    have c6 : ci A29 36 6 x = (v27 + 1).toInt := by rw [ci_fr (U29.2.2 36 6 (by decide))]; exact U28.1
    have c5 : ci A29 36 5 x = u := by rw [ci_fr (U29.2.2 36 5 (by decide)), ci_fr (U28.2.2 36 5 (by decide)), U26.1, ev10]
    have cm : ∀ m, 0 ≤ m → m ≠ x → ∀ o, 3 ≤ o → o ≤ 7 → ci A29 36 o m = ci A 36 o m := fun m m0 hm o o0 o1 => by
      by_cases f4 : o = 4
      · subst f4
        rw [U29.2.1 m m0 hm, ci_fr (U28.2.2 36 4 (by decide)), ci_fr (U26.2.2 36 4 (by decide)), ci_fr (o2 36 4 (by decide)), ci_fr (oA 36 4 (fun e => q36 e.1.symm))]
      by_cases f5 : o = 5
      · subst f5
        rw [ci_fr (U29.2.2 36 5 (by decide)), ci_fr (U28.2.2 36 5 (by decide)), U26.2.1 m m0 hm, ci_fr (o2 36 5 (by decide)), ci_fr (oA 36 5 (fun e => q36 e.1.symm))]
      by_cases f6 : o = 6
      · subst f6
        rw [ci_fr (U29.2.2 36 6 (by decide)), U28.2.1 m m0 hm, ci_fr (U26.2.2 36 6 (by decide)), ci_fr (o2 36 6 (by decide)), ci_fr (oA 36 6 (fun e => q36 e.1.symm))]
      rw [ci_fr (o3 o f4 f5 f6 (by omega))]
    have ew : v27 = w10 := i_ext (by rw [g27, a10])
    refine kk ⟨H.fr (fun _ => rfl) (fun o _ => oh o) rfl (fun j _ _ => bo j (by omega) (by omega) (by omega) (by omega)), ?_, ?_, ?_, fun m m0 _ hm => ⟨fun o o0 o1 => cm m m0 hm o o0 o1, bm m m0 hm⟩, o48', oh 5, o3 2 (by decide) (by decide) (by decide) (by decide), fun o _ => oh o⟩
    · refine SBx.mk0 (fun k k0 k1 => ?_) (fun k k0 k1 => ?_) (fun k k0 k1 => ?_) (fun m m0 m1 => ?_)
      · rw [ci_fr (oo q 1 (fun e => q36 e.1)), ci_fr (o2 q 1 (fun e => q36 e.1)), ai_fr b48]
        exact D k k0 k1
      · rw [ci_fr (oq 2 (by decide)), ai_fr b48, o48 k k0 (.inl k1)]
        exact S.sf k0 k1
      · rw [ci_fr (oq 4 (by decide)), o48' _ (by omega)]
        exact S.tl k0 k1
      · rw [ci_fr (oq 3 (by decide)), ci_fr (oq 5 (by decide)), ci_fr (oq 6 (by decide)), ci_fr (oq 7 (by decide)), o48' _ (by omega), o48' _ (by omega), o48' _ (by omega), o48' _ (by omega), o48' _ (by omega)]
        obtain ⟨s1, s2⟩ := S.mn m0 m1
        exact ⟨s1.cg rfl (oh 5), s2⟩
    · have z8 : A16 36 8 = A 36 8 := oA 36 8 (fun e => q36 e.1.symm)
      have y8 : A29 36 8 = A2 36 8 := oo 36 8 (by decide)
      refine C.fin x0 x6 (oh 10) (oh 4) (oq 3 (by decide)) (oq 4 (by decide)) (by omega) c4 (fun m m0 hm => cm m m0 hm 4 (by decide) (by decide)) ?_
      rw [tl, y8]
      rcases z with ⟨z1, z2⟩ | ⟨z1, z2, z3⟩
      · exact .inl ⟨z1, z2.trans z8⟩
      · refine .inr ⟨z1, by rw [ci_fr y8]; exact z2, fun u u0 hu => ?_⟩
        rw [ci_fr y8, z3 u u0 hu, ci_fr z8]
    · unfold MNx
      rw [c6, c4, c5, ci_fr (o3 7 (by decide) (by decide) (by decide) (by decide)), ci_fr (o3 3 (by decide) (by decide) (by decide) (by decide)), ci_fr (oh 5), b50, b54, b55, o48' _ (by omega), ai_fr (bo 56 (by decide) (by decide) (by decide) (by decide)), ai_fr (bo 51 (by decide) (by decide) (by decide) (by decide)), et, ew]
      exact ⟨rfl, ⟨M7, .inl be⟩, .inr ⟨t0, rfl, u0, u1, .inl ⟨rfl, be, rfl, .inl ⟨f51, due⟩⟩⟩⟩
  refine p2_cl (fun c => ?_) (fun c => ?_)
  · rw [i_lt, i_0] at c
    refine p2_bl (fun A26 h26 => p2_bl (fun v27 h27 => p2_bl (fun A28 h28 => p2_bl (fun A29 h29 => ?_))))
    exact fin (fun _ _ _ => rfl) (.inl ⟨c, rfl⟩) h26 h27 h28 h29
  · rw [i_nlt, i_0] at c
    refine p2_bl (fun A21 h21 => p2_bl (fun A26 h26 => p2_bl (fun v27 h27 => p2_bl (fun A28 h28 => p2_bl (fun A29 h29 => ?_)))))
    have U := (gg_cst h21).2.2
    rw [i_0] at U
    exact fin U.2.2 (.inr ⟨c, U.1, U.2.1⟩) h26 h27 h28 h29
/-- all that is over at minute k, man by man -/
theorem p2_34 {K27 : (Nat → Int32) → (Nat → Nat → Int32) → (Nat → Nat → Int64) → Int32 → Int32 → Option (mR Unit)} {fk : cR Unit → Option (cR Unit)} {Q : cR Unit → mR Unit → Prop} (hq : c_kind q = 2) (e8 : P 36 8 = h) (e9 : P 36 9 = q) (ex1 : x1.toInt = k) (ey2 : y2.toInt = k)
    (kk : ∀ {m : Nat} {A : Nat → Nat → Nat → Int32} {J : Nat → Nat → Nat → Int64} {Fm : Nat → Int32} {Am : Nat → Nat → Int32} {Jm : Nat → Nat → Int64}, NBx ex h q N F A Fm Am k (k + 1) k (k + 1) 0 → P2 (fk ((), P, F, A, J)) (d_goesTill_75 K27 m Fm Am Jm y1 y2 0) Q) : ∀ {n m : Nat} {A : Nat → Nat → Nat → Int32} {J : Nat → Nat → Nat → Int64} {Fm : Nat → Int32} {Am : Nat → Nat → Int32} {Jm : Nat → Nat → Int64} {x2 y3 : Int32}, NBx ex h q N F A Fm Am k k k (k + 1) x2.toInt → x2.toInt = y3.toInt → 0 ≤ x2.toInt → P2 ((e_Sleep_finishAll_2 n P F A J x1 x2).bind fk) (d_goesTill_34 K27 m Fm Am Jm y1 y2 y3) Q := by
  intro n
  induction n with
  | zero => intro m A J Fm Am Jm x2 y3 _ _ _ a b ha; cases ha
  | succ n ih =>
    intro m A J Fm Am Jm x2 y3 B exy x0
    obtain ⟨H, S, C, W, NP⟩ := B
    have ct := H.ct
    have hm := H.men
    cases m with
    | zero => intro a b _ hb; cases hb
    | succ m =>
      unfold e_Sleep_finishAll_2 d_goesTill_34
      refine p2_bbl (fun _ hk => ?_)
      obtain rfl := (gg_chk hk).2.symm
      try rw [e8]
      refine p2_r v_menNow ?_
      intro v12 e12
      refine p2_bcl (fun c => ?_) (fun c => ?_)
      · rw [i_ge] at c
        refine p2_cr (fun _ => kk ⟨H, S, C, W, fun m m0 m1 => ⟨fun h => by omega, fun _ => (NP m m0 m1).1 (by omega)⟩⟩) (fun c2 => ?_)
        rw [i_nge] at c2
        omega
      · rw [i_nge] at c
        refine p2_cr (fun c2 => ?_) (fun _ => ?_)
        · rw [i_ge] at c2
          omega
        refine p2_bbl (fun v3 h3 => p2_br (fun w14 k14 => ?_))
        have g3 := (gl h3).2.2
        have a14 := (gm k14).2.2
        rw [← exy] at a14
        have M := (NP x2.toInt x0 c).2 (Int.le_refl _)
        have ov := M.over
        have e21 := i_p1 (x := x2) (by omega)
        have e31 := i_p1 (x := y3) (by omega)
        have skip : ¬ (ci A 36 3 x2.toInt = k ∧ 0 ≤ ci A 36 4 x2.toInt) → P2 ((e_Sleep_finishAll_122 (e_Sleep_finishAll_2 n) n P F A J x1 x2).bind fk) (d_goesTill_67 K27 (d_goesTill_34 K27 m) m Fm Am Jm y1 y2 y3) Q := fun hne => by
          unfold e_Sleep_finishAll_122 d_goesTill_67
          refine ih ⟨H, S, C, W, fun m m0 m1 => ⟨fun h => ?_, fun h => (NP m m0 m1).2 (by omega)⟩⟩ (by omega) (by omega)
          by_cases e : m = x2.toInt
          · rw [e]
            exact M.nof (by omega)
          · exact (NP m m0 m1).1 (by omega)
        -- the reference passes him over
        have ref : ¬ (ci A 36 3 x2.toInt = k ∧ 0 ≤ ci A 36 4 x2.toInt) → P2 ((e_Sleep_finishAll_122 (e_Sleep_finishAll_2 n) n P F A J x1 x2).bind fk) (cond (g_cnd .ne w14 2) (d_goesTill_67 K27 (d_goesTill_34 K27 m) m Fm Am Jm y1 y2 y3) ((m_ld (Am 52) 6 y3).bind fun v16 => cond (g_cnd .ne v16 y2) (d_goesTill_67 K27 (d_goesTill_34 K27 m) m Fm Am Jm y1 y2 y3) ((d_isOver Fm Am Jm y3).bind fun (_, F19, A20, J21) => (d_goesTill_34 K27 m) F19 A20 J21 y1 y2 (y3 + 1)))) Q := fun hne => by
          refine p2_cr (fun _ => skip hne) (fun c4 => ?_)
          rw [i_nne, show (2 : Int32).toInt = 2 by decide] at c4
          refine p2_br (fun w16 k16 => ?_)
          have a16 := (gm k16).2.2
          rw [← exy] at a16
          refine p2_cr (fun _ => skip hne) (fun c5 => ?_)
          rw [i_nne] at c5
          exact absurd (ov.mpr ⟨by omega, by omega⟩) hne
        refine p2_bcl (fun c3 => ?_) (fun c3 => ?_)
        · rw [i_ne] at c3
          exact ref (fun h => by omega)
        rw [i_nne] at c3
        refine p2_bbl (fun v5 h5 => ?_)
        have g5 := (gl h5).2.2
        refine p2_bcl (fun c5 => ?_) (fun c5 => ?_)
        · rw [i_lt, i_0] at c5
          exact ref (fun h => by omega)
        rw [i_nlt, i_0] at c5
        obtain ⟨h50, h52⟩ := ov.mp ⟨by omega, by omega⟩
        refine p2_cr (fun c4 => ?_) (fun _ => ?_)
        · rw [i_ne, show (2 : Int32).toInt = 2 by decide] at c4
          omega
        refine p2_br (fun w16 k16 => ?_)
        have a16 := (gm k16).2.2
        rw [← exy] at a16
        refine p2_cr (fun c4 => ?_) (fun _ => ?_)
        · rw [i_ne] at c4
          omega
        refine p2_bbl (fun _ hk => ?_)
        obtain rfl := (gg_chk hk).2.symm
        try rw [e9]
        refine p2_bbl (fun v8 h8 => p2_bbl (fun v9 h9 => p2_bbl (fun v10 h10 => p2_bbl (fun _ hk => ?_))))
        obtain rfl := (gg_chk hk).2.symm
        try rw [e8]
        refine p2_bbl (fun _ hk => ?_)
        obtain rfl := (gg_chk hk).2.symm
        try rw [e9]
        have g8 := (gl h8).2.2
        have g10 := (gl h10).2.2
        obtain ⟨M6, ⟨M7, -⟩, M'⟩ := M
        have MA : 0 ≤ ai Am 48 (42 + x2.toInt) ∧ ai Am 56 x2.toInt = 0 ∧ ci A 36 4 x2.toInt = ai Am 53 x2.toInt ∧ 0 ≤ ai Am 53 x2.toInt ∧ ai Am 53 x2.toInt < ci A h 5 (ai Am 48 (42 + x2.toInt)) ∧ ci A 36 3 x2.toInt = ai Am 52 x2.toInt ∧ ai Am 51 x2.toInt ≤ ai Am 52 x2.toInt := by
          rcases M' with ⟨m1, m2, m3, m4, m5, m6⟩ | ⟨m1, m2, m3, m4, M'⟩
          · omega
          · rcases M' with ⟨c1, c2, c3, c4⟩ | ⟨c1, c2, c3, c4, c5, c6, c7, c8⟩ | ⟨c1, c2, c3⟩
            · omega
            · exact ⟨m1, c2, c3, c4, c5, c6, c8⟩
            · omega
        obtain ⟨t0, be, d1, d2, d3, d5, d6⟩ := MA
        have lq := (S.mn x0 c).1
        have lt : ai Am 48 (42 + x2.toInt) < (F h 16).toInt ∧ ci A q 3 x2.toInt / 6 = ai Am 48 (42 + x2.toInt) ∧ 0 ≤ ci A q 3 x2.toInt := by
          rcases lq with ⟨-, e, -⟩ | ⟨_, t1, w0, w1, e⟩
          · omega
          · have s6 := H.s6 t0
            exact ⟨t1, by omega, by omega⟩
        have ev9 : v9.toInt = ai Am 48 (42 + x2.toInt) := by rw [gg_div6 h9, i_div6 (by omega), g8, lt.2.1]
        have big := p2_over (n := n) (m := m) (v9 := v9) (v10 := v10) (N := N) (k := k) (x2 := x2) (y3 := y3) (J := J) (Jm := Jm) (g := fun (_, P', F', A', J') => (e_Sleep_finishAll_2 n P' F' A' J' x1 (x2 + 1)).bind fk) (g' := fun (_, F19, A20, J21) => (d_goesTill_34 K27 m) F19 A20 J21 y1 y2 (y3 + 1)) (Q := Q) H hq e8 e9 S C x0 c M6 M7 be t0 lt.1 d2 d3 rfl lt.2.1 d1 rfl (by omega) (by omega) rfl exy.symm ev9 (by omega) ?_
        · refine p2_conv ?_ big
          try simp only [Option.bind_assoc]
          congr 1
          funext a
          obtain ⟨_, P14, F15, A16, J17⟩ := a
          dsimp only
          try simp only [Option.bind_assoc]
          congr 1
          funext q18
          congr 1
          funext v19
          cases g_cnd .lt v19 0 with
          | true =>
            rw [cond_true, cond_true]
            unfold e_Sleep_finishAll_97
            try simp only [Option.bind_assoc]
          | false =>
            rw [cond_false, cond_false]
            try simp only [Option.bind_assoc]
        · intro A' J' Fm' Am' Jm' O
          dsimp only
          obtain ⟨H', S', C', M2, om, o48, h5', a2, oh⟩ := O
          refine ih ⟨H', S', C', ⟨W.1.cg (fun _ => rfl) oh rfl a2, W.2.cg rfl rfl (o48 78 (by decide)) (o48 79 (by decide))⟩, fun m m0 m1 => ⟨fun h => ?_, fun h => ?_⟩⟩ (by omega) (by omega)
          · by_cases e : m = x2.toInt
            · rw [e]
              exact M2
            · obtain ⟨z1, z2⟩ := om m m0 (by omega) e
              exact ((NP m m0 m1).1 (by omega)).cg h5' (z1 3 (by decide) (by decide)) (z1 4 (by decide) (by decide)) (z1 5 (by decide) (by decide)) (z1 6 (by decide) (by decide)) (z1 7 (by decide) (by decide)) z2 (o48 _ (by omega))
          · obtain ⟨z1, z2⟩ := om m m0 (by omega) (by omega)
            exact ((NP m m0 m1).2 (by omega)).cg h5' (z1 3 (by decide) (by decide)) (z1 4 (by decide) (by decide)) (z1 5 (by decide) (by decide)) (z1 6 (by decide) (by decide)) (z1 7 (by decide) (by decide)) z2 (o48 _ (by omega))
end H9ez6
