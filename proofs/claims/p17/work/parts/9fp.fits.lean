/-! fits, on both sides; the kept answer -/
section H9fp
variable {n m h : Nat} {t u k N : Int} {c : Int → Int} {P P' : Nat → Nat → Nat} {F F' F1 : Nat → Nat → Int32} {A A' A1 : Nat → Nat → Nat → Int32} {J : Nat → Nat → Nat → Int64} {Fm Fm' : Nat → Int32} {Am Am' A7 : Nat → Nat → Int32} {Jm : Nat → Nat → Int64} {x1 x2 x3 x4 x5 y1 y2 y3 : Int32}
/-- the code of a left -/
def cdv (v : Int) : Int := if v < 0 then -2 else 10 * (v / 6) + v % 6
theorem v_cCode (h1 : -1 ≤ x1.toInt) (h2 : x1.toInt < 36) : po (e_SleepWork_codeOf P F A J x1) (fun v => v.toInt = cdv x1.toInt) := by
  unfold e_SleepWork_codeOf cdv
  refine po_cond (fun c => ?_) (fun c => po_some ?_)
  · rw [i_ge, i_0] at c
    refine po_bl (fun v2 h2' => po_bl (fun v3 h3 => po_some ?_))
    have g2 : v2.toInt = x1.toInt / 6 := by rw [gg_div6 h2', i_div6 c]
    have g3 : v3.toInt = x1.toInt % 6 := by rw [gg_rem6 h3, i_rem6 c]
    have m10 := i_mulL (c := 10) (k := 10) (x := v2) (by decide) (by omega) (by omega)
    rw [if_neg (by omega), i_add (by omega) (by omega), m10, g2, g3]
  · rw [i_nge, i_0] at c
    rw [if_pos c]
    decide
/-- a left that there is beside its option -/
def LW (c : Int → Int) (x y : Int32) : Prop := LO c x y ∧ x.toInt < 36 ∧ (x.toInt < 0 ∨ (0 ≤ x.toInt ∧ x.toInt % 6 < c (x.toInt / 6)))
theorem r_code (H : NHx h F A Fm Am) (hm : 0 ≤ x1.toInt ∧ x1.toInt < 6) (W : LW (ci A h 5) x2 y2) : po (d_codeOf n Fm Am Jm x1 y2) (fun b => b.1.toInt = cdv x2.toInt) := by
  obtain ⟨L, l36, hv⟩ := W
  obtain ⟨pl, -⟩ := LO.lv (n := n) (Jm := Jm) L H hm l36 hv
  have lr := L.r
  have i42 := kx1 (c := 42) (x := x1) (k := 42) (by decide) (by decide) (by omega)
  have i48 := kx1 (c := 48) (x := x1) (k := 48) (by decide) (by decide) (by omega)
  unfold d_codeOf
  refine po_call pl ?_
  rintro ⟨v1, F2, A3, J4⟩ ⟨⟨l0, -⟩, -, ⟨l3, l4⟩, -⟩
  dsimp only at l0 l3 l4 ⊢
  refine po_cond (fun c => ?_) (fun _ => ?_)
  · rw [i_eq, l0] at c
    exact absurd c (by decide)
  refine po_bl (fun v6 h6 => ?_)
  have g6 := (gm h6).2.2
  rw [i42, l3] at g6
  refine po_cond (fun c => po_some ?_) (fun c => ?_)
  · rw [i_lt, i_0, g6] at c
    unfold lt6 at c
    unfold cdv
    by_cases z : x2.toInt < 0
    · rw [if_pos z]
      show (-2 : Int32).toInt = -2
      decide
    · rw [if_neg z] at c
      omega
  · rw [i_nlt, i_0, g6] at c
    refine po_bl (fun v8 h8 => po_bl (fun v9 h9 => po_some ?_))
    have g8 := (gm h8).2.2
    have g9 := (gm h9).2.2
    rw [i42, l3] at g8
    rw [i48, l4] at g9
    unfold lt6 at c g8
    unfold lu6 at g9
    unfold cdv
    by_cases z : x2.toInt < 0
    · rw [if_pos z] at c
      omega
    · rw [if_neg z] at g8 g9 ⊢
      have m10 := i_mulL (c := 10) (k := 10) (x := v8) (by decide) (by omega) (by omega)
      show (10 * v8 + v9).toInt = 10 * (x2.toInt / 6) + x2.toInt % 6
      rw [i_add (by omega) (by omega), m10, g8, g9]
/-- the rest of a search for fits leaves what was found -/
def FQ (F F' : Nat → Nat → Int32) (A A' : Nat → Nat → Nat → Int32) : Prop := (∀ k, k ≠ 15 → F' 32 k = F 32 k) ∧ (F 32 15).toInt ≤ (F' 32 15).toInt ∧ ∀ j : Int, 0 ≤ j → j < (F 32 15).toInt → ci A' 35 0 j = ci A 35 0 j
theorem FQ.rfl' : FQ F F A A := ⟨fun _ _ => rfl, Int.le_refl _, fun _ _ _ => rfl⟩
theorem FQ.tr (a : FQ F F1 A A1) (b : FQ F1 F' A1 A') : FQ F F' A A' := ⟨fun k hk => (b.1 k hk).trans (a.1 k hk), Int.le_trans a.2.1 b.2.1, fun j j0 j1 => (b.2.2 j j0 (by have := a.2.1; omega)).trans (a.2.2 j j0 j1)⟩
theorem FQ.of (hf : ∀ k, F' 32 k = F 32 k) (ha : A' 35 0 = A 35 0) : FQ F F' A A' := ⟨fun k _ => hf k, by rw [hf]; exact Int.le_refl _, fun j _ _ => by rw [ci_fr ha]⟩
theorem Gc.c6 (G : Gc P F A) (t0 : 0 ≤ t) : ci A (P 0 8) 5 t ≤ 6 := by
  have r := G.1.2 (P 0 8) 5 t t0
  rw [G.k08] at r
  exact r.2
theorem x_fits18 : ∀ {n : Nat} {P : Nat → Nat → Nat} {F : Nat → Nat → Int32} {A : Nat → Nat → Nat → Int32} {J : Nat → Nat → Nat → Int64} {x3 : Int32}, Gc P F A → -1 ≤ x3.toInt ∧ x3.toInt ≤ 36 → (F 32 15).toInt ≤ x3.toInt + 1 → 1500 - x3.toInt < (n : Int) → po (e_Evening_seekFits_18 n P F A J x1 x2 x3) (fun r => FQ F r.2.2.1 A r.2.2.2.1) := by
  have l36 : (36 : Int32).toInt = 36 := by decide
  intro n
  induction n with
  | zero => intro P F A J x3 _ _ _ _ a ha; cases ha
  | succ n ih =>
    intro P F A J x3 G hx hf hn
    have a0 : 0 ≤ (F 32 15).toInt ∧ (F 32 15).toInt ≤ 37 := G.1.1 32 15
    unfold e_Evening_seekFits_18
    refine po_cond (fun _ => po_some FQ.rfl') (fun c => ?_)
    rw [i_nge, l36] at c
    have e31 := i_p1 (x := x3) (by omega)
    refine po_bl (fun _ hk => ?_)
    obtain rfl := (gg_chk hk).2.symm
    rw [G.2.2.1]
    refine po_call (v_mayBe (fun t t0 => G.c6 t0)) (fun v3 b3 => ?_)
    rcases b3 with ⟨rfl, hv⟩ | ⟨rfl, -⟩
    · refine po_cond (fun c => absurd c (by decide)) (fun _ => ?_)
      refine po_bl (fun z hz => ?_)
      obtain ⟨-, -, c3, -⟩ := v_copy (r0 := 33) (r1 := 2) (by decide) z hz
      obtain ⟨e1, q2, L2, k2⟩ := (fq_trial G).po z hz
      obtain ⟨uz, P2, F2, A2, J2⟩ := z
      dsimp only at c3 e1 q2 L2 k2 ⊢
      obtain rfl : P = P2 := e1.symm
      have G2 := q2.g G
      have la : LVx A (P 0 8) x3.toInt := by
        rcases hv with z | z
        · exact .inl (by omega)
        · exact .inr ⟨z.1, by omega, z.2⟩
      refine po_bl (fun A3 hs => ?_)
      have U3 := (gg_cst hs).2.2
      have q3 := q2.st U3 trivial tg33
      have G3 := q3.g G
      have L3 : LVc A3 (P 0 8) 33 := L2.put U3 G2.n33 (la.cg ((q2.1.2.2.1 _ G.live).2 5 (by decide)))
      refine po_bl (fun _ hk => ?_)
      obtain rfl := (gg_chk hk).2.symm
      refine po_bl (fun _ hk => ?_)
      obtain rfl := (gg_chk hk).2.symm
      refine po_bl (fun w hw => ?_)
      have y18 : (F2 (P 0 8) 18).toInt ≤ 600 := G3.2.2.2.1.2.2.2.2.2.2
      obtain ⟨q4, k4⟩ := (fq_goTill (n := n) (J := J2) (x1 := F2 (P 32 4) 18) G3 L3 (by rw [G.2.2.1]; exact y18) (by omega)).po w hw
      have hw' := hw
      rw [G.2.2.1] at hw'
      obtain ⟨-, -, -, m3, -, -⟩ := (s_goTill G3.k08 (by decide) G3.1 G3.2.2.2.1 L3 y18 (by omega)).po w hw'
      have a35 : w.2.2.2.1 35 0 = A 35 0 := (m3 35 0 (by decide) (by decide) (fun _ => by decide)).trans ((U3.2.2 35 0 (by decide)).trans (c3 35 0 (by decide)))
      obtain ⟨u4, P4, F4, A4, J4⟩ := w
      dsimp only at q4 k4 a35 ⊢
      have k15 : ∀ k, F4 32 k = F 32 k := fun k => (k4 k).trans (k2 k)
      have G4 := q4.g G3
      have fq : FQ F F4 A A4 := .of k15 a35
      refine po_bl (fun v5 _ => ?_)
      refine po_cond (fun _ => ?_) (fun _ => ?_)
      · unfold e_Evening_seekFits_113
        exact po_mono (ih G4 (by omega) (by rw [k15]; omega) (by omega)) (fun r hr => fq.tr hr)
      · refine po_bl (fun A6 h6 => po_bl (fun F7 h7 => ?_))
        have U6 := (gg_cst h6).2.2
        have U7 := gg_cpf h7
        rw [k15 15] at U6 U7
        have e15 := i_p1 (x := F 32 15) (by omega)
        have q7 := ((QFc.rfl' (P := P4) G4.1).st U6 trivial (by decide)).pf U7 (show 0 ≤ (F 32 15 + 1).toInt ∧ (F 32 15 + 1).toInt ≤ 37 by omega) (by decide)
        have fq7 : FQ F4 F7 A4 A6 := ⟨fun k hk => U7.2 32 k (fun e => hk e.2), by rw [U7.1, k15]; omega, fun j j0 j1 => by rw [k15] at j1; exact U6.2.1 j j0 (by omega)⟩
        exact po_mono (ih (q7.g G4) (by omega) (by rw [U7.1]; omega) (by omega)) (fun r hr => fq.tr (fq7.tr hr))
    · refine po_cond (fun _ => ?_) (fun c => absurd c (by decide))
      unfold e_Evening_seekFits_113
      exact ih G (by omega) (by omega) (by omega)
/-- what the reference answers, out of what the class has found -/
def FRx (F' : Nat → Nat → Int32) (A' : Nat → Nat → Nat → Int32) (y : Int32) (b : Int32) : Prop := (y.toInt = -1 → b = F' 32 15) ∧ (y.toInt ≠ -1 → (F' 32 15).toInt ≤ y.toInt → b.toInt = -1) ∧ (y.toInt ≠ -1 → y.toInt < (F' 32 15).toInt → (-1 ≤ ci A' 35 0 y.toInt ∧ ci A' 35 0 y.toInt < 36) ∧ b.toInt = cdv (ci A' 35 0 y.toInt))
theorem p2_fits18 (hm : 0 ≤ x1.toInt ∧ x1.toInt < 6) (hc : ∀ t, 0 ≤ t → c t ≤ 6) (h30 : x2.toInt ≤ 30) (hy : -1 ≤ y3.toInt) : ∀ {n m : Nat} {P : Nat → Nat → Nat} {F : Nat → Nat → Int32} {A : Nat → Nat → Nat → Int32} {J : Nat → Nat → Nat → Int64} {Fm : Nat → Int32} {Am : Nat → Nat → Int32} {Jm : Nat → Nat → Int64} {x3 y4 y5 : Int32}, IX x2.toInt P F A Fm Am → (∀ t, ci A (P 0 8) 5 t = c t) → LO c x3 y5 → F 32 15 = y4 → (y3.toInt = -1 ∨ y4.toInt ≤ y3.toInt) → y4.toInt ≤ x3.toInt + 1 → 1500 - x3.toInt < (n : Int) → P2 (e_Evening_seekFits_18 n P F A J x1 x2 x3) (d_fits_33 m Fm Am Jm x1 x2 y3 y4 y5) (fun a b => FRx a.2.2.1 a.2.2.2.1 y3 b.1) := by
  have l36 : (36 : Int32).toInt = 36 := by decide
  have lm : (-1 : Int32).toInt = -1 := by decide
  intro n
  induction n with
  | zero => intro m P F A J Fm Am Jm x3 y4 y5 _ _ _ _ _ _ _ a b ha; cases ha
  | succ n ih =>
    intro m P F A J Fm Am Jm x3 y4 y5 I ec L e15 hy4 hy5 hn
    have N := I.1.1
    have G := I.2.1
    have lr := L.r
    have a0 : 0 ≤ (F 32 15).toInt ∧ (F 32 15).toInt ≤ 37 := G.1.1 32 15
    rw [e15] at a0
    have e5 : ci A (P 0 8) 5 = c := funext ec
    cases m with
    | zero => intro a b _ hb; cases hb
    | succ m =>
      unfold e_Evening_seekFits_18
      refine p2_cl (fun c36 => ?_) (fun c36 => ?_)
      · rw [i_ge, l36] at c36
        have f := L.fin (by omega)
        unfold d_fits_33
        refine p2_r (r_options N) (fun v1 q1 => ?_)
        rw [e5] at q1
        refine p2_cr (fun _ => ?_) (fun c2 => ?_)
        · refine p2_cr (fun c3 => p2_some ?_) (fun c3 => p2_some ?_)
          · rw [i_ne, lm] at c3
            show FRx F A y3 (-1)
            refine ⟨fun e => absurd e c3, fun _ _ => lm, fun _ z => ?_⟩
            rw [e15] at z
            omega
          · rw [i_nne, lm] at c3
            show FRx F A y3 y4
            exact ⟨fun _ => e15.symm, fun e => absurd c3 e, fun e => absurd c3 e⟩
        · rw [i_nge] at c2
          omega
      · rw [i_nge, l36] at c36
        have e31 := i_p1 (x := x3) (by omega)
        refine p2_bl (fun _ hk => ?_)
        obtain rfl := (gg_chk hk).2.symm
        rw [G.2.2.1]
        refine p2_l (v_mayBe (fun t t0 => by rw [ec]; exact hc t t0)) (fun v3 b3 => ?_)
        rw [e5] at b3
        rcases b3 with ⟨rfl, hv⟩ | ⟨rfl, hv⟩
        · refine p2_cl (fun c => absurd c (by decide)) (fun _ => ?_)
          obtain ⟨Ln, lt36⟩ := L.next (by omega) hv
          unfold d_fits_33
          refine p2_r (r_options N) (fun v1 q1 => ?_)
          rw [e5] at q1
          refine p2_cr (fun c2 => ?_) (fun _ => ?_)
          · rw [i_ge] at c2
            omega
          refine p2_bl (fun z hz => p2_br (fun b1 hb1 => ?_))
          obtain ⟨T, f32, eP, eA, eM⟩ := TRy.begin I hz hb1
          obtain ⟨-, -, c3, -⟩ := v_copy (r0 := 33) (r1 := 2) (by decide) z hz
          have qz := ((fq_trial G).po z hz).2.1
          have kb1 := kt_d_takes KT.rfl' b1 hb1
          obtain ⟨t1, cp⟩ := r_takes b1 hb1
          obtain ⟨uz, P8, F9, A10, J11⟩ := z
          obtain ⟨u1, F4, A5, J6⟩ := b1
          dsimp only at T f32 eP eA eM qz kb1 t1 cp c3 ⊢
          obtain rfl : P = P8 := eP.symm
          obtain rfl : Fm = F4 := t1.symm
          have e10 : ci A10 (P 0 8) 5 = c := by
            rw [ci_fr (eA 5)]
            exact e5
          refine p2_bl (fun A12 hs => p2_br (fun b2 hb2 => ?_))
          have LL := LO.lv (n := m) (Jm := J6) (x1 := x3) (y1 := y5) (x2 := x1) (by rw [e10]; exact L) T.1.1.1 hm (by omega) (by rw [e10]; exact hv)
          have lv := LL.1 b2 hb2
          obtain ⟨T2, eA2, eM2⟩ := T.leave hm hs hb2 lv LL.2
          have kb2 := kt_d_leaves kb1 b2 hb2
          have q12 : QFc P P F F9 A A12 := qz.st (gg_cst hs).2.2 trivial tg33
          have s35 := (gg_cst hs).2.2.2.2 35 0 (by decide)
          obtain ⟨v16, F17, A18, J19⟩ := b2
          have l1 : F17 = Fm := lv.1.2
          dsimp only at T2 eM2 kb2 ⊢
          obtain rfl : Fm = F17 := l1.symm
          refine p2_bl (fun _ hk => ?_)
          obtain rfl := (gg_chk hk).2.symm
          refine p2_bl (fun _ hk => ?_)
          obtain rfl := (gg_chk hk).2.symm
          refine p2_bl (fun w hw => p2_bl (fun v25 h25 => p2_br (fun b4 hb4 => ?_)))
          obtain ⟨r1, I3, f3, q3, k3, a35⟩ := TRy.isSo (x2 := x2) T2 (by omega) (Int.le_refl _) h30 hw h25 hb4
          have qq : QFc P w.2.1 F w.2.2.1 A w.2.2.2.1 := q12.tr q3
          have f15 : ∀ k, w.2.2.1 32 k = F 32 k := fun k => (f3 k).trans (f32 k)
          obtain ⟨uw, P16, F17', A18', J19'⟩ := w
          obtain ⟨v24, F25, A26, J27⟩ := b4
          dsimp only at r1 I3 qq f15 ⊢
          rw [r1]
          have e8 : P16 0 8 = P 0 8 := qq.1.1 0 8 (by decide)
          have live := qq.1.2.2.1 _ G.live
          have ec' : ∀ t, ci A18' (P16 0 8) 5 t = c t := fun t => by
            rw [e8, ci_fr (live.2 5 (by decide))]
            exact ec t
          by_cases vz : v24.toInt = 0
          · refine p2_cl (fun _ => ?_) (fun c => ?_)
            · refine p2_cr (fun c => ?_) (fun _ => ?_)
              · rw [i_ne, i_0] at c
                exact absurd vz c
              · unfold e_Evening_seekFits_113 d_fits_82
                exact ih I3 ec' Ln (by rw [f15]; exact e15) hy4 (by omega) (by omega)
            · rw [i_neq, i_0] at c
              exact absurd vz c
          · refine p2_cl (fun c => ?_) (fun _ => ?_)
            · rw [i_eq, i_0] at c
              exact absurd c vz
            refine p2_cr (fun _ => ?_) (fun c => ?_)
            · refine p2_bl (fun A27 h27 => p2_bl (fun F28 h28 => ?_))
              have U27 := (gg_cst h27).2.2
              have U28 := gg_cpf h28
              rw [f15 15, e15] at U27 U28
              have e41 := i_p1 (x := y4) (by omega)
              have G3 := I3.2.1
              have n35 : P16 0 8 ≠ 35 := fun e => absurd G3.k08 (by rw [e]; decide)
              have q7 : QFc P16 P16 F17' F28 A18' A27 := ((QFc.rfl' G3.1).st U27 trivial (by decide)).pf U28 (show 0 ≤ (y4 + 1).toInt ∧ (y4 + 1).toInt ≤ 37 by omega) (by decide)
              have I7 := I3.tried q7 KT.rfl'
              refine p2_cr (fun cq => ?_) (fun cq => ?_)
              · rw [i_ne] at cq
                unfold d_fits_82
                exact ih I7 (fun t => by rw [ci_fr (U27.2.2 _ 5 (fun e => n35 e.1))]; exact ec' t) Ln U28.1 (by omega) (by omega) (by omega)
              · rw [i_nne] at cq
                intro a b ha hb
                obtain ⟨bc, hbc, hb⟩ := Option.bind_eq_some_iff.mp hb
                have r := r_code I3.1.1 hm (x2 := x3) (y2 := y5) ⟨by rw [show ci A18' (P16 0 8) 5 = c from funext ec']; exact L, by omega, by rw [show ci A18' (P16 0 8) 5 = c from funext ec']; exact hv⟩ bc hbc
                obtain ⟨-, w2, w3⟩ := x_fits18 I7.2.1 ⟨by omega, by omega⟩ (by rw [U28.1]; omega) (by omega) a ha
                rw [U28.1] at w2 w3
                obtain ⟨vb, Fb, Ab, Jb⟩ := bc
                obtain rfl := Option.some.inj hb
                have e35 : ci a.2.2.2.1 35 0 y3.toInt = x3.toInt := by
                  rw [w3 y3.toInt (by omega) (by omega), ← cq, U27.1]
                refine ⟨fun e => ?_, fun _ z => ?_, fun _ z => ?_⟩
                · omega
                · omega
                · rw [e35]
                  exact ⟨⟨by omega, by omega⟩, r⟩
            · rw [i_nne, i_0] at c
              exact absurd c vz
        · refine p2_cl (fun _ => ?_) (fun c => absurd c (by decide))
          unfold e_Evening_seekFits_113
          exact ih I ec (L.over (by omega) hv) e15 hy4 (by omega) (by omega)
/-- the answer to fits that is kept -/
def A4 (P : Nat → Nat → Nat) (F : Nat → Nat → Int32) (A : Nat → Nat → Nat → Int32) : Prop := F 32 6 = 4 → (F 32 8).toInt ≤ (F 25 2).toInt ∧ ∀ (m : Nat) (Fm : Nat → Int32) (Am : Nat → Nat → Int32) (Jm : Nat → Nat → Int64) (y3 : Int32), ZN (F 32 8).toInt P F A Fm Am → -1 ≤ y3.toInt → po (d_fits_33 m Fm Am Jm (F 32 7) (F 32 8) y3 0 0) (fun b => FRx F A y3 b.1)
theorem A4.keep (a : A4 P F A) (V : VW (F 32 8).toInt P F A P' F' A') (h25 : (F 25 2).toInt ≤ (F' 25 2).toInt) (f : ∀ k, k = 6 ∨ k = 7 ∨ k = 8 ∨ k = 15 → F' 32 k = F 32 k) (r : A' 35 0 = A 35 0) : A4 P' F' A' := by
  have f6 := f 6 (by decide)
  have f7 := f 7 (by decide)
  have f8 := f 8 (by decide)
  have f15 := f 15 (by decide)
  intro e
  rw [f6] at e
  obtain ⟨a1, a2⟩ := a e
  refine ⟨by rw [f8]; omega, fun m Fm Am Jm y3 Z hy => ?_⟩
  rw [f8] at Z
  rw [f7, f8]
  refine po_mono (a2 m Fm Am Jm y3 (Z.vw V.sm) hy) (fun b w => ?_)
  unfold FRx
  rw [f15, ci_fr r]
  exact w
end H9fp
