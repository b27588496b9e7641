section Qz173
/-! fits, on both sides; the kept answer -/
section H9fp
variable {n m h : Nat} {t u k N : Int} {c : Int → Int} {P P' : Nat → Nat → Nat} {F F' F1 : Nat → Nat → Int32} {A A' A1 : Nat → Nat → Nat → Int32} {J : Nat → Nat → Nat → Int64} {Fm Fm' : Nat → Int32} {Am Am' A7 : Nat → Nat → Int32} {Jm : Nat → Nat → Int64} {x1 x2 x3 x4 x5 y1 y2 y3 : Int32}
/-- the code of a left -/
def cdv (v : Int) : Int := if v < 0 then -2 else 10 * (v / 6) + v % 6
theorem v_cCode (h1 : -1 ≤ x1.toInt) (h2 : x1.toInt < 36) : po (e_SleepWork_codeOf P F A J x1) (fun v => v.toInt = cdv x1.toInt) := by
  unfold e_SleepWork_codeOf cdv
  refine po_cond (fun c => ?_) (fun c => po_some ?_)
  · rw [i_ge, i_0] at c
    refine po_bl (fun v2 h2' => po_bl (fun v3 h3 => po_some ?_))
    have g2 : v2.toInt = x1.toInt / 6 := by rw [gg_div6 h2', i_div6 c]
    have g3 : v3.toInt = x1.toInt % 6 := by rw [gg_rem6 h3, i_rem6 c]
    have m10 := i_mulL (c := 10) (k := 10) (x := v2) (by decide) (by omega) (by omega)
    rw [if_neg (by omega), i_add (by omega) (by omega), m10, g2, g3]
  · rw [i_nge, i_0] at c
    rw [if_pos c]
    decide
/-- a left that there is beside its option -/
def LW (c : Int → Int) (x y : Int32) : Prop := LO c x y ∧ x.toInt < 36 ∧ (x.toInt < 0 ∨ (0 ≤ x.toInt ∧ x.toInt % 6 < c (x.toInt / 6)))
theorem r_code (H : NHx h F A Fm Am) (hm : 0 ≤ x1.toInt ∧ x1.toInt < 6) (W : LW (ci A h 5) x2 y2) : po (d_codeOf n Fm Am Jm x1 y2) (fun b => b.1.toInt = cdv x2.toInt) := by
  obtain ⟨L, l36, hv⟩ := W
  obtain ⟨pl, -⟩ := LO.lv (n := n) (Jm := Jm) L H hm l36 hv
  have lr := L.r
  have i42 := kx1 (c := 42) (x := x1) (k := 42) (by decide) (by decide) (by omega)
  have i48 := kx1 (c := 48) (x := x1) (k := 48) (by decide) (by decide) (by omega)
  unfold d_codeOf
  refine po_call pl ?_
  rintro ⟨v1, F2, A3, J4⟩ ⟨⟨l0, -⟩, -, ⟨l3, l4⟩, -⟩
  dsimp only at l0 l3 l4 ⊢
  refine po_cond (fun c => ?_) (fun _ => ?_)
  · rw [i_eq, l0] at c
    exact absurd c (by decide)
  refine po_bl (fun v6 h6 => ?_)
  have g6 := (gm h6).2.2
  rw [i42, l3] at g6
  refine po_cond (fun c => po_some ?_) (fun c => ?_)
  · rw [i_lt, i_0, g6] at c
    unfold lt6 at c
    unfold cdv
    by_cases z : x2.toInt < 0
    · rw [if_pos z]
      show (-2 : Int32).toInt = -2
      decide
    · rw [if_neg z] at c
      omega
  · rw [i_nlt, i_0, g6] at c
    refine po_bl (fun v8 h8 => po_bl (fun v9 h9 => po_some ?_))
    have g8 := (gm h8).2.2
    have g9 := (gm h9).2.2
    rw [i42, l3] at g8
    rw [i48, l4] at g9
    unfold lt6 at c g8
    unfold lu6 at g9
    unfold cdv
    by_cases z : x2.toInt < 0
    · rw [if_pos z] at c
      omega
    · rw [if_neg z] at g8 g9 ⊢
      have m10 := i_mulL (c := 10) (k := 10) (x := v8) (by decide) (by omega) (by omega)
      show (10 * v8 + v9).toInt = 10 * (x2.toInt / 6) + x2.toInt % 6
      rw [i_add (by omega) (by omega), m10, g8, g9]
/-- the rest of a search for fits leaves what was found -/
def FQ (F F' : Nat → Nat → Int32) (A A' : Nat → Nat → Nat → Int32) : Prop := (∀ k, k ≠ 15 → F' 32 k = F 32 k) ∧ (F 32 15).toInt ≤ (F' 32 15).toInt ∧ ∀ j : Int, 0 ≤ j → j < (F 32 15).toInt → ci A' 35 0 j = ci A 35 0 j
theorem FQ.rfl' : FQ F F A A := ⟨fun _ _ => rfl, Int.le_refl _, fun _ _ _ => rfl⟩
theorem FQ.tr (a : FQ F F1 A A1) (b : FQ F1 F' A1 A') : FQ F F' A A' := ⟨fun k hk => (b.1 k hk).trans (a.1 k hk), Int.le_trans a.2.1 b.2.1, fun j j0 j1 => (b.2.2 j j0 (by have := a.2.1; omega)).trans (a.2.2 j j0 j1)⟩
theorem FQ.of (hf : ∀ k, F' 32 k = F 32 k) (ha : A' 35 0 = A 35 0) : FQ F F' A A' := ⟨fun k _ => hf k, by rw [hf]; exact Int.le_refl _, fun j _ _ => by rw [ci_fr ha]⟩
theorem Gc.c6 (G : Gc P F A) (t0 : 0 ≤ t) : ci A (P 0 8) 5 t ≤ 6 := by
  have r := G.1.2 (P 0 8) 5 t t0
  rw [G.k08] at r
  exact r.2
theorem x_fits18 : ∀ {n : Nat} {P : Nat → Nat → Nat} {F : Nat → Nat → Int32} {A : Nat → Nat → Nat → Int32} {J : Nat → Nat → Nat → Int64} {x3 : Int32}, Gc P F A → -1 ≤ x3.toInt ∧ x3.toInt ≤ 36 → (F 32 15).toInt ≤ x3.toInt + 1 → 1500 - x3.toInt < (n : Int) → po (e_Evening_seekFits_18 n P F A J x1 x2 x3) (fun r => FQ F r.2.2.1 A r.2.2.2.1) := by
  have l36 : (36 : Int32).toInt = 36 := by decide
  intro n
  induction n with
  | zero => intro P F A J x3 _ _ _ _ a ha; cases ha
  | succ n ih =>
    intro P F A J x3 G hx hf hn
    have a0 : 0 ≤ (F 32 15).toInt ∧ (F 32 15).toInt ≤ 37 := G.1.1 32 15
    unfold e_Evening_seekFits_18
    refine po_cond (fun _ => po_some FQ.rfl') (fun c => ?_)
    rw [i_nge, l36] at c
    have e31 := i_p1 (x := x3) (by omega)
    refine po_bl (fun _ hk => ?_)
    obtain rfl := (gg_chk hk).2.symm
    rw [G.2.2.1]
    refine po_call (v_mayBe (fun t t0 => G.c6 t0)) (fun v3 b3 => ?_)
    rcases b3 with ⟨rfl, hv⟩ | ⟨rfl, -⟩
    · refine po_cond (fun c => absurd c (by decide)) (fun _ => ?_)
      refine po_bl (fun z hz => ?_)
      obtain ⟨-, -, c3, -⟩ := v_copy (r0 := 33) (r1 := 2) (by decide) z hz
      obtain ⟨e1, q2, L2, k2⟩ := (fq_trial G).po z hz
      obtain ⟨uz, P2, F2, A2, J2⟩ := z
      dsimp only at c3 e1 q2 L2 k2 ⊢
      obtain rfl : P = P2 := e1.symm
      have G2 := q2.g G
      have la : LVx A (P 0 8) x3.toInt := by
        rcases hv with z | z
        · exact .inl (by omega)
        · exact .inr ⟨z.1, by omega, z.2⟩
      refine po_bl (fun A3 hs => ?_)
      have U3 := (gg_cst hs).2.2
      have q3 := q2.st U3 trivial tg33
      have G3 := q3.g G
      have L3 : LVc A3 (P 0 8) 33 := L2.put U3 G2.n33 (la.cg ((q2.1.2.2.1 _ G.live).2 5 (by decide)))
      refine po_bl (fun _ hk => ?_)
      obtain rfl := (gg_chk hk).2.symm
      refine po_bl (fun _ hk => ?_)
      obtain rfl := (gg_chk hk).2.symm
      refine po_bl (fun w hw => ?_)
      have y18 : (F2 (P 0 8) 18).toInt ≤ 600 := G3.2.2.2.1.2.2.2.2.2.2
      obtain ⟨q4, k4⟩ := (fq_goTill (n := n) (J := J2) (x1 := F2 (P 32 4) 18) G3 L3 (by rw [G.2.2.1]; exact y18) (by omega)).po w hw
      have hw' := hw
      rw [G.2.2.1] at hw'
      obtain ⟨-, -, -, m3, -, -⟩ := (s_goTill G3.k08 (by decide) G3.1 G3.2.2.2.1 L3 y18 (by omega)).po w hw'
      have a35 : w.2.2.2.1 35 0 = A 35 0 := (m3 35 0 (by decide) (by decide) (fun _ => by decide)).trans ((U3.2.2 35 0 (by decide)).trans (c3 35 0 (by decide)))
      obtain ⟨u4, P4, F4, A4, J4⟩ := w
      dsimp only at q4 k4 a35 ⊢
      have k15 : ∀ k, F4 32 k = F 32 k := fun k => (k4 k).trans (k2 k)
      have G4 := q4.g G3
      have fq : FQ F F4 A A4 := .of k15 a35
      refine po_bl (fun v5 _ => ?_)
      refine po_cond (fun _ => ?_) (fun _ => ?_)
      · unfold e_Evening_seekFits_113
        exact po_mono (ih G4 (by omega) (by rw [k15]; omega) (by omega)) (fun r hr => fq.tr hr)
      · refine po_bl (fun A6 h6 => po_bl (fun F7 h7 => ?_))
        have U6 := (gg_cst h6).2.2
        have U7 := gg_cpf h7
        rw [k15 15] at U6 U7
        have e15 := i_p1 (x := F 32 15) (by omega)
        have q7 := ((QFc.rfl' (P := P4) G4.1).st U6 trivial (by decide)).pf U7 (show 0 ≤ (F 32 15 + 1).toInt ∧ (F 32 15 + 1).toInt ≤ 37 by omega) (by decide)
        have fq7 : FQ F4 F7 A4 A6 := ⟨fun k hk => U7.2 32 k (fun e => hk e.2), by rw [U7.1, k15]; omega, fun j j0 j1 => by rw [k15] at j1; exact U6.2.1 j j0 (by omega)⟩
        exact po_mono (ih (q7.g G4) (by omega) (by rw [U7.1]; omega) (by omega)) (fun r hr => fq.tr (fq7.tr hr))
    · refine po_cond (fun _ => ?_) (fun c => absurd c (by decide))
      unfold e_Evening_seekFits_113
      exact ih G (by omega) (by omega) (by omega)
/-- what the reference answers, out of what the class has found -/
def FRx (F' : Nat → Nat → Int32) (A' : Nat → Nat → Nat → Int32) (y : Int32) (b : Int32) : Prop := (y.toInt = -1 → b = F' 32 15) ∧ (y.toInt ≠ -1 → (F' 32 15).toInt ≤ y.toInt → b.toInt = -1) ∧ (y.toInt ≠ -1 → y.toInt < (F' 32 15).toInt → (-1 ≤ ci A' 35 0 y.toInt ∧ ci A' 35 0 y.toInt < 36) ∧ b.toInt = cdv (ci A' 35 0 y.toInt))
theorem p2_fits18 (hm : 0 ≤ x1.toInt ∧ x1.toInt < 6) (hc : ∀ t, 0 ≤ t → c t ≤ 6) (h30 : x2.toInt ≤ 30) (hy : -1 ≤ y3.toInt) : ∀ {n m : Nat} {P : Nat → Nat → Nat} {F : Nat → Nat → Int32} {A : Nat → Nat → Nat → Int32} {J : Nat → Nat → Nat → Int64} {Fm : Nat → Int32} {Am : Nat → Nat → Int32} {Jm : Nat → Nat → Int64} {x3 y4 y5 : Int32}, IX x2.toInt P F A Fm Am → (∀ t, ci A (P 0 8) 5 t = c t) → LO c x3 y5 → F 32 15 = y4 → (y3.toInt = -1 ∨ y4.toInt ≤ y3.toInt) → y4.toInt ≤ x3.toInt + 1 → 1500 - x3.toInt < (n : Int) → P2 (e_Evening_seekFits_18 n P F A J x1 x2 x3) (d_fits_33 m Fm Am Jm x1 x2 y3 y4 y5) (fun a b => FRx a.2.2.1 a.2.2.2.1 y3 b.1) := by
  have l36 : (36 : Int32).toInt = 36 := by decide
  have lm : (-1 : Int32).toInt = -1 := by decide
  intro n
  induction n with
  | zero => intro m P F A J Fm Am Jm x3 y4 y5 _ _ _ _ _ _ _ a b ha; cases ha
  | succ n ih =>
    intro m P F A J Fm Am Jm x3 y4 y5 I ec L e15 hy4 hy5 hn
    have N := I.1.1
    have G := I.2.1
    have lr := L.r
    have a0 : 0 ≤ (F 32 15).toInt ∧ (F 32 15).toInt ≤ 37 := G.1.1 32 15
    rw [e15] at a0
    have e5 : ci A (P 0 8) 5 = c := funext ec
    cases m with
    | zero => intro a b _ hb; cases hb
    | succ m =>
      unfold e_Evening_seekFits_18
      refine p2_cl (fun c36 => ?_) (fun c36 => ?_)
      · rw [i_ge, l36] at c36
        have f := L.fin (by omega)
        unfold d_fits_33
        refine p2_r (r_options N) (fun v1 q1 => ?_)
        rw [e5] at q1
        refine p2_cr (fun _ => ?_) (fun c2 => ?_)
        · refine p2_cr (fun c3 => p2_some ?_) (fun c3 => p2_some ?_)
          · rw [i_ne, lm] at c3
            show FRx F A y3 (-1)
            refine ⟨fun e => absurd e c3, fun _ _ => lm, fun _ z => ?_⟩
            rw [e15] at z
            omega
          · rw [i_nne, lm] at c3
            show FRx F A y3 y4
            exact ⟨fun _ => e15.symm, fun e => absurd c3 e, fun e => absurd c3 e⟩
        · rw [i_nge] at c2
          omega
      · rw [i_nge, l36] at c36
        have e31 := i_p1 (x := x3) (by omega)
        refine p2_bl (fun _ hk => ?_)
        obtain rfl := (gg_chk hk).2.symm
        rw [G.2.2.1]
        refine p2_l (v_mayBe (fun t t0 => by rw [ec]; exact hc t t0)) (fun v3 b3 => ?_)
        rw [e5] at b3
        rcases b3 with ⟨rfl, hv⟩ | ⟨rfl, hv⟩
        · refine p2_cl (fun c => absurd c (by decide)) (fun _ => ?_)
          obtain ⟨Ln, lt36⟩ := L.next (by omega) hv
          unfold d_fits_33
          refine p2_r (r_options N) (fun v1 q1 => ?_)
          rw [e5] at q1
          refine p2_cr (fun c2 => ?_) (fun _ => ?_)
          · rw [i_ge] at c2
            omega
          refine p2_bl (fun z hz => p2_br (fun b1 hb1 => ?_))
          obtain ⟨T, f32, eP, eA, eM⟩ := TRy.begin I hz hb1
          obtain ⟨-, -, c3, -⟩ := v_copy (r0 := 33) (r1 := 2) (by decide) z hz
          have qz := ((fq_trial G).po z hz).2.1
          have kb1 := kt_d_takes KT.rfl' b1 hb1
          obtain ⟨t1, cp⟩ := r_takes b1 hb1
          obtain ⟨uz, P8, F9, A10, J11⟩ := z
          obtain ⟨u1, F4, A5, J6⟩ := b1
          dsimp only at T f32 eP eA eM qz kb1 t1 cp c3 ⊢
          obtain rfl : P = P8 := eP.symm
          obtain rfl : Fm = F4 := t1.symm
          have e10 : ci A10 (P 0 8) 5 = c := by
            rw [ci_fr (eA 5)]
            exact e5
          refine p2_bl (fun A12 hs => p2_br (fun b2 hb2 => ?_))
          have LL := LO.lv (n := m) (Jm := J6) (x1 := x3) (y1 := y5) (x2 := x1) (by rw [e10]; exact L) T.1.1.1 hm (by omega) (by rw [e10]; exact hv)
          have lv := LL.1 b2 hb2
          obtain ⟨T2, eA2, eM2⟩ := T.leave hm hs hb2 lv LL.2
          have kb2 := kt_d_leaves kb1 b2 hb2
          have q12 : QFc P P F F9 A A12 := qz.st (gg_cst hs).2.2 trivial tg33
          have s35 := (gg_cst hs).2.2.2.2 35 0 (by decide)
          obtain ⟨v16, F17, A18, J19⟩ := b2
          have l1 : F17 = Fm := lv.1.2
          dsimp only at T2 eM2 kb2 ⊢
          obtain rfl : Fm = F17 := l1.symm
          refine p2_bl (fun _ hk => ?_)
          obtain rfl := (gg_chk hk).2.symm
          refine p2_bl (fun _ hk => ?_)
          obtain rfl := (gg_chk hk).2.symm
          refine p2_bl (fun w hw => p2_bl (fun v25 h25 => p2_br (fun b4 hb4 => ?_)))
          obtain ⟨r1, I3, f3, q3, k3, a35⟩ := TRy.isSo (x2 := x2) T2 (by omega) (Int.le_refl _) h30 hw h25 hb4
          have qq : QFc P w.2.1 F w.2.2.1 A w.2.2.2.1 := q12.tr q3
          have f15 : ∀ k, w.2.2.1 32 k = F 32 k := fun k => (f3 k).trans (f32 k)
          obtain ⟨uw, P16, F17', A18', J19'⟩ := w
          obtain ⟨v24, F25, A26, J27⟩ := b4
          dsimp only at r1 I3 qq f15 ⊢
          rw [r1]
          have e8 : P16 0 8 = P 0 8 := qq.1.1 0 8 (by decide)
          have live := qq.1.2.2.1 _ G.live
          have ec' : ∀ t, ci A18' (P16 0 8) 5 t = c t := fun t => by
            rw [e8, ci_fr (live.2 5 (by decide))]
            exact ec t
          by_cases vz : v24.toInt = 0
          · refine p2_cl (fun _ => ?_) (fun c => ?_)
            · refine p2_cr (fun c => ?_) (fun _ => ?_)
              · rw [i_ne, i_0] at c
                exact absurd vz c
              · unfold e_Evening_seekFits_113 d_fits_82
                exact ih I3 ec' Ln (by rw [f15]; exact e15) hy4 (by omega) (by omega)
            · rw [i_neq, i_0] at c
              exact absurd vz c
          · refine p2_cl (fun c => ?_) (fun _ => ?_)
            · rw [i_eq, i_0] at c
              exact absurd c vz
            refine p2_cr (fun _ => ?_) (fun c => ?_)
            · refine p2_bl (fun A27 h27 => p2_bl (fun F28 h28 => ?_))
              have U27 := (gg_cst h27).2.2
              have U28 := gg_cpf h28
              rw [f15 15, e15] at U27 U28
              have e41 := i_p1 (x := y4) (by omega)
              have G3 := I3.2.1
              have n35 : P16 0 8 ≠ 35 := fun e => absurd G3.k08 (by rw [e]; decide)
              have q7 : QFc P16 P16 F17' F28 A18' A27 := ((QFc.rfl' G3.1).st U27 trivial (by decide)).pf U28 (show 0 ≤ (y4 + 1).toInt ∧ (y4 + 1).toInt ≤ 37 by omega) (by decide)
              have I7 := I3.tried q7 KT.rfl'
              refine p2_cr (fun cq => ?_) (fun cq => ?_)
              · rw [i_ne] at cq
                unfold d_fits_82
                exact ih I7 (fun t => by rw [ci_fr (U27.2.2 _ 5 (fun e => n35 e.1))]; exact ec' t) Ln U28.1 (by omega) (by omega) (by omega)
              · rw [i_nne] at cq
                intro a b ha hb
                obtain ⟨bc, hbc, hb⟩ := Option.bind_eq_some_iff.mp hb
                have r := r_code I3.1.1 hm (x2 := x3) (y2 := y5) ⟨by rw [show ci A18' (P16 0 8) 5 = c from funext ec']; exact L, by omega, by rw [show ci A18' (P16 0 8) 5 = c from funext ec']; exact hv⟩ bc hbc
                obtain ⟨-, w2, w3⟩ := x_fits18 I7.2.1 ⟨by omega, by omega⟩ (by rw [U28.1]; omega) (by omega) a ha
                rw [U28.1] at w2 w3
                obtain ⟨vb, Fb, Ab, Jb⟩ := bc
                obtain rfl := Option.some.inj hb
                have e35 : ci a.2.2.2.1 35 0 y3.toInt = x3.toInt := by
                  rw [w3 y3.toInt (by omega) (by omega), ← cq, U27.1]
                refine ⟨fun e => ?_, fun _ z => ?_, fun _ z => ?_⟩
                · omega
                · omega
                · rw [e35]
                  exact ⟨⟨by omega, by omega⟩, r⟩
            · rw [i_nne, i_0] at c
              exact absurd c vz
        · refine p2_cl (fun _ => ?_) (fun c => absurd c (by decide))
          unfold e_Evening_seekFits_113
          exact ih I ec (L.over (by omega) hv) e15 hy4 (by omega) (by omega)
/-- the answer to fits that is kept -/
def A4 (P : Nat → Nat → Nat) (F : Nat → Nat → Int32) (A : Nat → Nat → Nat → Int32) : Prop := F 32 6 = 4 → (F 32 8).toInt ≤ (F 25 2).toInt ∧ ∀ (m : Nat) (Fm : Nat → Int32) (Am : Nat → Nat → Int32) (Jm : Nat → Nat → Int64) (y3 : Int32), ZN (F 32 8).toInt P F A Fm Am → -1 ≤ y3.toInt → po (d_fits_33 m Fm Am Jm (F 32 7) (F 32 8) y3 0 0) (fun b => FRx F A y3 b.1)
theorem A4.keep (a : A4 P F A) (V : VW (F 32 8).toInt P F A P' F' A') (h25 : (F 25 2).toInt ≤ (F' 25 2).toInt) (f : ∀ k, k = 6 ∨ k = 7 ∨ k = 8 ∨ k = 15 → F' 32 k = F 32 k) (r : A' 35 0 = A 35 0) : A4 P' F' A' := by
  have f6 := f 6 (by decide)
  have f7 := f 7 (by decide)
  have f8 := f 8 (by decide)
  have f15 := f 15 (by decide)
  intro e
  rw [f6] at e
  obtain ⟨a1, a2⟩ := a e
  refine ⟨by rw [f8]; omega, fun m Fm Am Jm y3 Z hy => ?_⟩
  rw [f8] at Z
  rw [f7, f8]
  refine po_mono (a2 m Fm Am Jm y3 (Z.vw V.sm) hy) (fun b w => ?_)
  unfold FRx
  rw [f15, ci_fr r]
  exact w
end H9fp
end Qz173
section Qz174
/-! bars: runs that end; the row of what was seen is cleared -/
section S9g
variable {t : gT} {d M pc : Nat} {loc : List (Nat × Value)} {st : List Value} {c : Nat × Nat} {B : Nat → List gE} {P : Nat → Nat → Nat} {F : Nat → Nat → Int32} {A : Nat → Nat → Nat → Int32} {J : Nat → Nat → Nat → Int64} {j e : Nat} {f : Nat → Int64} {Q Q1 : Option Value × gH → Prop} {R : List Nat} {h h' : gH}
theorem kxB {pc' : Nat} {loc' : List (Nat × Value)} {st' : List Value} (n : Nat) (hb : k_blk t c_lg n M pc loc st h = some (pc', loc', st', h')) (k : kx t d M pc' loc' st' h' Q) : kx t d M pc loc st h Q := kxI (fun _ hz => k_runB n hb hz) k
theorem kxif {cd : Jvm.ClassFile.Cond} {off : Int} {tgt : Nat} {x : Int32} (hI : (k_mt M).2 pc = some (.ifCond cd off, [tgt])) (ht : g_cnd cd x 0 = true → kx t d M tgt loc st h Q) (hf : g_cnd cd x 0 = false → kx t d M (pc + 3) loc st h Q) : kx t d M pc loc (.int x :: st) h Q := by
  cases hc : g_cnd cd x 0 with
  | true => exact kxI (fun _ hz => k_if hI (fun _ => hz) (fun h2 => absurd (hc.symm.trans h2) (by decide))) (ht hc)
  | false => exact kxI (fun _ hz => k_if hI (fun h2 => absurd (hc.symm.trans h2) (by decide)) (fun _ => hz)) (hf hc)
theorem kxic {cd : Jvm.ClassFile.Cond} {off : Int} {tgt : Nat} {x y : Int32} (hI : (k_mt M).2 pc = some (.if_icmp cd off, [tgt])) (ht : g_cnd cd x y = true → kx t d M tgt loc st h Q) (hf : g_cnd cd x y = false → kx t d M (pc + 3) loc st h Q) : kx t d M pc loc (.int y :: .int x :: st) h Q := by
  cases hc : g_cnd cd x y with
  | true => exact kxI (fun _ hz => k_ic hI (fun _ => hz) (fun h2 => absurd (hc.symm.trans h2) (by decide))) (ht hc)
  | false => exact kxI (fun _ hz => k_ic hI (fun h2 => absurd (hc.symm.trans h2) (by decide)) (fun _ => hz)) (hf hc)
theorem kxV {ix M' na ci b : Nat} {fs as rest : List Value} (hI : (k_mt M).2 pc = some (.invokevirtual ix, [2, M', na, ci])) (hd : (st.drop na, (st.take na).reverse) = (.ref b :: rest, as)) (hn : Nat.ble na st.length = true) (hg : g_get h b = some (.inr (ci, fs))) (h8 : Nat.ble (g_sum rest) 8 = true) (hl : Nat.ble (lg_sl (.ref b :: as)).length (k_mt M').1.2.2.1 = true) (hc : kx t d M' 0 (lv_args 0 (.ref b :: as)) [] h Q1) (k : ∀ v h1, Q1 (v, h1) → kx t (d + 1) M (pc + 3) loc (v.toList ++ rest) h1 Q) : kx t (d + 1) M pc loc st h Q := by
  obtain ⟨⟨v, h1⟩, a, b⟩ := hc
  exact kxI (fun _ hz => k_runV hI hd hn hg h8 hl a hz) (k v h1 b)
theorem kxC {M' : Nat} {as rest : List Value} {I : Instr} (hI : (k_mt M).2 pc = some (I, R)) (hs : g_step t k_tb c_lg k_df (k_mt M).1.2.2.1 I R pc loc st h = none) (hv : g_ret (k_mt M).1.2.2.2 I st = none) (hi : g_inv k_tb.length k_mt I R st h = some (M', as, rest)) (hc : kx t d M' 0 (lv_args 0 as) [] h Q1) (k : ∀ v h1, Q1 (v, h1) → kx t (d + 1) M (pc + 3) loc (v.toList ++ rest) h1 Q) : kx t (d + 1) M pc loc st h Q := by
  obtain ⟨⟨v, h1⟩, a, b⟩ := hc
  exact kxI (fun _ hz => k_runC hI hs hv hi a hz) (k v h1 b)
theorem kxR {z : Option Value × gH} (a : k_run t c_lg d M pc loc st h z) (b : Q z) : kx t d M pc loc st h Q := ⟨z, a, b⟩
theorem kxwk (ks : List Nat) {loc' : List (Nat × Value)} (hs : (loc.filter fun q => ks.contains q.1) = loc') (hn : va_nd (loc.map (·.1)) = true) (k : kx t d M pc loc' st h Q) : kx t d M pc loc st h Q := kxI (fun _ hz => k_wk ks hs hn hz) k
theorem kx_seen {ix a : Nat} (hI : (k_mt M).2 pc = some (.getfield ix, [0, 9])) (hp : P 32 9 = a) (k : kx t d M (pc + 3) loc (.ref a :: st) (c_h c B P F A J) Q) : kx t d M pc loc (.ref (32 * 1024) :: st) (c_h c B P F A J) Q := by
  subst hp
  exact kxI (fun z hz => k_gf 32 0 (K := 7) rfl hI rfl rfl rfl hz) k
theorem lg39 {m : Nat} (h : m < 1024) : c_lg (340 + m) = 39936 + m := by
  unfold c_lg
  rw [if_neg (by omega), if_neg (by omega), if_pos (by omega)]
  omega
theorem kx_new {at_ : Jvm.ClassFile.ArrayType} {n : Int32} (hI : (k_mt M).2 pc = some (.newarray at_, [3])) (hc : c.1 = 340 + (B 39).length) (hl : (B 39).length < 1024) (h0 : 0 ≤ n.toInt) (h1 : n.toInt ≤ 100000) (k : kx t d M (pc + 2) loc (.ref (39936 + (B 39).length) :: st) (c_h (c.1 + 1, c.2 + n.toNatClampNeg) (va_up B 39 (B 39 ++ [jC n.toNatClampNeg (fun _ => 0)])) P F A J) Q) : kx t d M pc loc (.int n :: st) (c_h c B P F A J) Q := by
  refine kxI (fun z hz => k_runS hI ?_ hz) k
  have hin : ¬ (n < 0 ∨ 1000000 < n.toNatClampNeg) := by
    rintro (w | w)
    · have := Int32.lt_iff_toInt_lt.mp w
      have z0 : (0 : Int32).toInt = 0 := by decide
      omega
    · have : n.toNatClampNeg = n.toInt.toNat := rfl
      omega
  have hg : g_new c_lg k_df (.newarray at_) [3] (.int n :: st) (c_h c B P F A J) = some (.ref (39936 + (B 39).length) :: st, c_h (c.1 + 1, c.2 + n.toNatClampNeg) (va_up B 39 (B 39 ++ [jC n.toNatClampNeg (fun _ => 0)])) P F A J) := by
    unfold g_new
    simp only
    rw [if_neg hin]
    unfold g_push
    have e1 : c_lg (c_h c B P F A J).1.1 = 39936 + (B 39).length := by
      show c_lg c.1 = _
      rw [hc]
      exact lg39 hl
    have e2 : (39936 + (B 39).length) / 1024 = 39 := by omega
    have e3 : (39936 + (B 39).length) % 1024 = (B 39).length := by omega
    rw [e1, e2, e3]
    rw [if_pos (show (c_f B P F A J 39).length = (B 39).length from rfl)]
    refine congrArg some (Prod.ext rfl (Prod.ext rfl ?_))
    funext q
    show va_up (c_f B P F A J) 39 (c_f B P F A J 39 ++ [_]) q = c_f (va_up B 39 (B 39 ++ [_])) P F A J q
    by_cases hq : q = 39
    · subst hq
      rw [c_up_same]
      show B 39 ++ [_] = va_up B 39 (B 39 ++ [_]) 39
      rw [c_up_same]
    · rw [c_up_ne hq]
      unfold c_f
      rw [c_up_ne hq]
  unfold g_step
  rw [show g_pure (.newarray at_) (.int n :: st) = none from rfl, show g_loc (k_mt M).1.2.2.1 (.newarray at_) loc (.int n :: st) = none from rfl, show g_br (.newarray at_) [3] pc (.int n :: st) = none from rfl, show g_mem t (.newarray at_) [3] (.int n :: st) (c_h c B P F A J) = none from rfl, hg]
  rfl
theorem kx_pseen {ix a : Nat} (ht : ∀ ci k, t.1 ci k = k_ty ci k) (hI : (k_mt M).2 pc = some (.putfield ix, [0, 9])) (k : kx t d M (pc + 3) loc st (c_h c B (va_up P 32 (va_up (P 32) 9 a)) F A J) Q) : kx t d M pc loc (.ref a :: .ref (32 * 1024) :: st) (c_h c B P F A J) Q :=
  kxI (fun z hz => k_put hI ((c_get (r := 32) (o := 0) (K := 7) rfl (by decide)).trans rfl) (Nat.le_of_ble_eq_true rfl) (by rw [ht]; rfl) (c_set (r := 32) (o := 0) (K := 7) rfl (by decide) (by rw [c_up_same]; rfl) (fun q hq => ⟨c_up_ne hq, rfl, rfl, rfl⟩)) hz) k
/-- the row of what was seen -/
def SEb (c : Nat × Nat) (B : Nat → List gE) (P : Nat → Nat → Nat) (j e : Nat) : Prop := c.1 = 340 + (B 39).length ∧ (B 39).length = j + 1 ∧ P 32 9 = 39936 + j ∧ j + 1 ≤ e ∧ e ≤ 13 ∧ (∃ f, (B 39)[j]? = some (jC (2 ^ e) f)) ∧ c.2 ≤ 20126 + 2 * 2 ^ e
def SEc (c : Nat × Nat) (B : Nat → List gE) (P : Nat → Nat → Nat) : Prop := (c.1 = 340 ∧ B 39 = [] ∧ P 32 9 = 34816 ∧ c.2 ≤ 20126) ∨ ∃ j e, SEb c B P j e
theorem two_e (h : e ≤ 13) : 2 ^ e ≤ 8192 := Nat.pow_le_pow_right (by decide) h
theorem SEb.set {f' : Nat → Int64} (S : SEb c B P j e) : SEb c (va_up B 39 ((B 39).set j (jC (2 ^ e) f'))) P j e := by
  obtain ⟨a1, a2, a3, a4, a5, a6, a7⟩ := S
  refine ⟨?_, ?_, a3, a4, a5, ⟨f', ?_⟩, a7⟩
  · rw [c_up_same, List.length_set]; exact a1
  · rw [c_up_same, List.length_set]; exact a2
  · rw [c_up_same, List.getElem?_set_self (by omega)]
/-- nothing but the row was written -/
def b39 (B B' : Nat → List gE) : Prop := ∀ r, r ≠ 39 → B' r = B r
theorem b39_up {l : List gE} : b39 B (va_up B 39 l) := fun _ h => c_up_ne h
theorem b39.tr {B1 B2 : Nat → List gE} (h : b39 B B1) (h' : b39 B1 B2) : b39 B B2 := fun r hr => (h' r hr).trans (h r hr)
theorem b_fill_6 : ∀ {m : Nat} {B : Nat → List gE} {i : Int32}, SEb c B P j e → 0 ≤ i.toInt → i.toInt + m = (2 ^ e : Nat) → kx t d 267 6 [(0, .ref (39936 + j)), (1, .long 0), (3, .int i), (4, .int (Int32.ofNat (2 ^ e)))] [] (c_h c B P F A J) (fun z => ∃ B', z = (none, c_h c B' P F A J) ∧ SEb c B' P j e ∧ b39 B B') := by
  intro m
  induction m with
  | zero =>
    intro B i S i0 hi
    have := two_e S.2.2.2.2.1
    have el : (Int32.ofNat (2 ^ e)).toInt = (2 ^ e : Nat) := Int32.toInt_ofNat_of_lt (by omega)
    refine kxB (pc' := 9) (loc' := [(0, .ref (39936 + j)), (1, .long 0), (3, .int i), (4, .int (Int32.ofNat (2 ^ e)))]) (st' := [.int (Int32.ofNat (2 ^ e)), .int i]) 2 rfl ?_
    refine kxic rfl (fun _ => ?_) (fun hc => ?_)
    · exact kxR (k_vret rfl rfl) ⟨B, rfl, S, fun _ _ => rfl⟩
    · rw [i_nge] at hc
      omega
  | succ m ih =>
    intro B i S i0 hi
    have := two_e S.2.2.2.2.1
    have el : (Int32.ofNat (2 ^ e)).toInt = (2 ^ e : Nat) := Int32.toInt_ofNat_of_lt (by omega)
    have l1 : (1 : Int32).toInt = 1 := by decide
    have ei : (i + 1).toInt = i.toInt + 1 := by rw [i_add (by omega) (by omega), l1]
    refine kxB (pc' := 9) (loc' := [(0, .ref (39936 + j)), (1, .long 0), (3, .int i), (4, .int (Int32.ofNat (2 ^ e)))]) (st' := [.int (Int32.ofNat (2 ^ e)), .int i]) 2 rfl ?_
    refine kxic rfl (fun hc => ?_) (fun hc => ?_)
    · rw [i_ge] at hc
      omega
    · refine kxB (pc' := 15) (loc' := [(0, .ref (39936 + j)), (1, .long 0), (3, .int i), (4, .int (Int32.ofNat (2 ^ e)))]) (st' := [.long 0, .int i, .ref (39936 + j)]) 3 rfl ?_
      obtain ⟨f, hf⟩ := S.2.2.2.2.2.1
      have hj : j < 1024 := by have := S.2.2.2.1; have := S.2.2.2.2.1; omega
      refine k39_st rfl hf hj i0 (by omega) (fun f' => ?_)
      refine kxB (pc' := 6) (loc' := [(0, .ref (39936 + j)), (1, .long 0), (3, .int (i + 1)), (4, .int (Int32.ofNat (2 ^ e)))]) (st' := []) 2 rfl ?_
      obtain ⟨z, a, B', rfl, S', q⟩ := ih (i := i + 1) S.set (by omega) (by omega)
      exact ⟨_, a, B', rfl, S', b39_up.tr q⟩
theorem b_fill (S : SEb c B P j e) : kx t d 267 0 [(0, .ref (39936 + j)), (1, .long 0)] [] (c_h c B P F A J) (fun z => ∃ B', z = (none, c_h c B' P F A J) ∧ SEb c B' P j e ∧ b39 B B') := by
  obtain ⟨f, hf⟩ := S.2.2.2.2.2.1
  have hj : j < 1024 := by have := S.2.2.2.1; have := S.2.2.2.2.1; omega
  refine kxB (pc' := 3) (loc' := [(0, .ref (39936 + j)), (1, .long 0), (3, .int 0)]) (st' := [.ref (39936 + j)]) 3 rfl ?_
  refine k39_len rfl hf hj ?_
  refine kxB (pc' := 6) (loc' := [(0, .ref (39936 + j)), (1, .long 0), (3, .int 0), (4, .int (Int32.ofNat (2 ^ e)))]) (st' := []) 1 rfl ?_
  exact b_fill_6 (m := 2 ^ e) S (by decide) (by rw [show (0 : Int32).toInt = 0 by decide]; omega)
end S9g
end Qz174
section Qz175
/-! bars: the row is cleared; is a set's arrival new -/
section S9h
variable {t : gT} {d : Nat} {c : Nat × Nat} {B : Nat → List gE} {P : Nat → Nat → Nat} {F : Nat → Nat → Int32} {A : Nat → Nat → Nat → Int32} {J : Nat → Nat → Nat → Int64} {j e : Nat}
/-- nothing but the row's place was changed -/
def p39 (P P' : Nat → Nat → Nat) : Prop := ∀ r k, ¬ (r = 32 ∧ k = 9) → P' r k = P r k
theorem p39_up {a : Nat} : p39 P (va_up P 32 (va_up (P 32) 9 a)) := fun r k h => by
  by_cases e : r = 32
  · subst e
    rw [c_up_same, c_up_ne (fun e => h ⟨rfl, e⟩)]
  · rw [c_up_ne e]
theorem b_clear_16 {x : Int32} (S : SEb c B P j e) : kx t (d + 1) 15 16 [(0, .ref (32 * 1024)), (1, .int x)] [] (c_h c B P F A J) (fun z => ∃ B', z = (none, c_h c B' P F A J) ∧ SEb c B' P j e ∧ b39 B B') := by
  refine kxB (pc' := 17) (loc' := [(0, .ref (32 * 1024)), (1, .int x)]) (st' := [.ref (32 * 1024)]) 1 rfl ?_
  refine kx_seen rfl S.2.2.1 ?_
  refine kxB (pc' := 21) (loc' := [(0, .ref (32 * 1024)), (1, .int x)]) (st' := [.long 0, .ref (39936 + j)]) 1 rfl ?_
  refine kxC rfl rfl rfl rfl (b_fill S) ?_
  rintro v h1 ⟨B', e1, S', q⟩
  cases e1
  exact kxR (k_vret rfl rfl) ⟨B', rfl, S', q⟩
theorem b_clear {x : Int32} (ht : ∀ ci k, t.1 ci k = k_ty ci k) (S : SEc c B P) (e1 : 1 ≤ e) (e13 : e ≤ 13) (hx : x.toInt = (2 ^ e : Nat)) : kx t (d + 1) 15 0 [(0, .ref (32 * 1024)), (1, .int x)] [] (c_h c B P F A J) (fun z => ∃ c' B' P' j' e', z = (none, c_h c' B' P' F A J) ∧ SEb c' B' P' j' e' ∧ b39 B B' ∧ p39 P P') := by
  have x8 := two_e e13
  have x0 : 1 ≤ 2 ^ e := Nat.one_le_two_pow
  have xc : x.toNatClampNeg = 2 ^ e := by
    have : x.toNatClampNeg = x.toInt.toNat := rfl
    omega
  -- a new row
  have make : ∀ {k : Nat}, (B 39).length = k → c.1 = 340 + k → k + 1 ≤ e → c.2 ≤ 20126 + 2 ^ e → kx t (d + 1) 15 9 [(0, .ref (32 * 1024)), (1, .int x)] [] (c_h c B P F A J) (fun z => ∃ c' B' P' j' e', z = (none, c_h c' B' P' F A J) ∧ SEb c' B' P' j' e' ∧ b39 B B' ∧ p39 P P') := by
    intro k hk hc ke h2
    subst hk
    refine kxB (pc' := 11) (loc' := [(0, .ref (32 * 1024)), (1, .int x)]) (st' := [.int x, .ref (32 * 1024)]) 2 rfl ?_
    refine kx_new rfl hc (by omega) (by omega) (by omega) ?_
    refine kx_pseen ht rfl ?_
    have S' : SEb (c.1 + 1, c.2 + x.toNatClampNeg) (va_up B 39 (B 39 ++ [jC x.toNatClampNeg (fun _ => 0)])) (va_up P 32 (va_up (P 32) 9 (39936 + (B 39).length))) (B 39).length e := by
      refine ⟨?_, ?_, ?_, ke, e13, ⟨fun _ => 0, ?_⟩, ?_⟩
      · rw [c_up_same, List.length_append, hc]
        rfl
      · rw [c_up_same, List.length_append]
        rfl
      · rw [c_up_same, c_up_same]
      · rw [c_up_same, xc, List.getElem?_append_right (Nat.le_refl _), Nat.sub_self]
        rfl
      · show c.2 + x.toNatClampNeg ≤ _
        rw [xc]
        omega
    obtain ⟨z, a, B', rfl, S2, q⟩ := b_clear_16 (t := t) (d := d) (x := x) (F := F) (A := A) (J := J) S'
    exact ⟨_, a, _, B', _, _, _, rfl, S2, b39_up.tr q, p39_up⟩
  refine kxB (pc' := 1) (loc' := [(0, .ref (32 * 1024)), (1, .int x)]) (st' := [.ref (32 * 1024)]) 1 rfl ?_
  rcases S with ⟨s1, s2, s3, s4⟩ | ⟨j', e', S⟩
  · refine kx_seen rfl s3 ?_
    refine kxI (fun z hz => k_cln 34 0 (K := 8) rfl rfl rfl rfl hz) ?_
    refine kxB (pc' := 6) (loc' := [(0, .ref (32 * 1024)), (1, .int x)]) (st' := [.int x, .int (Int32.ofNat 0)]) 1 rfl ?_
    refine kxic rfl (fun hc => ?_) (fun _ => ?_)
    · rw [i_ge, show (Int32.ofNat 0).toInt = 0 by decide] at hc
      omega
    · exact make (k := 0) (by rw [s2]; rfl) s1 e1 (by omega)
  · refine kx_seen rfl S.2.2.1 ?_
    obtain ⟨f, hf⟩ := S.2.2.2.2.2.1
    have j1 := S.2.2.2.1
    have j2 := S.2.2.2.2.1
    have x9 := two_e j2
    have el : (Int32.ofNat (2 ^ e')).toInt = (2 ^ e' : Nat) := Int32.toInt_ofNat_of_lt (by omega)
    refine k39_len rfl hf (by omega) ?_
    refine kxB (pc' := 6) (loc' := [(0, .ref (32 * 1024)), (1, .int x)]) (st' := [.int x, .int (Int32.ofNat (2 ^ e'))]) 1 rfl ?_
    refine kxic rfl (fun _ => ?_) (fun hc => ?_)
    · obtain ⟨z, a, B', rfl, S2, q⟩ := b_clear_16 (t := t) (d := d) (x := x) (F := F) (A := A) (J := J) S
      exact ⟨_, a, _, B', _, _, _, rfl, S2, q, fun _ _ _ => rfl⟩
    · rw [i_nge] at hc
      have lt : e' < e := by
        rcases Nat.lt_or_ge e' e with w | w
        · exact w
        · have := Nat.pow_le_pow_right (n := 2) (by decide) w
          omega
      have dbl : 2 * 2 ^ e' ≤ 2 ^ e := by
        have := Nat.pow_le_pow_right (n := 2) (by decide) lt
        rw [Nat.pow_succ] at this
        omega
      have c2 := S.2.2.2.2.2.2
      exact make (k := j' + 1) S.2.1 (by rw [S.1, S.2.1]) (by omega) (by omega)
/-- what isNew leaves -/
def NWc (c : Nat × Nat) (B : Nat → List gE) (P : Nat → Nat → Nat) (F : Nat → Nat → Int32) (A : Nat → Nat → Nat → Int32) (J : Nat → Nat → Nat → Int64) (j e : Nat) (z : Option Value × gH) : Prop := ∃ (v : Int32) (B' : Nat → List gE), z = (some (.int v), c_h c B' P F A J) ∧ SEb c B' P j e ∧ b39 B B'
theorem b_new_30 {key m3 : Int64} {mask : Int32} (S : SEb c B P j e) (hm : mask.toInt = (2 ^ e : Nat) - 1) : ∀ {m : Nat} {s i : Int32}, 0 ≤ i.toInt → i.toInt + m = (2 ^ e : Nat) → 0 ≤ s.toInt → s.toInt < (2 ^ e : Nat) → kx t d 16 30 [(0, .ref (32 * 1024)), (1, .long key), (3, .long m3), (5, .int mask), (6, .int s), (7, .int i)] [] (c_h c B P F A J) (NWc c B P F A J j e) := by
  have x9 := two_e S.2.2.2.2.1
  have j1 := S.2.2.2.1
  have j2 := S.2.2.2.2.1
  have el : (Int32.ofNat (2 ^ e)).toInt = (2 ^ e : Nat) := Int32.toInt_ofNat_of_lt (by omega)
  have x0 : 1 ≤ 2 ^ e := Nat.one_le_two_pow
  obtain ⟨f, hf⟩ := S.2.2.2.2.2.1
  have hj : j < 1024 := by omega
  intro m
  induction m with
  | zero =>
    intro s i i0 hi s0 s1
    refine kxB (pc' := 33) (loc' := [(0, .ref (32 * 1024)), (1, .long key), (3, .long m3), (5, .int mask), (6, .int s), (7, .int i)]) (st' := [.ref (32 * 1024), .int i]) 2 rfl ?_
    refine kx_seen rfl S.2.2.1 ?_
    refine k39_len rfl hf hj ?_
    refine kxic rfl (fun _ => ?_) (fun hc => ?_)
    · refine kxB (pc' := 96) (loc' := [(0, .ref (32 * 1024)), (1, .long key), (3, .long m3), (5, .int mask), (6, .int s), (7, .int i)]) (st' := [.int 1]) 1 rfl ?_
      exact kxR (k_zret rfl rfl (.inr rfl)) ⟨1, B, rfl, S, fun _ _ => rfl⟩
    · rw [i_nge] at hc
      omega
  | succ m ih =>
    intro s i i0 hi s0 s1
    have l1 : (1 : Int32).toInt = 1 := by decide
    have ei : (i + 1).toInt = i.toInt + 1 := by rw [i_add (by omega) (by omega), l1]
    have ms := i_and (x := s + 1) (m := mask) (by omega)
    refine kxB (pc' := 33) (loc' := [(0, .ref (32 * 1024)), (1, .long key), (3, .long m3), (5, .int mask), (6, .int s), (7, .int i)]) (st' := [.ref (32 * 1024), .int i]) 2 rfl ?_
    refine kx_seen rfl S.2.2.1 ?_
    refine k39_len rfl hf hj ?_
    refine kxic rfl (fun hc => ?_) (fun hc => ?_)
    · rw [i_ge] at hc
      omega
    · refine kxB (pc' := 41) (loc' := [(0, .ref (32 * 1024)), (1, .long key), (3, .long m3), (5, .int mask), (6, .int s), (7, .int i)]) (st' := [.ref (32 * 1024)]) 1 rfl ?_
      refine kx_seen rfl S.2.2.1 ?_
      refine kxB (pc' := 46) (loc' := [(0, .ref (32 * 1024)), (1, .long key), (3, .long m3), (5, .int mask), (6, .int s), (7, .int i)]) (st' := [.int s, .ref (39936 + j)]) 1 rfl ?_
      refine k39_ld rfl hf hj s0 s1 (fun v => ?_)
      refine kxB (pc' := 51) (loc' := [(0, .ref (32 * 1024)), (1, .long key), (3, .long m3), (5, .int mask), (6, .int s), (7, .int i)]) (st' := [.int _]) 4 rfl ?_
      refine kxif rfl (fun _ => ?_) (fun _ => ?_)
      · refine kxB (pc' := 57) (loc' := [(0, .ref (32 * 1024)), (1, .long key), (3, .long m3), (5, .int mask), (6, .int s), (7, .int i)]) (st' := [.ref (32 * 1024)]) 1 rfl ?_
        refine kx_seen rfl S.2.2.1 ?_
        refine kxB (pc' := 62) (loc' := [(0, .ref (32 * 1024)), (1, .long key), (3, .long m3), (5, .int mask), (6, .int s), (7, .int i)]) (st' := [.int s, .ref (39936 + j)]) 1 rfl ?_
        refine k39_ld rfl hf hj s0 s1 (fun v => ?_)
        refine kxB (pc' := 65) (loc' := [(0, .ref (32 * 1024)), (1, .long key), (3, .long m3), (5, .int mask), (6, .int s), (7, .int i)]) (st' := [.int _]) 2 rfl ?_
        refine kxif rfl (fun _ => ?_) (fun _ => ?_)
        · refine kxB (pc' := 30) (loc' := [(0, .ref (32 * 1024)), (1, .long key), (3, .long m3), (5, .int mask), (6, .int ((s + 1) &&& mask)), (7, .int (i + 1))]) (st' := []) 8 rfl ?_
          exact ih (by omega) (by omega) (by omega) (by omega)
        · refine kxB (pc' := 69) (loc' := [(0, .ref (32 * 1024)), (1, .long key), (3, .long m3), (5, .int mask), (6, .int s), (7, .int i)]) (st' := [.ref (32 * 1024)]) 1 rfl ?_
          refine kx_seen rfl S.2.2.1 ?_
          refine kxB (pc' := 77) (loc' := [(0, .ref (32 * 1024)), (1, .long key), (3, .long m3), (5, .int mask), (6, .int s), (7, .int i)]) (st' := [.long _, .int s, .ref (39936 + j)]) 4 rfl ?_
          refine k39_st rfl hf hj s0 s1 (fun f' => ?_)
          refine kxB (pc' := 79) (loc' := [(0, .ref (32 * 1024)), (1, .long key), (3, .long m3), (5, .int mask), (6, .int s), (7, .int i)]) (st' := [.int 1]) 1 rfl ?_
          exact kxR (k_zret rfl rfl (.inr rfl)) ⟨1, _, rfl, S.set, b39_up⟩
      · refine kxB (pc' := 55) (loc' := [(0, .ref (32 * 1024)), (1, .long key), (3, .long m3), (5, .int mask), (6, .int s), (7, .int i)]) (st' := [.int 0]) 1 rfl ?_
        exact kxR (k_zret rfl rfl (.inl rfl)) ⟨0, B, rfl, S, fun _ _ => rfl⟩
theorem b_new {key : Int64} (S : SEb c B P j e) : kx t d 16 0 [(0, .ref (32 * 1024)), (1, .long key)] [] (c_h c B P F A J) (NWc c B P F A J j e) := by
  have x9 := two_e S.2.2.2.2.1
  have j1 := S.2.2.2.1
  have j2 := S.2.2.2.2.1
  have el : (Int32.ofNat (2 ^ e)).toInt = (2 ^ e : Nat) := Int32.toInt_ofNat_of_lt (by omega)
  have x0 : 1 ≤ 2 ^ e := Nat.one_le_two_pow
  have l1 : (1 : Int32).toInt = 1 := by decide
  have em : (Int32.ofNat (2 ^ e) - 1).toInt = (2 ^ e : Nat) - 1 := by rw [i_sub (by omega) (by omega), l1, el]
  obtain ⟨f, hf⟩ := S.2.2.2.2.2.1
  have hj : j < 1024 := by omega
  refine kxB (pc' := 9) (loc' := [(0, .ref (32 * 1024)), (1, .long key), (3, .long _)]) (st' := [.ref (32 * 1024)]) 7 rfl ?_
  refine kx_seen rfl S.2.2.1 ?_
  refine k39_len rfl hf hj ?_
  refine kxB (pc' := 22) (loc' := [(0, .ref (32 * 1024)), (1, .long key), (3, .long _), (5, .int (Int32.ofNat (2 ^ e) - 1))]) (st' := [.int _]) 7 rfl ?_
  refine kxB (pc' := 30) (loc' := [(0, .ref (32 * 1024)), (1, .long key), (3, .long _), (5, .int (Int32.ofNat (2 ^ e) - 1)), (6, .int (_ &&& (Int32.ofNat (2 ^ e) - 1))), (7, .int 0)]) (st' := []) 5 rfl ?_
  refine b_new_30 (m := 2 ^ e) S em (by decide) (by rw [show (0 : Int32).toInt = 0 by decide]; omega) ?_ ?_
  · exact (i_and (by omega)).1
  · exact Int.lt_of_le_of_lt (i_and (by omega)).2 (by omega)
end S9h
end Qz175
section Qz176
/-! bars, whatever the evening -/
section S9i
variable {t : gT} {d : Nat} {c : Nat × Nat} {B B0 : Nat → List gE} {P P' P0 : Nat → Nat → Nat} {F F' F0 : Nat → Nat → Int32} {A A' A0 : Nat → Nat → Nat → Int32} {J : Nat → Nat → Nat → Int64} {j e : Nat}
theorem kx_ok {α : Type} {o : Option α} {R : α → Prop} {zf : α → Option Value × gH} {M pc : Nat} {loc : List (Nat × Value)} {st : List Value} {h0 : gH} (h : ok o R) (hr : ∀ w, o = some w → k_run t c_lg d M pc loc st h0 (zf w)) : kx t d M pc loc st h0 (fun z => ∃ w, z = zf w ∧ R w) := by
  obtain ⟨w, hw, r⟩ := h
  exact ⟨_, hr w hw, w, rfl, r⟩
theorem tk_J {c c' : Nat × Nat} {B B' : Nat → List gE} {P P' : Nat → Nat → Nat} {F F' : Nat → Nat → Int32} {A A' : Nat → Nat → Nat → Int32} {J J' : Nat → Nat → Nat → Int64} (h : tkp 3 (c_h c B P F A J) (c_h c' B' P' F' A' J')) : J' 37 6 = J 37 6 := by
  have g : ∀ {c : Nat × Nat} {B : Nat → List gE} {P : Nat → Nat → Nat} {F : Nat → Nat → Int32} {A : Nat → Nat → Nat → Int32} {J : Nat → Nat → Nat → Int64}, g_get (c_h c B P F A J) (37 * 1024 + 6) = some (.inl (3, 21, .inr (.inl (J 37 6)))) := fun {c B P F A J} => (c_get (r := 37) (o := 6) (K := 11) rfl (by decide)).trans rfl
  have e := (h _ _ g).symm.trans g
  injection e with e
  injection e with e
  injection e with e1 e
  injection e with e2 e
  injection e with e
  injection e with e
  exact e.symm
theorem tk_A {c c' : Nat × Nat} {B B' : Nat → List gE} {P P' : Nat → Nat → Nat} {F F' : Nat → Nat → Int32} {A A' : Nat → Nat → Nat → Int32} {J J' : Nat → Nat → Nat → Int64} (h : tkp 1 (c_h c B P F A J) (c_h c' B' P' F' A' J')) : A' 1 1 = A 1 1 := by
  have g : ∀ {c : Nat × Nat} {B : Nat → List gE} {P : Nat → Nat → Nat} {F : Nat → Nat → Int32} {A : Nat → Nat → Nat → Int32} {J : Nat → Nat → Nat → Int64}, g_get (c_h c B P F A J) (1 * 1024 + 1) = some (.inl (1, 2000, .inl (A 1 1))) := fun {c B P F A J} => (c_get (r := 1) (o := 1) (K := 1) rfl (by decide)).trans rfl
  have e := (h _ _ g).symm.trans g
  injection e with e
  injection e with e
  injection e with e1 e
  injection e with e2 e
  injection e with e
  exact e.symm
theorem kx_okT {α : Type} {o : Option α} {R : α → Prop} {zf : α → Option Value × gH} {M pc : Nat} {loc : List (Nat × Value)} {st : List Value} {h0 : gH} (h : ok o R) (hr : ∀ w, o = some w → k_run t c_lg d M pc loc st h0 (zf w)) (hM : k_sL.contains M = true) : kx t d M pc loc st h0 (fun z => ∃ w, z = zf w ∧ R w ∧ tkp 3 h0 (zf w).2) := by
  obtain ⟨w, hw, r⟩ := h
  exact ⟨_, hr w hw, w, rfl, r, k_longs (v := (zf w).1) hM (hr w hw)⟩
/-- what holds between the tries -/
def BIv (P0 : Nat → Nat → Nat) (F0 : Nat → Nat → Int32) (A0 : Nat → Nat → Nat → Int32) (B0 : Nat → List gE) (c : Nat × Nat) (B : Nat → List gE) (P : Nat → Nat → Nat) (F : Nat → Nat → Int32) (A : Nat → Nat → Nat → Int32) : Prop := Gc P F A ∧ (∃ j e, SEb c B P j e) ∧ F 1 1 = F0 1 1 ∧ b39 B0 B ∧ HK P0 F0 A0 P F A ∧ BW P0 F0 A0 F A
theorem BIv.q (I : BIv P0 F0 A0 B0 c B P F A) (q : QFc P P' F F' A A') : BIv P0 F0 A0 B0 c B P' F' A' := by
  obtain ⟨G, ⟨j, e, S⟩, e1, b, hk, ks⟩ := I
  exact ⟨q.g G, ⟨j, e, S.1, S.2.1, (q.1.1 32 9 (by decide)).trans S.2.2.1, S.2.2.2⟩, (q.1.2.2.2.2.2.2 1).trans e1, b, hk.tr q.1.hk, ks.q hk.1 q⟩
def BIw (w : Nat → Int64) (J : Nat → Nat → Nat → Int64) (P0 : Nat → Nat → Nat) (F0 : Nat → Nat → Int32) (A0 : Nat → Nat → Nat → Int32) (B0 : Nat → List gE) (c : Nat × Nat) (B : Nat → List gE) (P : Nat → Nat → Nat) (F : Nat → Nat → Int32) (A : Nat → Nat → Nat → Int32) : Prop := BIv P0 F0 A0 B0 c B P F A ∧ J 37 6 = w
theorem BIw.q {w : Nat → Int64} {J J' : Nat → Nat → Nat → Int64} (I : BIw w J P0 F0 A0 B0 c B P F A) (q : QFc P P' F F' A A') (h : J' 37 6 = J 37 6) : BIw w J' P0 F0 A0 B0 c B P' F' A' := ⟨I.1.q q, h.trans I.2⟩
theorem b_43 {w : Nat → Int64} (ht : ∀ ci k, t.1 ci k = k_ty ci k) {sets size : Int32} {Q : Option Value × gH → Prop} (hs : sets.toInt ≤ 4096) (K : ∀ {c : Nat × Nat} {B : Nat → List gE} {P : Nat → Nat → Nat} {F : Nat → Nat → Int32} {A : Nat → Nat → Nat → Int32} {J : Nat → Nat → Nat → Int64} {set : Int32}, BIw w J P0 F0 A0 B0 c B P F A → kx t (d + 6) 13 103 [(0, .ref (32 * 1024)), (1, .int sets), (2, .int size), (3, .int set)] [] (c_h c B P F A J) Q) : ∀ {m : Nat} {c : Nat × Nat} {B : Nat → List gE} {P : Nat → Nat → Nat} {F : Nat → Nat → Int32} {A : Nat → Nat → Nat → Int32} {J : Nat → Nat → Nat → Int64} {set : Int32}, BIw w J P0 F0 A0 B0 c B P F A → 0 ≤ set.toInt → set.toInt + m = sets.toInt → kx t (d + 6) 13 43 [(0, .ref (32 * 1024)), (1, .int sets), (2, .int size), (3, .int set)] [] (c_h c B P F A J) Q := by
  intro m
  induction m with
  | zero =>
    intro c B P F A J set I s0 hm
    refine kxB (pc' := 45) (loc' := [(0, .ref (32 * 1024)), (1, .int sets), (2, .int size), (3, .int set)]) (st' := [.int sets, .int set]) 2 rfl ?_
    refine kxic rfl (fun _ => K I) (fun hc => ?_)
    rw [i_nge] at hc
    omega
  | succ m ih =>
    intro c B P F A J set I s0 hm
    have l1 : (1 : Int32).toInt = 1 := by decide
    have es : (set + 1).toInt = set.toInt + 1 := by rw [i_add (by omega) (by omega), l1]
    have f97 : ∀ {c : Nat × Nat} {B : Nat → List gE} {P : Nat → Nat → Nat} {F : Nat → Nat → Int32} {A : Nat → Nat → Nat → Int32} {J : Nat → Nat → Nat → Int64}, BIw w J P0 F0 A0 B0 c B P F A → kx t (d + 6) 13 97 [(0, .ref (32 * 1024)), (1, .int sets), (2, .int size), (3, .int set)] [] (c_h c B P F A J) Q := by
      intro c B P F A J I
      refine kxB (pc' := 43) (loc' := [(0, .ref (32 * 1024)), (1, .int sets), (2, .int size), (3, .int (set + 1))]) (st' := []) 2 rfl ?_
      exact ih I (by omega) (by omega)
    refine kxB (pc' := 45) (loc' := [(0, .ref (32 * 1024)), (1, .int sets), (2, .int size), (3, .int set)]) (st' := [.int sets, .int set]) 2 rfl ?_
    refine kxic rfl (fun _ => K I) (fun hc => ?_)
    refine kxB (pc' := 49) (loc' := [(0, .ref (32 * 1024)), (1, .int sets), (2, .int size), (3, .int set)]) (st' := [.int set]) 1 rfl ?_
    refine kxC (Q1 := fun z => ∃ v : Int32, z = (some (.int v), c_h c B P F A J)) rfl rfl rfl rfl ⟨_, t_e_Integer_bitCount (d := d + 5) rfl, _, rfl⟩ ?_
    rintro v h1 ⟨v', e1⟩
    cases e1
    refine kxB (pc' := 53) (loc' := [(0, .ref (32 * 1024)), (1, .int sets), (2, .int size), (3, .int set)]) (st' := [.int size, .int v']) 1 rfl ?_
    refine kxic rfl (fun _ => f97 I) (fun _ => ?_)
    refine kxB (pc' := 59) (loc' := [(0, .ref (32 * 1024)), (1, .int sets), (2, .int size), (3, .int set)]) (st' := [.int set, .ref (32 * 1024), .ref (32 * 1024)]) 3 rfl ?_
    refine kxV rfl rfl rfl (c_get (r := 32) (o := 0) (K := 7) rfl (by decide)) rfl rfl (kx_okT (f_s_arrivals (n := 200) I.1.1 (by omega)) (fun w hw => t_e_Evening_arrivals (d := d + 2) ht hw) (by decide)) ?_
    rintro v h1 ⟨⟨key, P2, F2, A2, J2⟩, e1, q2, tk2⟩
    cases e1
    dsimp only at q2
    have I2 := I.q q2 (tk_J tk2)
    obtain ⟨j, e, S2⟩ := I2.1.2.1
    refine kxV rfl rfl rfl (c_get (r := 32) (o := 0) (K := 7) rfl (by decide)) rfl rfl (b_new (d := d + 5) S2) ?_
    rintro v h1 ⟨v3, B3, e1, S3, b3⟩
    cases e1
    have I3 : BIw w J2 P0 F0 A0 B0 c B3 P2 F2 A2 := ⟨⟨I2.1.1, ⟨j, e, S3⟩, I2.1.2.2.1, I2.1.2.2.2.1.tr b3, I2.1.2.2.2.2⟩, I2.2⟩
    refine kxif rfl (fun _ => f97 I3) (fun _ => ?_)
    refine kxB (pc' := 69) (loc' := [(0, .ref (32 * 1024)), (1, .int sets), (2, .int size), (3, .int set)]) (st' := [.ref (32 * 1024)]) 1 rfl ?_
    refine kxI (fun z hz => k_gf 32 0 (K := 7) rfl rfl rfl rfl rfl hz) ?_
    refine kxB (pc' := 73) (loc' := [(0, .ref (32 * 1024)), (1, .int sets), (2, .int size), (3, .int set)]) (st' := [.ref (32 * 1024), .ref (33 * 1024)]) 1 rfl ?_
    refine kxI (fun z hz => k_gf 32 0 (K := 7) rfl rfl rfl rfl rfl hz) ?_
    refine kxV rfl rfl rfl (c_get (r := 33) (o := 0) (K := 2) rfl (by decide)) rfl rfl (kx_okT (fq_trial I3.1.1) (fun w hw => t_e_State_copy (d := d + 5) ht rfl rfl hw) (by decide)) ?_
    rintro v h1 ⟨⟨u4, P4, F4, A4, J4⟩, e1, ⟨g4, q4, L4, -⟩, tk4⟩
    cases e1
    dsimp only at g4 q4 L4
    subst g4
    have I4 := I3.q q4 (tk_J tk4)
    refine kxB (pc' := 80) (loc' := [(0, .ref (32 * 1024)), (1, .int sets), (2, .int size), (3, .int set)]) (st' := [.ref (32 * 1024)]) 1 rfl ?_
    refine kxI (fun z hz => k_gf 32 0 (K := 7) rfl rfl rfl rfl rfl hz) ?_
    refine kxB (pc' := 84) (loc' := [(0, .ref (32 * 1024)), (1, .int sets), (2, .int size), (3, .int set)]) (st' := [.int set, .ref (33 * 1024)]) 1 rfl ?_
    have pf : ∃ F5, c_pf F4 33 7 set = some F5 ∧ FUm F4 F5 33 7 set := by
      have := ok_cpf (F := F4) (r := 33) (k := 7) (x := set) (g := fun F' => some F') (Q := fun F' => FUm F4 F' 33 7 set) (fun F' U => ok_some U)
      obtain ⟨F5, h5, U5⟩ := this
      exact ⟨F5, by rw [← h5]; rfl, U5⟩
    obtain ⟨F5, h5, U5⟩ := pf
    refine kxI (fun z hz => k_cpt 33 0 (K := 2) (key := 7) rfl rfl (ht _ _) rfl rfl rfl h5 hz) ?_
    have q5 := (QFc.rfl' (P := P4) I4.1.1.1).pf U5 trivial (by decide)
    have I5 : BIw w J4 P0 F0 A0 B0 c B3 P4 F5 A4 := I4.q q5 rfl
    refine kxB (pc' := 89) (loc' := [(0, .ref (32 * 1024)), (1, .int sets), (2, .int size), (3, .int set)]) (st' := [.ref (32 * 1024), .ref (32 * 1024)]) 2 rfl ?_
    refine kxV rfl rfl rfl (c_get (r := 32) (o := 0) (K := 7) rfl (by decide)) rfl rfl (kx_okT (f_q_gainOfTrial (n := 1400) I5.1.1 L4 (by omega)) (fun w hw => t_e_Evening_gainOfTrial (d := d) ht hw) (by decide)) ?_
    rintro v h1 ⟨⟨v6, P6, F6, A6, J6⟩, e1, q6, tk6⟩
    cases e1
    dsimp only at q6
    have I6 := I5.q q6 (tk_J tk6)
    refine kxB (pc' := 94) (loc' := [(0, .ref (32 * 1024)), (1, .int sets), (2, .int size), (3, .int set)]) (st' := [.int (-1), .int set, .int v6, .ref (32 * 1024)]) 2 rfl ?_
    refine kxV rfl rfl rfl (c_get (r := 32) (o := 0) (K := 7) rfl (by decide)) rfl rfl (kx_okT (f_q_offer I6.1.1) (fun w hw => t_e_Evening_offer (d := d + 5) ht hw) (by decide)) ?_
    rintro v h1 ⟨⟨u7, P7, F7, A7, J7⟩, e1, q7, tk7⟩
    cases e1
    dsimp only at q7
    exact f97 (I6.q q7 (tk_J tk7))
/-- what seekBars leaves -/
def BQw (w : Nat → Int64) (P0 : Nat → Nat → Nat) (F0 : Nat → Nat → Int32) (A0 : Nat → Nat → Nat → Int32) (B0 : Nat → List gE) (v : Option Value) (z : Option Value × gH) : Prop := ∃ c' B' P' F' A' J', z = (v, c_h c' B' P' F' A' J') ∧ Gc P' F' A' ∧ SEc c' B' P' ∧ F' 1 1 = F0 1 1 ∧ b39 B0 B' ∧ J' 37 6 = w ∧ HK P0 F0 A0 P' F' A' ∧ BW P0 F0 A0 F' A'
theorem b_30 {w : Nat → Int64} (ht : ∀ ci k, t.1 ci k = k_ty ci k) {sets : Int32} (hs0 : 0 ≤ sets.toInt) (hs : sets.toInt ≤ 4096) : ∀ {m : Nat} {c : Nat × Nat} {B : Nat → List gE} {P : Nat → Nat → Nat} {F : Nat → Nat → Int32} {A : Nat → Nat → Nat → Int32} {J : Nat → Nat → Nat → Int64} {size : Int32} {loc3 : List (Nat × Value)}, BIw w J P0 F0 A0 B0 c B P F A → 0 ≤ size.toInt → size.toInt + m = 13 → loc3 = [] ∨ (∃ s : Int32, loc3 = [(3, .int s)]) → kx t (d + 6) 13 30 ([(0, .ref (32 * 1024)), (1, .int sets), (2, .int size)] ++ loc3) [] (c_h c B P F A J) (BQw w P0 F0 A0 B0 none) := by
  intro m
  induction m with
  | zero =>
    intro c B P F A J size loc3 I s0 hm h3
    have k4 := I.1.1.k324
    have a1 : 0 ≤ (F (P 32 4) 14).toInt ∧ (F (P 32 4) 14).toInt ≤ 12 := by have := I.1.1.1.1 (P 32 4) 14; rw [k4] at this; exact this
    refine kxwk [0, 1, 2] (loc' := [(0, .ref (32 * 1024)), (1, .int sets), (2, .int size)]) (by rcases h3 with rfl | ⟨s, rfl⟩ <;> rfl) (by rcases h3 with rfl | ⟨s, rfl⟩ <;> rfl) ?_
    refine kxB (pc' := 32) (loc' := [(0, .ref (32 * 1024)), (1, .int sets), (2, .int size)]) (st' := [.ref (32 * 1024), .int size]) 2 rfl ?_
    refine kxI (fun z hz => k_gf 32 0 (K := 7) rfl rfl rfl rfl rfl hz) ?_
    refine kxI (fun z hz => k_gf (P 32 4) 0 (K := 6) k4 rfl (Nat.add_zero _) rfl rfl hz) ?_
    refine kxic rfl (fun _ => ?_) (fun hc => ?_)
    · exact kxR (k_vret rfl rfl) ⟨c, B, P, F, A, J, rfl, I.1.1, .inr I.1.2.1, I.1.2.2.1, I.1.2.2.2.1, I.2, I.1.2.2.2.2⟩
    · rw [i_ngt] at hc
      omega
  | succ m ih =>
    intro c B P F A J size loc3 I s0 hm h3
    have l1 : (1 : Int32).toInt = 1 := by decide
    have l0 : (0 : Int32).toInt = 0 := by decide
    have es : (size + 1).toInt = size.toInt + 1 := by rw [i_add (by omega) (by omega), l1]
    have k4 := I.1.1.k324
    refine kxwk [0, 1, 2] (loc' := [(0, .ref (32 * 1024)), (1, .int sets), (2, .int size)]) (by rcases h3 with rfl | ⟨s, rfl⟩ <;> rfl) (by rcases h3 with rfl | ⟨s, rfl⟩ <;> rfl) ?_
    refine kxB (pc' := 32) (loc' := [(0, .ref (32 * 1024)), (1, .int sets), (2, .int size)]) (st' := [.ref (32 * 1024), .int size]) 2 rfl ?_
    refine kxI (fun z hz => k_gf 32 0 (K := 7) rfl rfl rfl rfl rfl hz) ?_
    refine kxI (fun z hz => k_gf (P 32 4) 0 (K := 6) k4 rfl (Nat.add_zero _) rfl rfl hz) ?_
    refine kxic rfl (fun _ => ?_) (fun hc => ?_)
    · exact kxR (k_vret rfl rfl) ⟨c, B, P, F, A, J, rfl, I.1.1, .inr I.1.2.1, I.1.2.2.1, I.1.2.2.2.1, I.2, I.1.2.2.2.2⟩
    · refine kxB (pc' := 43) (loc' := [(0, .ref (32 * 1024)), (1, .int sets), (2, .int size), (3, .int 0)]) (st' := []) 2 rfl ?_
      refine b_43 (m := sets.toInt.toNat) ht hs ?_ I (by decide) (by omega)
      intro c B P F A J set I
      refine kxB (pc' := 30) (loc' := [(0, .ref (32 * 1024)), (1, .int sets), (2, .int (size + 1)), (3, .int set)]) (st' := []) 2 rfl ?_
      exact ih (loc3 := [(3, .int set)]) I (by omega) (by omega) (.inr ⟨set, rfl⟩)
theorem b_seek {w : Nat → Int64} (ht : ∀ ci k, t.1 ci k = k_ty ci k) (G : Gc P F A) (S : SEc c B P) (hJ : J 37 6 = w) : kx t (d + 6) 13 0 [(0, .ref (32 * 1024))] [] (c_h c B P F A J) (BQw w P F A B none) := by
  refine kxB (pc' := 4) (loc' := [(0, .ref (32 * 1024))]) (st' := [.int (-1), .int (-1), .int 3, .ref (32 * 1024)]) 4 rfl ?_
  refine kxV rfl rfl rfl (c_get (r := 32) (o := 0) (K := 7) rfl (by decide)) rfl rfl (kx_okT (f_q_isAnswered (n := 60) G (by omega)) (fun w hw => t_e_Evening_isAnswered (d := d + 3) ht hw) (by decide)) ?_
  rintro v h1 ⟨⟨v2, P2, F2, A2, J2⟩, e1, q2, tk2⟩
  cases e1
  dsimp only at q2
  have G2 := q2.g G
  have p9 := q2.1.1 32 9 (by decide)
  have S2 : SEc c B P2 := by
    rcases S with ⟨a, b, x, y⟩ | ⟨j, e, S⟩
    · exact .inl ⟨a, b, p9.trans x, y⟩
    · exact .inr ⟨j, e, S.1, S.2.1, p9.trans S.2.2.1, S.2.2.2⟩
  have f11 : F2 1 1 = F 1 1 := q2.1.2.2.2.2.2.2 1
  have hJ2 : J2 37 6 = w := (tk_J tk2).trans hJ
  refine kxif rfl (fun _ => ?_) (fun _ => ?_)
  · have k4 := G2.k324
    have a1 : 0 ≤ (F2 (P2 32 4) 14).toInt ∧ (F2 (P2 32 4) 14).toInt ≤ 12 := by have := G2.1.1 (P2 32 4) 14; rw [k4] at this; exact this
    have bs := b_sets ⟨(F2 (P2 32 4) 14).toInt.toNat, by omega⟩
    have ed : F2 (P2 32 4) 14 = Int32.ofNat (F2 (P2 32 4) 14).toInt.toNat := i_nat (by omega)
    dsimp only at bs
    rw [← ed] at bs
    refine kxB (pc' := 13) (loc' := [(0, .ref (32 * 1024))]) (st' := [.ref (32 * 1024), .int 1]) 2 rfl ?_
    refine kxI (fun z hz => k_gf 32 0 (K := 7) rfl rfl rfl rfl rfl hz) ?_
    refine kxI (fun z hz => k_gf (P2 32 4) 0 (K := 6) k4 rfl (Nat.add_zero _) rfl rfl hz) ?_
    refine kxB (pc' := 25) (loc' := [(0, .ref (32 * 1024)), (1, .int ((1 : Int32) <<< (F2 (P2 32 4) 14 &&& 31)))]) (st' := [.int (2 * ((1 : Int32) <<< (F2 (P2 32 4) 14 &&& 31))), .ref (32 * 1024)]) 6 rfl ?_
    refine kxV rfl rfl rfl (c_get (r := 32) (o := 0) (K := 7) rfl (by decide)) rfl rfl (b_clear (d := d + 4) (e := (F2 (P2 32 4) 14).toInt.toNat + 1) ht S2 (by omega) (by omega) (by rw [bs.1]; norm_cast)) ?_
    rintro v h1 ⟨c3, B3, P3, j3, e3, e1, S3, b3, p3⟩
    cases e1
    have G3 : Gc P3 F2 A2 := G2.cg G2.1 CSc.rfl' (p3 0 8 (by simp)) (p3 0 9 (by simp)) (p3 32 4 (by simp))
    refine kxB (pc' := 30) (loc' := [(0, .ref (32 * 1024)), (1, .int ((1 : Int32) <<< (F2 (P2 32 4) 14 &&& 31))), (2, .int 0)]) (st' := []) 2 rfl ?_
    exact b_30 (m := 13) (loc3 := []) ht (by omega) bs.2.1 ⟨⟨G3, ⟨j3, e3, S3⟩, f11, b3, ⟨(p3 0 8 (by simp)).trans q2.1.hk.1, q2.1.hk.2⟩, BW.rfl'.q rfl q2⟩, hJ2⟩ (by decide) (by decide) (.inl rfl)
  · exact kxR (k_vret rfl rfl) ⟨c, B, P2, F2, A2, J2, rfl, G2, S2, f11, fun _ _ => rfl, hJ2, q2.1.hk, BW.rfl'.q rfl q2⟩
/-- bars -/
theorem s_cBars {w : Nat → Int64} {x1 : Int32} (ht : ∀ ci k, t.1 ci k = k_ty ci k) (G : Gc P F A) (S : SEc c B P) (hJ : J 37 6 = w) : kx t (d + 7) 127 0 [(0, .ref (0 * 1024)), (1, .int x1)] [] (c_h c B P F A J) (fun z => ∃ v : Int32, BQw w P F A B (some (.int v)) z) := by
  have e9 : kx t (d + 7) 127 9 [(0, .ref (0 * 1024)), (1, .int x1)] [] (c_h c B P F A J) (fun z => ∃ v : Int32, BQw w P F A B (some (.int v)) z) := by
    refine kxB (pc' := 10) (loc' := [(0, .ref (0 * 1024)), (1, .int x1)]) (st' := [.int (-1)]) 1 rfl ?_
    exact kxR (k_iret rfl rfl) ⟨-1, c, B, P, F, A, J, rfl, G, S, rfl, fun _ _ => rfl, hJ, HK.rfl', BW.rfl'⟩
  refine kxB (pc' := 1) (loc' := [(0, .ref (0 * 1024)), (1, .int x1)]) (st' := [.int x1]) 1 rfl ?_
  refine kxif rfl (fun _ => e9) (fun _ => ?_)
  refine kxB (pc' := 6) (loc' := [(0, .ref (0 * 1024)), (1, .int x1)]) (st' := [.int 1, .int x1]) 2 rfl ?_
  refine kxic rfl (fun _ => ?_) (fun _ => e9)
  refine kxB (pc' := 12) (loc' := [(0, .ref (0 * 1024)), (1, .int x1)]) (st' := [.ref (0 * 1024)]) 1 rfl ?_
  refine kxI (fun z hz => k_gf 0 0 (K := 0) rfl rfl rfl rfl rfl hz) ?_
  refine kxV rfl rfl rfl (c_get (r := 32) (o := 0) (K := 7) rfl (by decide)) rfl rfl (b_seek (d := d) ht G S hJ) ?_
  rintro v h1 ⟨c2, B2, P2, F2, A2, J2, e1, G2, S2, f2, b2, j2, k2⟩
  cases e1
  refine kxB (pc' := 19) (loc' := [(0, .ref (0 * 1024)), (1, .int x1)]) (st' := [.int x1]) 1 rfl ?_
  refine kxif rfl (fun _ => ?_) (fun _ => ?_)
  · refine kxB (pc' := 33) (loc' := [(0, .ref (0 * 1024)), (1, .int x1)]) (st' := [.ref (0 * 1024)]) 1 rfl ?_
    refine kxI (fun z hz => k_gf 0 0 (K := 0) rfl rfl rfl rfl rfl hz) ?_
    refine kxI (fun z hz => k_gf 32 0 (K := 7) rfl rfl rfl rfl rfl hz) ?_
    exact kxR (k_iret rfl rfl) ⟨_, c2, B2, P2, F2, A2, J2, rfl, G2, S2, f2, b2, j2, k2⟩
  · refine kxB (pc' := 23) (loc' := [(0, .ref (0 * 1024)), (1, .int x1)]) (st' := [.ref (0 * 1024)]) 1 rfl ?_
    refine kxI (fun z hz => k_gf 0 0 (K := 0) rfl rfl rfl rfl rfl hz) ?_
    refine kxI (fun z hz => k_gf 32 0 (K := 7) rfl rfl rfl rfl rfl hz) ?_
    refine kxB (pc' := 39) (loc' := [(0, .ref (0 * 1024)), (1, .int x1)]) (st' := [.int (F2 32 10)]) 1 rfl ?_
    exact kxR (k_iret rfl rfl) ⟨_, c2, B2, P2, F2, A2, J2, rfl, G2, S2, f2, b2, j2, k2⟩
end S9i
end Qz176
section Qz177
/-! every call of the class, over what holds between calls (printed by wip/wcalls.py) -/
section S9j
variable {t : gT} {JW JK : Nat → Int64} {H : gH}
/-- what holds of the heap between calls: a and b, the lengths of the two tapes -/
def W4 (JW JK : Nat → Int64) (H : gH) : Prop := ∃ c B P F A J yF yA yJ, H = c_h c B P F A J ∧ Gc P F A ∧ SEc c B P ∧ B 40 = m_cells yF yA yJ ∧ SAm yF yA ∧ TPx F A yF yA ∧ J 37 6 = JW ∧ yJ 7 = JK ∧ XR P F A yF yA
theorem W4.g0 (W : W4 JW JK H) : ∃ fs, g_get H 0 = some (.inr (11, fs)) := by
  obtain ⟨c, B, P, F, A, J, yF, yA, yJ, rfl, -⟩ := W
  exact ⟨_, (c_get (r := 0) (o := 0) (K := 0) rfl (by decide)).trans rfl⟩
theorem W4.g1 (W : W4 JW JK H) : ∃ fs, g_get H 40960 = some (.inr (12, fs)) := by
  obtain ⟨c, B, P, F, A, J, yF, yA, yJ, rfl, -, -, e, -⟩ := W
  exact ⟨_, (c_get (r := 40) (o := 0) (K := 99) rfl (by decide)).trans (by show (B 40)[0]? = _; rw [e]; rfl)⟩
/-- the class has answered, the reference not yet -/
def WE (JW JK : Nat → Int64) (o : (Nat → Nat → Nat) → (Nat → Nat → Int32) → (Nat → Nat → Nat → Int32) → (Nat → Nat → Nat → Int64) → Option (cR Int32)) (v : Int32) (H : gH) : Prop := ∃ c B P F A J yF yA yJ w, o P F A J = some w ∧ w.1 = v ∧ H = c_h c B w.2.1 w.2.2.1 w.2.2.2.1 w.2.2.2.2 ∧ Gc w.2.1 w.2.2.1 w.2.2.2.1 ∧ SEc c B w.2.1 ∧ B 40 = m_cells yF yA yJ ∧ SAm yF yA ∧ Gc P F A ∧ TPx F A yF yA ∧ J 37 6 = JW ∧ yJ 7 = JK ∧ XR P F A yF yA
theorem WE.g1 {JW JK o v} (W : WE JW JK o v H) : ∃ fs, g_get H 40960 = some (.inr (12, fs)) := by
  obtain ⟨c, B, P, F, A, J, yF, yA, yJ, w, -, -, rfl, -, -, e, -⟩ := W
  exact ⟨_, (c_get (r := 40) (o := 0) (K := 99) rfl (by decide)).trans (by show (B 40)[0]? = _; rw [e]; rfl)⟩
theorem SEc.p {c : Nat × Nat} {B : Nat → List gE} {P P' : Nat → Nat → Nat} (S : SEc c B P) (h : P' 32 9 = P 32 9) : SEc c B P' := by
  rcases S with ⟨x, y, z, u⟩ | ⟨j, e, S⟩
  · exact .inl ⟨x, y, h.trans z, u⟩
  · exact .inr ⟨j, e, S.1, S.2.1, h.trans S.2.2.1, S.2.2.2⟩
theorem w_ca {M : Nat} (hL : k_sL.contains M = true) (hB : k_sB.contains M = true) {loc : List (Nat × Value)} {o : (Nat → Nat → Nat) → (Nat → Nat → Int32) → (Nat → Nat → Nat → Int32) → (Nat → Nat → Nat → Int64) → Option (Int32 × (Nat → Nat → Nat) × (Nat → Nat → Int32) × (Nat → Nat → Nat → Int32) × (Nat → Nat → Nat → Int64))} (hs : ∀ {P F A J}, Gc P F A → ok (o P F A J) (CBc P F A)) (hk2 : ∀ {P F A J}, Gc P F A → po (o P F A J) (fun r => QFc P r.2.1 F r.2.2.1 A r.2.2.2.1)) (hr : ∀ {c B P F A J w}, o P F A J = some w → k_run t c_lg 40 M 0 loc [] (c_h c B P F A J) (some (.int w.1), c_h c B w.2.1 w.2.2.1 w.2.2.2.1 w.2.2.2.2)) (W : W4 JW JK H) : kx t 40 M 0 loc [] H (fun z => ∃ v H', z = (some (.int v), H') ∧ W4 JW JK H') := by
  obtain ⟨c, B, P, F, A, J, yF, yA, yJ, rfl, G, S, e, s, tp, jw, jk, hc⟩ := W
  obtain ⟨w, hw, G', e', hk⟩ := hs (J := J) G
  obtain ⟨e1, e2⟩ := Prod.mk.inj e'
  have rr := hr (c := c) (B := B) hw
  have hJ := tk_J (k_longs hL rr)
  have hA := tk_A (k_bytes hB rr)
  exact ⟨_, rr, w.1, _, rfl, c, B, w.2.1, w.2.2.1, w.2.2.2.1, w.2.2.2.2, yF, yA, yJ, rfl, G', S.p e2, e, s, ⟨e1.trans tp.1, by rw [hA]; exact tp.2⟩, hJ.trans jw, jk, hc.tried G (hk2 G w hw) KT.rfl'⟩
theorem w_cr {M : Nat} {loc : List (Nat × Value)} {o : (Nat → Nat → Nat) → (Nat → Nat → Int32) → (Nat → Nat → Nat → Int32) → (Nat → Nat → Nat → Int64) → Option Int32} (hs : ∀ {P F A J}, Gc P F A → ok (o P F A J) (fun _ => True)) (hr : ∀ {c B P F A J w}, o P F A J = some w → k_run t c_lg 40 M 0 loc [] (c_h c B P F A J) (some (.int w), c_h c B P F A J)) (W : W4 JW JK H) : kx t 40 M 0 loc [] H (fun z => ∃ v H', z = (some (.int v), H') ∧ W4 JW JK H') := by
  obtain ⟨c, B, P, F, A, J, yF, yA, yJ, rfl, G, W⟩ := W
  obtain ⟨w, hw, -⟩ := hs (J := J) G
  exact ⟨_, hr hw, w, _, rfl, c, B, P, F, A, J, yF, yA, yJ, rfl, G, W⟩
theorem w_c_place (ht : ∀ ci k, t.1 ci k = k_ty ci k) (W : W4 JW JK H) : kx t 40 103 0 [(0, .ref 0)] [] H (fun z => ∃ v H', z = (some (.int v), H') ∧ W4 JW JK H') := w_cr (o := fun P F A J => e_SleepWork_place P F A J) (fun _ => ⟨_, rfl, trivial⟩) (fun h => t_e_SleepWork_place (d := 40) h) W
theorem w_c_task {x1 x2 : Int32} (ht : ∀ ci k, t.1 ci k = k_ty ci k) (W : W4 JW JK H) : kx t 40 104 0 [(0, .ref 0), (1, .int x1), (2, .int x2)] [] H (fun z => ∃ v H', z = (some (.int v), H') ∧ W4 JW JK H') := w_cr (o := fun P F A J => e_SleepWork_task 20000 P F A J x1 x2) (fun G => s_cTask (n := 20000) G (by decide)) (fun h => t_e_SleepWork_task (d := 39) h) W
theorem w_c_step {x1 x2 x3 : Int32} (ht : ∀ ci k, t.1 ci k = k_ty ci k) (W : W4 JW JK H) : kx t 40 105 0 [(0, .ref 0), (1, .int x1), (2, .int x2), (3, .int x3)] [] H (fun z => ∃ v H', z = (some (.int v), H') ∧ W4 JW JK H') := w_cr (o := fun P F A J => e_SleepWork_step P F A J x1 x2 x3) (fun G => s_cStep G) (fun h => t_e_SleepWork_step (d := 39) h) W
theorem w_c_man {x1 x2 : Int32} (ht : ∀ ci k, t.1 ci k = k_ty ci k) (W : W4 JW JK H) : kx t 40 106 0 [(0, .ref 0), (1, .int x1), (2, .int x2)] [] H (fun z => ∃ v H', z = (some (.int v), H') ∧ W4 JW JK H') := w_cr (o := fun P F A J => e_SleepWork_man P F A J x1 x2) (fun G => s_cMan G) (fun h => t_e_SleepWork_man (d := 39) h) W
theorem w_c_tool {x1 : Int32} (ht : ∀ ci k, t.1 ci k = k_ty ci k) (W : W4 JW JK H) : kx t 40 112 0 [(0, .ref 0), (1, .int x1)] [] H (fun z => ∃ v H', z = (some (.int v), H') ∧ W4 JW JK H') := w_cr (o := fun P F A J => e_SleepWork_tool P F A J x1) (fun G => s_cTool G) (fun h => t_e_SleepWork_tool (d := 39) h) W
theorem w_c_way {x1 x2 : Int32} (ht : ∀ ci k, t.1 ci k = k_ty ci k) (W : W4 JW JK H) : kx t 40 113 0 [(0, .ref 0), (1, .int x1), (2, .int x2)] [] H (fun z => ∃ v H', z = (some (.int v), H') ∧ W4 JW JK H') := w_ca (by decide) (by decide) (o := fun P F A J => e_SleepWork_way 20000 P F A J x1 x2) (fun G => h_cWay (n := 20000) G (by decide)) (fun G => (f_s_cWay (n := 20000) G (by decide)).po) (fun h => t_e_SleepWork_way (d := 36) ht h) W
theorem w_c_gain (ht : ∀ ci k, t.1 ci k = k_ty ci k) (W : W4 JW JK H) : kx t 40 121 0 [(0, .ref 0)] [] H (fun z => ∃ v H', z = (some (.int v), H') ∧ W4 JW JK H') := w_ca (by decide) (by decide) (o := fun P F A J => e_SleepWork_gain 20000 P F A J) (fun G => h_cGain (n := 20000) G (by decide)) (fun G => (f_s_cGain (n := 20000) G (by decide)).po) (fun h => t_e_SleepWork_gain (d := 33) ht h) W
theorem w_c_best {x1 x2 : Int32} (ht : ∀ ci k, t.1 ci k = k_ty ci k) (W : W4 JW JK H) : kx t 40 122 0 [(0, .ref 0), (1, .int x1), (2, .int x2)] [] H (fun z => ∃ v H', z = (some (.int v), H') ∧ W4 JW JK H') := w_ca (by decide) (by decide) (o := fun P F A J => e_SleepWork_best 20000 P F A J x1 x2) (fun G => h_cBest (n := 20000) G (by decide)) (fun G => (f_s_cBest (n := 20000) G (by decide)).po) (fun h => t_e_SleepWork_best (d := 33) ht h) W
theorem w_c_bestOfTwo {x1 x2 x3 : Int32} (ht : ∀ ci k, t.1 ci k = k_ty ci k) (W : W4 JW JK H) : kx t 40 123 0 [(0, .ref 0), (1, .int x1), (2, .int x2), (3, .int x3)] [] H (fun z => ∃ v H', z = (some (.int v), H') ∧ W4 JW JK H') := w_ca (by decide) (by decide) (o := fun P F A J => e_SleepWork_bestOfTwo 20000 P F A J x1 x2 x3) (fun G => h_cBestOfTwo (n := 20000) G (by decide)) (fun G => (f_s_cBestOfTwo (n := 20000) G (by decide)).po) (fun h => t_e_SleepWork_bestOfTwo (d := 33) ht h) W
theorem w_c_hire {x1 : Int32} (ht : ∀ ci k, t.1 ci k = k_ty ci k) (W : W4 JW JK H) : kx t 40 125 0 [(0, .ref 0), (1, .int x1)] [] H (fun z => ∃ v H', z = (some (.int v), H') ∧ W4 JW JK H') := w_ca (by decide) (by decide) (o := fun P F A J => e_SleepWork_hire 20000 P F A J x1) (fun G => h_cHire (n := 20000) G (by decide)) (fun G => (f_s_cHire (n := 20000) G (by decide)).po) (fun h => t_e_SleepWork_hire (d := 33) ht h) W
theorem w_c_hide {x1 x2 : Int32} (ht : ∀ ci k, t.1 ci k = k_ty ci k) (W : W4 JW JK H) : kx t 40 126 0 [(0, .ref 0), (1, .int x1), (2, .int x2)] [] H (fun z => ∃ v H', z = (some (.int v), H') ∧ W4 JW JK H') := w_ca (by decide) (by decide) (o := fun P F A J => e_SleepWork_hide 20000 P F A J x1 x2) (fun G => h_cHide (n := 20000) G (by decide)) (fun G => (f_s_cHide (n := 20000) G (by decide)).po) (fun h => t_e_SleepWork_hide (d := 33) ht h) W
theorem w_c_where {x1 x2 : Int32} (ht : ∀ ci k, t.1 ci k = k_ty ci k) (W : W4 JW JK H) : kx t 40 128 0 [(0, .ref 0), (1, .int x1), (2, .int x2)] [] H (fun z => ∃ v H', z = (some (.int v), H') ∧ W4 JW JK H') := w_ca (by decide) (by decide) (o := fun P F A J => e_SleepWork_where 20000 P F A J x1 x2) (fun G => h_cWhere (n := 20000) G (by decide)) (fun G => (f_s_cWhere (n := 20000) G (by decide)).po) (fun h => t_e_SleepWork_where (d := 36) ht h) W
theorem w_c_strokes {x1 x2 : Int32} (ht : ∀ ci k, t.1 ci k = k_ty ci k) (W : W4 JW JK H) : kx t 40 129 0 [(0, .ref 0), (1, .int x1), (2, .int x2)] [] H (fun z => ∃ v H', z = (some (.int v), H') ∧ W4 JW JK H') := w_ca (by decide) (by decide) (o := fun P F A J => e_SleepWork_strokes 20000 P F A J x1 x2) (fun G => h_cStrokes (n := 20000) G (by decide)) (fun G => (f_s_cStrokes (n := 20000) G (by decide)).po) (fun h => t_e_SleepWork_strokes (d := 34) ht h) W
theorem w_c_fits {x1 x2 x3 : Int32} (ht : ∀ ci k, t.1 ci k = k_ty ci k) (W : W4 JW JK H) : kx t 40 132 0 [(0, .ref 0), (1, .int x1), (2, .int x2), (3, .int x3)] [] H (fun z => ∃ v H', z = (some (.int v), H') ∧ W4 JW JK H') := w_ca (by decide) (by decide) (o := fun P F A J => e_SleepWork_fits 20000 P F A J x1 x2 x3) (fun G => h_cFits (n := 20000) G (by decide)) (fun G => (f_s_cFits (n := 20000) G (by decide)).po) (fun h => t_e_SleepWork_fits (d := 34) ht h) W
theorem w_c_suspects {x1 : Int32} (ht : ∀ ci k, t.1 ci k = k_ty ci k) (W : W4 JW JK H) : kx t 40 133 0 [(0, .ref 0), (1, .int x1)] [] H (fun z => ∃ v H', z = (some (.int v), H') ∧ W4 JW JK H') := w_ca (by decide) (by decide) (o := fun P F A J => e_SleepWork_suspects 20000 P F A J x1) (fun G => h_cSuspects (n := 20000) G (by decide)) (fun G => (f_s_cSuspects (n := 20000) G (by decide)).po) (fun h => t_e_SleepWork_suspects (d := 33) ht h) W
theorem w_c_pairs {x1 x2 x3 : Int32} (ht : ∀ ci k, t.1 ci k = k_ty ci k) (W : W4 JW JK H) : kx t 40 134 0 [(0, .ref 0), (1, .int x1), (2, .int x2), (3, .int x3)] [] H (fun z => ∃ v H', z = (some (.int v), H') ∧ W4 JW JK H') := w_ca (by decide) (by decide) (o := fun P F A J => e_SleepWork_pairs 20000 P F A J x1 x2 x3) (fun G => h_cPairs (n := 20000) G (by decide)) (fun G => (f_s_cPairs (n := 20000) G (by decide)).po) (fun h => t_e_SleepWork_pairs (d := 34) ht h) W
theorem w_c_count {x1 : Int32} (ht : ∀ ci k, t.1 ci k = k_ty ci k) (W : W4 JW JK H) : kx t 40 137 0 [(0, .ref 0), (1, .int x1)] [] H (fun z => ∃ v H', z = (some (.int v), H') ∧ W4 JW JK H') := w_cr (o := fun P F A J => e_SleepWork_count 20000 P F A J x1) (fun G => s_cCount (n := 20000) G (by decide)) (fun h => t_e_SleepWork_count (d := 38) h) W
theorem w_c_feed {x1 x2 x3 x4 x5 : Int32} (ht : ∀ ci k, t.1 ci k = k_ty ci k) (W : W4 JW JK H) : kx t 40 99 0 [(0, .ref 0), (1, .int x1), (2, .int x2), (3, .int x3), (4, .int x4), (5, .int x5)] [] H (fun z => ∃ v H', z = (some (.int v), H') ∧ WE JW JK (fun P F A J => e_SleepWork_feed 20000 P F A J x1 x2 x3 x4 x5) v H') := by
  obtain ⟨c, B, P, F, A, J, yF, yA, yJ, rfl, G, S, e, s, tp, jw, jk, hc⟩ := W
  obtain ⟨w, hw, ⟨G', e2⟩, q⟩ := s_cFeed (n := 20000) (J := J) (x1 := x1) (x2 := x2) (x3 := x3) (x4 := x4) (x5 := x5) G (by decide)
  exact ⟨_, t_e_SleepWork_feed (d := 39) ht hw, w.1, _, rfl, c, B, P, F, A, J, yF, yA, yJ, w, hw, rfl, rfl, G', S.p e2, e, s, G, tp, jw, jk, hc⟩
theorem w_c_back {x1 : Int32} (ht : ∀ ci k, t.1 ci k = k_ty ci k) (W : W4 JW JK H) : kx t 40 100 0 [(0, .ref 0), (1, .int x1)] [] H (fun z => ∃ v H', z = (some (.int v), H') ∧ WE JW JK (fun P F A J => e_SleepWork_back P F A J x1) v H') := by
  obtain ⟨c, B, P, F, A, J, yF, yA, yJ, rfl, G, S, e, s, tp, jw, jk, hc⟩ := W
  obtain ⟨w, hw, ⟨G', e2⟩, q⟩ := s_cBack (J := J) (x1 := x1) G
  exact ⟨_, t_e_SleepWork_back (d := 40) ht hw, w.1, _, rfl, c, B, P, F, A, J, yF, yA, yJ, w, hw, rfl, rfl, G', S.p e2, e, s, G, tp, jw, jk, hc⟩
theorem w_c_read (ht : ∀ ci k, t.1 ci k = k_ty ci k) (W : W4 JW JK H) : kx t 40 101 0 [(0, .ref 0)] [] H (fun z => ∃ v H', z = (some (.int v), H') ∧ WE JW JK (fun P F A J => e_SleepWork_read 20000 P F A J) v H') := by
  obtain ⟨c, B, P, F, A, J, yF, yA, yJ, rfl, G, S, e, s, tp, jw, jk, hc⟩ := W
  obtain ⟨w, hw, ⟨G', e2⟩, q⟩ := s_cRead (n := 20000) (J := J) G (by decide)
  exact ⟨_, t_e_SleepWork_read (d := 16) ht hw, w.1, _, rfl, c, B, P, F, A, J, yF, yA, yJ, w, hw, rfl, rfl, G', S.p e2, e, s, G, tp, jw, jk, hc⟩
theorem w_c_bars {x1 : Int32} (ht : ∀ ci k, t.1 ci k = k_ty ci k) (W : W4 JW JK H) : kx t 40 127 0 [(0, .ref 0), (1, .int x1)] [] H (fun z => ∃ v H', z = (some (.int v), H') ∧ W4 JW JK H') := by
  obtain ⟨c, B, P, F, A, J, yF, yA, yJ, rfl, G, S, e, s, tp, jw, jk, hc⟩ := W
  obtain ⟨z, hz, v, c', B', P', F', A', J', rfl, G', S', f, q, hJ, hk, hs⟩ := s_cBars (d := 33) (x1 := x1) (J := J) ht G S jw
  have hA := tk_A (k_bytes (by decide) hz)
  exact ⟨_, hz, v, _, rfl, c', B', P', F', A', J', yF, yA, yJ, rfl, G', S', (q 40 (by decide)).trans e, s, ⟨f.trans tp.1, by rw [hA]; exact tp.2⟩, hJ, jk, hc.bars G hk hs⟩
theorem w_c_leaveE {x1 x2 x3 : Int32} (ht : ∀ ci k, t.1 ci k = k_ty ci k) (W : W4 JW JK H) : kx t 40 114 0 [(0, .ref 0), (1, .int x1), (2, .int x2), (3, .int x3)] [] H (fun z => ∃ v H', z = (some (.int v), H') ∧ WE JW JK (fun P F A J => e_SleepWork_leave P F A J x1 x2 x3) v H') := by
  obtain ⟨c, B, P, F, A, J, yF, yA, yJ, rfl, G, S, e, s, tp, jw, jk, hc⟩ := W
  obtain ⟨w, hw, G', e', hk⟩ := h_cLeave (J := J) (x1 := x1) (x2 := x2) (x3 := x3) G
  obtain ⟨e1, e2⟩ := Prod.mk.inj e'
  exact ⟨_, t_e_SleepWork_leave (d := 39) ht hw, w.1, _, rfl, c, B, P, F, A, J, yF, yA, yJ, w, hw, rfl, rfl, G', S.p e2, e, s, G, tp, jw, jk, hc⟩
theorem w_c_layE {x1 x2 : Int32} (ht : ∀ ci k, t.1 ci k = k_ty ci k) (W : W4 JW JK H) : kx t 40 116 0 [(0, .ref 0), (1, .int x1), (2, .int x2)] [] H (fun z => ∃ v H', z = (some (.int v), H') ∧ WE JW JK (fun P F A J => e_SleepWork_lay P F A J x1 x2) v H') := by
  obtain ⟨c, B, P, F, A, J, yF, yA, yJ, rfl, G, S, e, s, tp, jw, jk, hc⟩ := W
  obtain ⟨w, hw, G', e', hk⟩ := h_cLay (J := J) (x1 := x1) (x2 := x2) G
  obtain ⟨e1, e2⟩ := Prod.mk.inj e'
  exact ⟨_, t_e_SleepWork_lay (d := 39) ht hw, w.1, _, rfl, c, B, P, F, A, J, yF, yA, yJ, w, hw, rfl, rfl, G', S.p e2, e, s, G, tp, jw, jk, hc⟩
theorem w_c_giveE {x1 x2 : Int32} (ht : ∀ ci k, t.1 ci k = k_ty ci k) (W : W4 JW JK H) : kx t 40 117 0 [(0, .ref 0), (1, .int x1), (2, .int x2)] [] H (fun z => ∃ v H', z = (some (.int v), H') ∧ WE JW JK (fun P F A J => e_SleepWork_give P F A J x1 x2) v H') := by
  obtain ⟨c, B, P, F, A, J, yF, yA, yJ, rfl, G, S, e, s, tp, jw, jk, hc⟩ := W
  obtain ⟨w, hw, G', e', hk⟩ := h_cGive (J := J) (x1 := x1) (x2 := x2) G
  obtain ⟨e1, e2⟩ := Prod.mk.inj e'
  exact ⟨_, t_e_SleepWork_give (d := 39) ht hw, w.1, _, rfl, c, B, P, F, A, J, yF, yA, yJ, w, hw, rfl, rfl, G', S.p e2, e, s, G, tp, jw, jk, hc⟩
theorem w_c_barE {x1 x2 : Int32} (ht : ∀ ci k, t.1 ci k = k_ty ci k) (W : W4 JW JK H) : kx t 40 118 0 [(0, .ref 0), (1, .int x1), (2, .int x2)] [] H (fun z => ∃ v H', z = (some (.int v), H') ∧ WE JW JK (fun P F A J => e_SleepWork_bar P F A J x1 x2) v H') := by
  obtain ⟨c, B, P, F, A, J, yF, yA, yJ, rfl, G, S, e, s, tp, jw, jk, hc⟩ := W
  obtain ⟨w, hw, G', e', hk⟩ := h_cBar (J := J) (x1 := x1) (x2 := x2) G
  obtain ⟨e1, e2⟩ := Prod.mk.inj e'
  exact ⟨_, t_e_SleepWork_bar (d := 39) ht hw, w.1, _, rfl, c, B, P, F, A, J, yF, yA, yJ, w, hw, rfl, rfl, G', S.p e2, e, s, G, tp, jw, jk, hc⟩
theorem w_c_nightE (ht : ∀ ci k, t.1 ci k = k_ty ci k) (W : W4 JW JK H) : kx t 40 119 0 [(0, .ref 0)] [] H (fun z => ∃ v H', z = (some (.int v), H') ∧ WE JW JK (fun P F A J => e_SleepWork_night 20000 P F A J) v H') := by
  obtain ⟨c, B, P, F, A, J, yF, yA, yJ, rfl, G, S, e, s, tp, jw, jk, hc⟩ := W
  obtain ⟨w, hw, G', e', hk⟩ := h_cNight (n := 20000) (J := J) G (by decide)
  obtain ⟨e1, e2⟩ := Prod.mk.inj e'
  exact ⟨_, t_e_SleepWork_night (d := 34) ht hw, w.1, _, rfl, c, B, P, F, A, J, yF, yA, yJ, w, hw, rfl, rfl, G', S.p e2, e, s, G, tp, jw, jk, hc⟩
theorem w_c_undoE (ht : ∀ ci k, t.1 ci k = k_ty ci k) (W : W4 JW JK H) : kx t 40 120 0 [(0, .ref 0)] [] H (fun z => ∃ v H', z = (some (.int v), H') ∧ WE JW JK (fun P F A J => e_SleepWork_undo P F A J) v H') := by
  obtain ⟨c, B, P, F, A, J, yF, yA, yJ, rfl, G, S, e, s, tp, jw, jk, hc⟩ := W
  obtain ⟨w, hw, G', e', hk⟩ := h_cUndo (J := J) G
  obtain ⟨e1, e2⟩ := Prod.mk.inj e'
  exact ⟨_, t_e_SleepWork_undo (d := 38) ht hw, w.1, _, rfl, c, B, P, F, A, J, yF, yA, yJ, w, hw, rfl, rfl, G', S.p e2, e, s, G, tp, jw, jk, hc⟩
theorem w_c_tellE {x1 x2 x3 : Int32} (ht : ∀ ci k, t.1 ci k = k_ty ci k) (W : W4 JW JK H) : kx t 40 130 0 [(0, .ref 0), (1, .int x1), (2, .int x2), (3, .int x3)] [] H (fun z => ∃ v H', z = (some (.int v), H') ∧ WE JW JK (fun P F A J => e_SleepWork_tell P F A J x1 x2 x3) v H') := by
  obtain ⟨c, B, P, F, A, J, yF, yA, yJ, rfl, G, S, e, s, tp, jw, jk, hc⟩ := W
  obtain ⟨w, hw, G', e', hk⟩ := h_cTell (J := J) (x1 := x1) (x2 := x2) (x3 := x3) G
  obtain ⟨e1, e2⟩ := Prod.mk.inj e'
  exact ⟨_, t_e_SleepWork_tell (d := 39) ht hw, w.1, _, rfl, c, B, P, F, A, J, yF, yA, yJ, w, hw, rfl, rfl, G', S.p e2, e, s, G, tp, jw, jk, hc⟩
theorem w_c_forgetE (ht : ∀ ci k, t.1 ci k = k_ty ci k) (W : W4 JW JK H) : kx t 40 131 0 [(0, .ref 0)] [] H (fun z => ∃ v H', z = (some (.int v), H') ∧ WE JW JK (fun P F A J => e_SleepWork_forget P F A J) v H') := by
  obtain ⟨c, B, P, F, A, J, yF, yA, yJ, rfl, G, S, e, s, tp, jw, jk, hc⟩ := W
  obtain ⟨w, hw, G', e', hk⟩ := h_cForget (J := J) G
  obtain ⟨e1, e2⟩ := Prod.mk.inj e'
  exact ⟨_, t_e_SleepWork_forget (d := 39) ht hw, w.1, _, rfl, c, B, P, F, A, J, yF, yA, yJ, w, hw, rfl, rfl, G', S.p e2, e, s, G, tp, jw, jk, hc⟩
theorem w_c_holdE {x1 : Int32} (ht : ∀ ci k, t.1 ci k = k_ty ci k) (W : W4 JW JK H) : kx t 40 135 0 [(0, .ref 0), (1, .int x1)] [] H (fun z => ∃ v H', z = (some (.int v), H') ∧ WE JW JK (fun P F A J => e_SleepWork_hold P F A J x1) v H') := by
  obtain ⟨c, B, P, F, A, J, yF, yA, yJ, rfl, G, S, e, s, tp, jw, jk, hc⟩ := W
  obtain ⟨w, hw, G', e', hk⟩ := h_cHold (J := J) (x1 := x1) G
  obtain ⟨e1, e2⟩ := Prod.mk.inj e'
  exact ⟨_, t_e_SleepWork_hold (d := 39) ht hw, w.1, _, rfl, c, B, P, F, A, J, yF, yA, yJ, w, hw, rfl, rfl, G', S.p e2, e, s, G, tp, jw, jk, hc⟩
theorem w_c_restoreE {x1 : Int32} (ht : ∀ ci k, t.1 ci k = k_ty ci k) (W : W4 JW JK H) : kx t 40 136 0 [(0, .ref 0), (1, .int x1)] [] H (fun z => ∃ v H', z = (some (.int v), H') ∧ WE JW JK (fun P F A J => e_SleepWork_restore P F A J x1) v H') := by
  obtain ⟨c, B, P, F, A, J, yF, yA, yJ, rfl, G, S, e, s, tp, jw, jk, hc⟩ := W
  obtain ⟨w, hw, G', e', hk⟩ := h_cRestore (J := J) (x1 := x1) G
  obtain ⟨e1, e2⟩ := Prod.mk.inj e'
  exact ⟨_, t_e_SleepWork_restore (d := 39) ht hw, w.1, _, rfl, c, B, P, F, A, J, yF, yA, yJ, w, hw, rfl, rfl, G', S.p e2, e, s, G, tp, jw, jk, hc⟩
theorem w_c_workE {x1 x2 : Int32} (ht : ∀ ci k, t.1 ci k = k_ty ci k) (W : W4 JW JK H) : kx t 40 115 0 [(0, .ref 0), (1, .int x1), (2, .int x2)] [] H (fun z => ∃ v H', z = (some (.int v), H') ∧ WE JW JK (fun P F A J => e_SleepWork_work P F A J x1 x2) v H') := by
  obtain ⟨c, B, P, F, A, J, yF, yA, yJ, rfl, G, S, e, s, tp, jw, jk, hc⟩ := W
  obtain ⟨w, hw, G', e', hk⟩ := h_cWork (J := J) (x1 := x1) (x2 := x2) G
  obtain ⟨e1, e2⟩ := Prod.mk.inj e'
  exact ⟨_, t_e_SleepWork_work (d := 39) ht hw, w.1, _, rfl, c, B, P, F, A, J, yF, yA, yJ, w, hw, rfl, rfl, G', S.p e2, e, s, G, tp, jw, jk, hc⟩
theorem w_c_taskE {x1 x2 : Int32} (ht : ∀ ci k, t.1 ci k = k_ty ci k) (W : W4 JW JK H) : kx t 40 104 0 [(0, .ref 0), (1, .int x1), (2, .int x2)] [] H (fun z => ∃ v H', z = (some (.int v), H') ∧ WE JW JK (fun P F A J => (e_SleepWork_task 20000 P F A J x1 x2).bind fun v => some (v, P, F, A, J)) v H') := by
  obtain ⟨c, B, P, F, A, J, yF, yA, yJ, rfl, G, S, e, s, tp, jw, jk, hc⟩ := W
  obtain ⟨w, hw, -⟩ := s_cTask (n := 20000) (J := J) (x1 := x1) (x2 := x2) G (by decide)
  exact ⟨_, t_e_SleepWork_task (d := 39) hw, w, _, rfl, c, B, P, F, A, J, yF, yA, yJ, (w, P, F, A, J), by show Option.bind _ _ = _; rw [hw]; rfl, rfl, rfl, G, S, e, s, G, tp, jw, jk, hc⟩
theorem w_c_manE {x1 x2 : Int32} (ht : ∀ ci k, t.1 ci k = k_ty ci k) (W : W4 JW JK H) : kx t 40 106 0 [(0, .ref 0), (1, .int x1), (2, .int x2)] [] H (fun z => ∃ v H', z = (some (.int v), H') ∧ WE JW JK (fun P F A J => (e_SleepWork_man P F A J x1 x2).bind fun v => some (v, P, F, A, J)) v H') := by
  obtain ⟨c, B, P, F, A, J, yF, yA, yJ, rfl, G, S, e, s, tp, jw, jk, hc⟩ := W
  obtain ⟨w, hw, -⟩ := s_cMan (J := J) (x1 := x1) (x2 := x2) G
  exact ⟨_, t_e_SleepWork_man (d := 39) hw, w, _, rfl, c, B, P, F, A, J, yF, yA, yJ, (w, P, F, A, J), by show Option.bind _ _ = _; rw [hw]; rfl, rfl, rfl, G, S, e, s, G, tp, jw, jk, hc⟩
theorem w_c_toolE {x1 : Int32} (ht : ∀ ci k, t.1 ci k = k_ty ci k) (W : W4 JW JK H) : kx t 40 112 0 [(0, .ref 0), (1, .int x1)] [] H (fun z => ∃ v H', z = (some (.int v), H') ∧ WE JW JK (fun P F A J => (e_SleepWork_tool P F A J x1).bind fun v => some (v, P, F, A, J)) v H') := by
  obtain ⟨c, B, P, F, A, J, yF, yA, yJ, rfl, G, S, e, s, tp, jw, jk, hc⟩ := W
  obtain ⟨w, hw, -⟩ := s_cTool (J := J) (x1 := x1) G
  exact ⟨_, t_e_SleepWork_tool (d := 39) hw, w, _, rfl, c, B, P, F, A, J, yF, yA, yJ, (w, P, F, A, J), by show Option.bind _ _ = _; rw [hw]; rfl, rfl, rfl, G, S, e, s, G, tp, jw, jk, hc⟩
theorem w_c_stepE {x1 x2 x3 : Int32} (ht : ∀ ci k, t.1 ci k = k_ty ci k) (W : W4 JW JK H) : kx t 40 105 0 [(0, .ref 0), (1, .int x1), (2, .int x2), (3, .int x3)] [] H (fun z => ∃ v H', z = (some (.int v), H') ∧ WE JW JK (fun P F A J => (e_SleepWork_step P F A J x1 x2 x3).bind fun v => some (v, P, F, A, J)) v H') := by
  obtain ⟨c, B, P, F, A, J, yF, yA, yJ, rfl, G, S, e, s, tp, jw, jk, hc⟩ := W
  obtain ⟨w, hw, -⟩ := s_cStep (J := J) (x1 := x1) (x2 := x2) (x3 := x3) G
  exact ⟨_, t_e_SleepWork_step (d := 39) hw, w, _, rfl, c, B, P, F, A, J, yF, yA, yJ, (w, P, F, A, J), by show Option.bind _ _ = _; rw [hw]; rfl, rfl, rfl, G, S, e, s, G, tp, jw, jk, hc⟩
theorem w_c_countE {x1 : Int32} (ht : ∀ ci k, t.1 ci k = k_ty ci k) (W : W4 JW JK H) : kx t 40 137 0 [(0, .ref 0), (1, .int x1)] [] H (fun z => ∃ v H', z = (some (.int v), H') ∧ WE JW JK (fun P F A J => (e_SleepWork_count 20000 P F A J x1).bind fun v => some (v, P, F, A, J)) v H') := by
  obtain ⟨c, B, P, F, A, J, yF, yA, yJ, rfl, G, S, e, s, tp, jw, jk, hc⟩ := W
  obtain ⟨w, hw, -⟩ := s_cCount (n := 20000) (J := J) (x1 := x1) G (by decide)
  exact ⟨_, t_e_SleepWork_count (d := 38) hw, w, _, rfl, c, B, P, F, A, J, yF, yA, yJ, (w, P, F, A, J), by show Option.bind _ _ = _; rw [hw]; rfl, rfl, rfl, G, S, e, s, G, tp, jw, jk, hc⟩
theorem w_c_wayE {x1 x2 : Int32} (ht : ∀ ci k, t.1 ci k = k_ty ci k) (W : W4 JW JK H) : kx t 40 113 0 [(0, .ref 0), (1, .int x1), (2, .int x2)] [] H (fun z => ∃ v H', z = (some (.int v), H') ∧ WE JW JK (fun P F A J => e_SleepWork_way 20000 P F A J x1 x2) v H') := by
  obtain ⟨c, B, P, F, A, J, yF, yA, yJ, rfl, G, S, e, s, tp, jw, jk, hc⟩ := W
  obtain ⟨w, hw, G', e', hk⟩ := h_cWay (n := 20000) (J := J) (x1 := x1) (x2 := x2) G (by decide)
  obtain ⟨e1, e2⟩ := Prod.mk.inj e'
  exact ⟨_, t_e_SleepWork_way (d := 36) ht hw, w.1, _, rfl, c, B, P, F, A, J, yF, yA, yJ, w, hw, rfl, rfl, G', S.p e2, e, s, G, tp, jw, jk, hc⟩
theorem w_c_whereE {x1 x2 : Int32} (ht : ∀ ci k, t.1 ci k = k_ty ci k) (W : W4 JW JK H) : kx t 40 128 0 [(0, .ref 0), (1, .int x1), (2, .int x2)] [] H (fun z => ∃ v H', z = (some (.int v), H') ∧ WE JW JK (fun P F A J => e_SleepWork_where 20000 P F A J x1 x2) v H') := by
  obtain ⟨c, B, P, F, A, J, yF, yA, yJ, rfl, G, S, e, s, tp, jw, jk, hc⟩ := W
  obtain ⟨w, hw, G', e', hk⟩ := h_cWhere (n := 20000) (J := J) (x1 := x1) (x2 := x2) G (by decide)
  obtain ⟨e1, e2⟩ := Prod.mk.inj e'
  exact ⟨_, t_e_SleepWork_where (d := 36) ht hw, w.1, _, rfl, c, B, P, F, A, J, yF, yA, yJ, w, hw, rfl, rfl, G', S.p e2, e, s, G, tp, jw, jk, hc⟩
theorem w_c_strokesE {x1 x2 : Int32} (ht : ∀ ci k, t.1 ci k = k_ty ci k) (W : W4 JW JK H) : kx t 40 129 0 [(0, .ref 0), (1, .int x1), (2, .int x2)] [] H (fun z => ∃ v H', z = (some (.int v), H') ∧ WE JW JK (fun P F A J => e_SleepWork_strokes 20000 P F A J x1 x2) v H') := by
  obtain ⟨c, B, P, F, A, J, yF, yA, yJ, rfl, G, S, e, s, tp, jw, jk, hc⟩ := W
  obtain ⟨w, hw, G', e', hk⟩ := h_cStrokes (n := 20000) (J := J) (x1 := x1) (x2 := x2) G (by decide)
  obtain ⟨e1, e2⟩ := Prod.mk.inj e'
  exact ⟨_, t_e_SleepWork_strokes (d := 34) ht hw, w.1, _, rfl, c, B, P, F, A, J, yF, yA, yJ, w, hw, rfl, rfl, G', S.p e2, e, s, G, tp, jw, jk, hc⟩
theorem w_c_gainE (ht : ∀ ci k, t.1 ci k = k_ty ci k) (W : W4 JW JK H) : kx t 40 121 0 [(0, .ref 0)] [] H (fun z => ∃ v H', z = (some (.int v), H') ∧ WE JW JK (fun P F A J => e_SleepWork_gain 20000 P F A J) v H') := by
  obtain ⟨c, B, P, F, A, J, yF, yA, yJ, rfl, G, S, e, s, tp, jw, jk, hc⟩ := W
  obtain ⟨w, hw, G', e', hk⟩ := h_cGain (n := 20000) (J := J) G (by decide)
  obtain ⟨e1, e2⟩ := Prod.mk.inj e'
  exact ⟨_, t_e_SleepWork_gain (d := 33) ht hw, w.1, _, rfl, c, B, P, F, A, J, yF, yA, yJ, w, hw, rfl, rfl, G', S.p e2, e, s, G, tp, jw, jk, hc⟩
theorem w_c_suspectsE {x1 : Int32} (ht : ∀ ci k, t.1 ci k = k_ty ci k) (W : W4 JW JK H) : kx t 40 133 0 [(0, .ref 0), (1, .int x1)] [] H (fun z => ∃ v H', z = (some (.int v), H') ∧ WE JW JK (fun P F A J => e_SleepWork_suspects 20000 P F A J x1) v H') := by
  obtain ⟨c, B, P, F, A, J, yF, yA, yJ, rfl, G, S, e, s, tp, jw, jk, hc⟩ := W
  obtain ⟨w, hw, G', e', hk⟩ := h_cSuspects (n := 20000) (J := J) (x1 := x1) G (by decide)
  obtain ⟨e1, e2⟩ := Prod.mk.inj e'
  exact ⟨_, t_e_SleepWork_suspects (d := 33) ht hw, w.1, _, rfl, c, B, P, F, A, J, yF, yA, yJ, w, hw, rfl, rfl, G', S.p e2, e, s, G, tp, jw, jk, hc⟩
theorem w_c_pairsE {x1 x2 x3 : Int32} (ht : ∀ ci k, t.1 ci k = k_ty ci k) (W : W4 JW JK H) : kx t 40 134 0 [(0, .ref 0), (1, .int x1), (2, .int x2), (3, .int x3)] [] H (fun z => ∃ v H', z = (some (.int v), H') ∧ WE JW JK (fun P F A J => e_SleepWork_pairs 20000 P F A J x1 x2 x3) v H') := by
  obtain ⟨c, B, P, F, A, J, yF, yA, yJ, rfl, G, S, e, s, tp, jw, jk, hc⟩ := W
  obtain ⟨w, hw, G', e', hk⟩ := h_cPairs (n := 20000) (J := J) (x1 := x1) (x2 := x2) (x3 := x3) G (by decide)
  obtain ⟨e1, e2⟩ := Prod.mk.inj e'
  exact ⟨_, t_e_SleepWork_pairs (d := 34) ht hw, w.1, _, rfl, c, B, P, F, A, J, yF, yA, yJ, w, hw, rfl, rfl, G', S.p e2, e, s, G, tp, jw, jk, hc⟩
end S9j
end Qz177
section Qz178
/-! every call of the reference, over what holds between calls (printed by wip/wcalls.py) -/
section S9k
variable {t : gT} {JW JK : Nat → Int64} {H : gH} {F F' : Nat → Int32} {A A' : Nat → Nat → Int32}
theorem SAm.fr (S : SAm F A) (hF : IFm F') (hA : IAm A') (e18 : F' 18 = F 18) (o : ∀ q, 8 ≤ q → q ≤ 44 → A' q = A q) (r : RVm F' A' 47 (ai A 29 (F 18).toInt)) (hi : HIm F' A' (ai A 29 (F 18).toInt)) (he : HEm F' A' (ai A 29 (F 18).toInt)) : SAm F' A' := by
  refine ⟨hF, hA, S.2.2.1.fr e18 (fun q h0 h => o q h0 (by omega)), ?_, ?_, ?_, ?_⟩
  · have g := S.2.2.2.1
    unfold LGm at g ⊢
    rw [e18, ai_fr (o 29 (by decide) (by decide)), ai_fr (o 34 (by decide) (by decide)), ai_fr (o 35 (by decide) (by decide)), ai_fr (o 36 (by decide) (by decide)), ai_fr (o 37 (by decide) (by decide)), ai_fr (o 39 (by decide) (by decide)), ai_fr (o 40 (by decide) (by decide))]
    exact g
  · rw [e18, ai_fr (o 29 (by decide) (by decide))]; exact r
  · rw [e18, ai_fr (o 29 (by decide) (by decide))]; exact hi
  · rw [e18, ai_fr (o 29 (by decide) (by decide))]; exact he
theorem SAm.k0 (S : SAm F A) : ai A 29 (F 18).toInt ≤ 6 ∧ 0 ≤ ai A 29 (F 18).toInt := by
  have r18 : 0 ≤ (F 18).toInt ∧ (F 18).toInt ≤ 1 := S.1 18
  have : 0 ≤ ai A 29 (F 18).toInt ∧ ai A 29 (F 18).toInt ≤ 6 := S.2.1 29 _ r18.1
  exact ⟨this.2, this.1⟩
theorem SAm.of {Lf La : List Nat} (S : SAm F A) (hF : IFm F') (hA : IAm A') (fF : ∀ q, q ∉ Lf → F' q = F q) (fA : ∀ q, q ∉ La → A' q = A q) (cF : (Lf.contains 18 || Lf.contains 2) = false) (cA : (List.range 45).all (fun q => decide (q < 8) || !La.contains q) = true) (r : RVm F' A' 47 (ai A 29 (F 18).toInt)) (hi : HIm F' A' (ai A 29 (F 18).toInt)) (he : HEm F' A' (ai A 29 (F 18).toInt)) : SAm F' A' ∧ F' 2 = F 2 ∧ MF F F' A A' := by
  simp only [Bool.or_eq_false_iff, List.contains_eq_mem, decide_eq_false_iff_not] at cF
  have o : ∀ q, 8 ≤ q → q ≤ 44 → A' q = A q := fun q h8 hq => fA q (by
    have := List.all_eq_true.mp cA q (List.mem_range.mpr (by omega))
    simp only [Bool.or_eq_true, decide_eq_true_eq, Bool.not_eq_true', List.contains_eq_mem, decide_eq_false_iff_not] at this
    exact this.resolve_left (by omega))
  exact ⟨S.fr hF hA (fF 18 cF.1) o r hi he, fF 2 cF.2, fF 18 cF.1, o⟩
theorem SAm.rv (S : SAm F A) (e18 : F' 18 = F 18) (h19 : A' 19 = A 19) (h22 : A' 22 = A 22) (h47 : A' 47 = A 47) : RVm F' A' 47 (ai A 29 (F 18).toInt) := S.2.2.2.2.1.cg e18 h19 h22 (fun m _ _ => by rw [ai_fr h47]; exact ⟨rfl, rfl⟩)
theorem SAm.tp (S : SAm F A) (hF : IFm F') (hA : IAm A') (f : ∀ q, q ≠ 2 → F' q = F q) (g : ∀ q, q ≠ 1 → A' q = A q) : SAm F' A' :=
  S.fr hF hA (f 18 (by decide)) (fun q h8 _ => g q (by omega)) (S.rv (f 18 (by decide)) (g 19 (by decide)) (g 22 (by decide)) (g 47 (by decide))) (S.2.2.2.2.2.1.fr (f 18 (by decide)) (f 74 (by decide)) (g 19 (by decide)) (g 22 (by decide)) (g 57 (by decide))) (S.2.2.2.2.2.2.fr (f 18 (by decide)) (g 19 (by decide)) (g 22 (by decide)) (g 61 (by decide)) (g 62 (by decide)))
theorem m_of_c {c : Nat × Nat} {B : Nat → List gE} {P : Nat → Nat → Nat} {F : Nat → Nat → Int32} {A : Nat → Nat → Nat → Int32} {J : Nat → Nat → Nat → Int64} {yF yA yJ} (e : B 40 = m_cells yF yA yJ) : c_h c B P F A J = m_h c (c_f B P F A J) yF yA yJ := by
  refine Prod.ext rfl ?_
  funext q
  show c_f B P F A J q = va_up (c_f B P F A J) 40 (m_cells yF yA yJ) q
  by_cases hq : q = 40
  · subst hq
    rw [c_up_same]
    exact e
  · rw [c_up_ne hq]
theorem c_of_m {c : Nat × Nat} {B : Nat → List gE} {P : Nat → Nat → Nat} {F : Nat → Nat → Int32} {A : Nat → Nat → Nat → Int32} {J : Nat → Nat → Nat → Int64} {yF yA yJ} : m_h c (c_f B P F A J) yF yA yJ = c_h c (va_up B 40 (m_cells yF yA yJ)) P F A J := by
  refine Prod.ext rfl ?_
  funext q
  show va_up (c_f B P F A J) 40 (m_cells yF yA yJ) q = c_f (va_up B 40 (m_cells yF yA yJ)) P F A J q
  by_cases hq : q = 40
  · subst hq
    rw [c_up_same]
    show m_cells yF yA yJ = va_up B 40 (m_cells yF yA yJ) 40
    rw [c_up_same]
  · rw [c_up_ne hq]
    unfold c_f
    rw [c_up_ne hq]
theorem SEc.up {c : Nat × Nat} {B : Nat → List gE} {P : Nat → Nat → Nat} {l : List gE} (S : SEc c B P) : SEc c (va_up B 40 l) P := by
  have e : va_up B 40 l 39 = B 39 := c_up_ne (by decide)
  unfold SEc SEb at S ⊢
  rw [e]
  exact S
theorem tk_Jm {c c' : Nat × Nat} {B B' : Nat → List gE} {F F' : Nat → Int32} {A A' : Nat → Nat → Int32} {J J' : Nat → Nat → Int64} (h : tkp 3 (m_h c B F A J) (m_h c' B' F' A' J')) : J' 7 = J 7 := by
  have g : ∀ {c : Nat × Nat} {B : Nat → List gE} {F : Nat → Int32} {A : Nat → Nat → Int32} {J : Nat → Nat → Int64}, g_get (m_h c B F A J) (40 * 1024 + 7) = some (.inl (3, 21, .inr (.inl (J 7)))) := fun {c B F A J} => rfl
  have e := (h _ _ g).symm.trans g
  injection e with e
  injection e with e
  injection e with e1 e
  injection e with e2 e
  injection e with e
  injection e with e
  exact e.symm
theorem w_dk {M : Nat} {loc : List (Nat × Value)} (hL : k_sL.contains M = true) (W : W4 JW JK H) (hs : ∀ {F A J}, SAm F A → ∃ v F' A' J', (∀ {c B}, k_run t c_lg 40 M 0 loc [] (m_h c B F A J) (some (.int v), m_h c B F' A' J')) ∧ SAm F' A' ∧ F' 2 = F 2 ∧ A' 1 = A 1 ∧ KT F A F' A') : kx t 40 M 0 loc [] H (fun z => ∃ v H', z = (some (.int v), H') ∧ W4 JW JK H') := by
  obtain ⟨c, B, P, F, A, J, yF, yA, yJ, rfl, G, S, e, s, tp, jw, jk, hc⟩ := W
  obtain ⟨v, F', A', J', hr, s', q2, q1, km⟩ := hs (J := yJ) s
  have rr := hr (c := c) (B := c_f B P F A J)
  have hJ := tk_Jm (k_longs hL rr)
  rw [m_of_c e]
  exact ⟨_, rr, v, _, rfl, c, va_up B 40 (m_cells F' A' J'), P, F, A, J, F', A', J', c_of_m, G, S.up, c_up_same _ _ _, s', ⟨tp.1.trans q2.symm, by rw [q2, q1]; exact tp.2⟩, jw, hJ.trans jk, hc.tried G (QFc.rfl' G.1) km⟩
theorem w_dE {M : Nat} {loc : List (Nat × Value)} {o : (Nat → Nat → Nat) → (Nat → Nat → Int32) → (Nat → Nat → Nat → Int32) → (Nat → Nat → Nat → Int64) → Option (cR Int32)} {v1 : Int32} {R : Int32 → Int32 → Prop} (W : WE JW JK o v1 H) (hs : ∀ {P F A J Fm Am Jm w}, o P F A J = some w → Gc P F A → SAm Fm Am → TPx F A Fm Am → J 37 6 = JW → Jm 7 = JK → Gc w.2.1 w.2.2.1 w.2.2.2.1 → XR P F A Fm Am → ∃ v F' A' J', (∀ {c B}, k_run t c_lg 40 M 0 loc [] (m_h c B Fm Am Jm) (some (.int v), m_h c B F' A' J')) ∧ SAm F' A' ∧ TPx w.2.2.1 w.2.2.2.1 F' A' ∧ w.2.2.2.2 37 6 = JW ∧ J' 7 = JK ∧ XR w.2.1 w.2.2.1 w.2.2.2.1 F' A' ∧ R w.1 v) : kx t 40 M 0 loc [] H (fun z => ∃ v H', z = (some (.int v), H') ∧ W4 JW JK H' ∧ R v1 v) := by
  obtain ⟨c, B, P, F, A, J, yF, yA, yJ, w, ho, rfl, rfl, G', S, e, s, G, tp, jw, jk, hc⟩ := W
  obtain ⟨v, F', A', J', hr, s', tp', jw', jk', hc', r⟩ := hs ho G s tp jw jk G' hc
  have rr := hr (c := c) (B := c_f B w.2.1 w.2.2.1 w.2.2.2.1 w.2.2.2.2)
  rw [m_of_c e]
  exact ⟨_, rr, v, _, rfl, ⟨c, va_up B 40 (m_cells F' A' J'), w.2.1, w.2.2.1, w.2.2.2.1, w.2.2.2.2, F', A', J', c_of_m, G', S.up, c_up_same _ _ _, s', tp', jw', jk', hc'⟩, r⟩
theorem w_d_feed {x1 x2 x3 x4 x5 : Int32} (ht : ∀ ci k, t.1 ci k = k_ty ci k) {v1 : Int32} (W : WE JW JK (fun P F A J => e_SleepWork_feed 20000 P F A J x1 x2 x3 x4 x5) v1 H) : kx t 40 139 0 [(0, .ref 40960), (1, .int x1), (2, .int x2), (3, .int x3), (4, .int x4), (5, .int x5)] [] H (fun z => ∃ v H', z = (some (.int v), H') ∧ W4 JW JK H' ∧ True) := w_dE (R := fun _ _ => True) W (fun {P F A J Fm Am Jm w} ho G S tp jw jk G' hc => by
  obtain ⟨⟨v, F', A', J'⟩, hw, h1, h2, h3, h4, h5⟩ := s_d_feed (n := 20000) (J := Jm) (x1 := x1) (x2 := x2) (x3 := x3) (x4 := x4) (x5 := x5) S.1 S.2.1 (by decide)
  dsimp only at h1 h2 h3 h4 h5
  have f := fun q (hq : q ≠ 2) => h3 q (by simpa using hq)
  have g := fun q (hq : q ≠ 1) => h4 q (by simpa using hq)
  obtain ⟨t1, j1, j2⟩ := p2_feed tp _ _ ho hw
  exact ⟨v, F', A', J', t_d_feed (fun k => ht 12 k) (d := 39) hw, S.tp h1 h2 f g, t1, by rw [j1]; exact jw, by rw [show J' = Jm from j2]; exact jk, hc.tape G (tg_e_SleepWork_feed TGx.rfl' _ ho) f g, trivial⟩)
theorem w_d_back {x1 : Int32} (ht : ∀ ci k, t.1 ci k = k_ty ci k) {v1 : Int32} (W : WE JW JK (fun P F A J => e_SleepWork_back P F A J x1) v1 H) : kx t 40 141 0 [(0, .ref 40960), (1, .int x1)] [] H (fun z => ∃ v H', z = (some (.int v), H') ∧ W4 JW JK H' ∧ True) := w_dE (R := fun _ _ => True) W (fun {P F A J Fm Am Jm w} ho G S tp jw jk G' hc => by
  obtain ⟨⟨v, F', A', J'⟩, hw, h1, h2, h3, h4, h5⟩ := s_d_back (J := Jm) (x1 := x1) S.1 S.2.1
  dsimp only at h1 h2 h3 h4 h5
  have f := fun q (hq : q ≠ 2) => h3 q (by simpa using hq)
  have g := fun q (hq : q ≠ 1) => h4 q (by simp)
  obtain ⟨t1, j1, j2⟩ := p2_back tp (show 0 ≤ (Fm 2).toInt from (S.1 2).1) _ _ ho hw
  exact ⟨v, F', A', J', t_d_back (fun k => ht 12 k) (d := 40) hw, S.tp h1 h2 f g, t1, by rw [j1]; exact jw, by rw [show J' = Jm from j2]; exact jk, hc.tape G (tg_e_SleepWork_back TGx.rfl' _ ho) f g, trivial⟩)
theorem w_d_read (hW : WKx JW JK) (ht : ∀ ci k, t.1 ci k = k_ty ci k) {v1 : Int32} (W : WE JW JK (fun P F A J => e_SleepWork_read 20000 P F A J) v1 H) : kx t 40 155 0 [(0, .ref 40960)] [] H (fun z => ∃ v H', z = (some (.int v), H') ∧ W4 JW JK H' ∧ v1.toInt = v.toInt) := w_dE (R := fun v1 v => v1.toInt = v.toInt) W (fun {P F A J Fm Am Jm w} ho G S tp jw jk G' hc => by
  obtain ⟨⟨v, F', A', J'⟩, hw, h1, h2⟩ := s_d_read (n := 20000) (J := Jm) S (by decide)
  obtain ⟨e1, j1, j2⟩ := p2_cread hW G S tp jw jk (by decide) (by decide) _ _ ho hw
  have hc' := p2_readX hW hc G S tp jw jk (by decide) (by decide) _ _ ho hw
  have z : cf w.2.2.1 1 1 = 0 := ((s_cRead (n := 20000) (J := J) G (by decide)).po _ ho).2
  have h2 : (F' 2).toInt = 0 := h2
  exact ⟨v, F', A', J', t_d_read (fun k => ht 12 k) (d := 33) hw, h1, ⟨i_ext (z.trans h2.symm), fun i hi => by rw [h2] at hi; omega⟩, j1, j2, hc', by rw [e1]⟩)
theorem w_d_place (ht : ∀ ci k, t.1 ci k = k_ty ci k) (W : W4 JW JK H) : kx t 40 156 0 [(0, .ref 40960)] [] H (fun z => ∃ v H', z = (some (.int v), H') ∧ W4 JW JK H') := w_dk (by decide) W (fun {F A J} S => by
  obtain ⟨v, hw, -⟩ := s_d_place (J := J) S.1 S.2.1
  exact ⟨v, F, A, J, t_d_place (d := 40) hw, S, rfl, rfl, KT.rfl'⟩)
theorem w_d_task {x1 x2 : Int32} (ht : ∀ ci k, t.1 ci k = k_ty ci k) (W : W4 JW JK H) : kx t 40 202 0 [(0, .ref 40960), (1, .int x1), (2, .int x2)] [] H (fun z => ∃ v H', z = (some (.int v), H') ∧ W4 JW JK H') := w_dk (by decide) W (fun {F A J} S => by
  obtain ⟨⟨v, F', A', J'⟩, hw, h1, h2, h3, h4, -⟩ := s_d_task (n := 20000) (J := J) (x1 := x1) (x2 := x2) S.1 S.2.1 (by decide) S.k0.1 S.2.2.2.2.1
  have s := S.of h1 h2 h3 h4 (by decide) (by decide) (S.rv (h3 18 (by decide)) (h4 19 (by decide)) (h4 22 (by decide)) (h4 47 (by decide))) (S.2.2.2.2.2.1.fr (h3 18 (by decide)) (h3 74 (by decide)) (h4 19 (by decide)) (h4 22 (by decide)) (h4 57 (by decide))) (S.2.2.2.2.2.2.fr (h3 18 (by decide)) (h4 19 (by decide)) (h4 22 (by decide)) (h4 61 (by decide)) (h4 62 (by decide)))
  exact ⟨v, F', A', J', t_d_task (d := 38) hw, s.1, s.2.1, h4 1 (by decide), KT.of h3 h4 (by decide) (by decide)⟩)
theorem w_d_step {x1 x2 x3 : Int32} (ht : ∀ ci k, t.1 ci k = k_ty ci k) (W : W4 JW JK H) : kx t 40 204 0 [(0, .ref 40960), (1, .int x1), (2, .int x2), (3, .int x3)] [] H (fun z => ∃ v H', z = (some (.int v), H') ∧ W4 JW JK H') := w_dk (by decide) W (fun {F A J} S => by
  obtain ⟨v, hw, -⟩ := s_d_step (J := J) (x1 := x1) (x2 := x2) (x3 := x3) S.1 S.2.1
  exact ⟨v, F, A, J, t_d_step (d := 37) hw, S, rfl, rfl, KT.rfl'⟩)
theorem w_d_man {x1 x2 : Int32} (ht : ∀ ci k, t.1 ci k = k_ty ci k) (W : W4 JW JK H) : kx t 40 205 0 [(0, .ref 40960), (1, .int x1), (2, .int x2)] [] H (fun z => ∃ v H', z = (some (.int v), H') ∧ W4 JW JK H') := w_dk (by decide) W (fun {F A J} S => by
  obtain ⟨v, hw, -⟩ := s_d_man (J := J) (x1 := x1) (x2 := x2) S.1 S.2.1
  exact ⟨v, F, A, J, t_d_man (d := 38) hw, S, rfl, rfl, KT.rfl'⟩)
theorem w_d_tool {x1 : Int32} (ht : ∀ ci k, t.1 ci k = k_ty ci k) (W : W4 JW JK H) : kx t 40 206 0 [(0, .ref 40960), (1, .int x1)] [] H (fun z => ∃ v H', z = (some (.int v), H') ∧ W4 JW JK H') := w_dk (by decide) W (fun {F A J} S => by
  obtain ⟨v, hw, -⟩ := s_d_tool (J := J) (x1 := x1) S.1 S.2.1
  exact ⟨v, F, A, J, t_d_tool (d := 38) hw, S, rfl, rfl, KT.rfl'⟩)
theorem w_d_way {x1 x2 : Int32} (ht : ∀ ci k, t.1 ci k = k_ty ci k) (W : W4 JW JK H) : kx t 40 207 0 [(0, .ref 40960), (1, .int x1), (2, .int x2)] [] H (fun z => ∃ v H', z = (some (.int v), H') ∧ W4 JW JK H') := w_dk (by decide) W (fun {F A J} S => by
  obtain ⟨⟨v, F', A', J'⟩, hw, h1, h2, h3, h4, -⟩ := s_d_way (n := 20000) (J := J) (x1 := x1) (x2 := x2) S.1 S.2.1 (by decide) S.k0.1 S.k0.2 S.2.2.1 rfl S.2.2.2.2.1
  have s := S.of h1 h2 h3 h4 (by decide) (by decide) (S.rv (h3 18 (by decide)) (h4 19 (by decide)) (h4 22 (by decide)) (h4 47 (by decide))) (S.2.2.2.2.2.1.fr (h3 18 (by decide)) (h3 74 (by decide)) (h4 19 (by decide)) (h4 22 (by decide)) (h4 57 (by decide))) (S.2.2.2.2.2.2.fr (h3 18 (by decide)) (h4 19 (by decide)) (h4 22 (by decide)) (h4 61 (by decide)) (h4 62 (by decide)))
  exact ⟨v, F', A', J', t_d_way (d := 38) hw, s.1, s.2.1, h4 1 (by decide), KT.of h3 h4 (by decide) (by decide)⟩)
theorem w_d_gain (ht : ∀ ci k, t.1 ci k = k_ty ci k) (W : W4 JW JK H) : kx t 40 216 0 [(0, .ref 40960)] [] H (fun z => ∃ v H', z = (some (.int v), H') ∧ W4 JW JK H') := w_dk (by decide) W (fun {F A J} S => by
  obtain ⟨⟨v, F', A', J'⟩, hw, h1, h2, h3, h4, -⟩ := s_d_gain (n := 20000) (J := J) S.1 S.2.1 (by decide) S.k0.1 S.k0.2 S.2.2.1 rfl S.2.2.2.2.1
  have s := S.of h1 h2 h3 h4 (by decide) (by decide) (S.rv (h3 18 (by decide)) (h4 19 (by decide)) (h4 22 (by decide)) (h4 47 (by decide))) (S.2.2.2.2.2.1.fr (h3 18 (by decide)) (h3 74 (by decide)) (h4 19 (by decide)) (h4 22 (by decide)) (h4 57 (by decide))) (S.2.2.2.2.2.2.fr (h3 18 (by decide)) (h4 19 (by decide)) (h4 22 (by decide)) (h4 61 (by decide)) (h4 62 (by decide)))
  exact ⟨v, F', A', J', t_d_gain (fun k => ht 12 k) (d := 35) hw, s.1, s.2.1, h4 1 (by decide), KT.of h3 h4 (by decide) (by decide)⟩)
theorem w_d_best {x1 x2 : Int32} (ht : ∀ ci k, t.1 ci k = k_ty ci k) (W : W4 JW JK H) : kx t 40 222 0 [(0, .ref 40960), (1, .int x1), (2, .int x2)] [] H (fun z => ∃ v H', z = (some (.int v), H') ∧ W4 JW JK H') := w_dk (by decide) W (fun {F A J} S => by
  obtain ⟨⟨v, F', A', J'⟩, hw, h1, h2, h3, h4, -⟩ := s_d_best (n := 20000) (J := J) (x1 := x1) (x2 := x2) S.1 S.2.1 (by decide) S.k0.1 S.k0.2 S.2.2.1 rfl S.2.2.2.2.1
  have s := S.of h1 h2 h3 h4 (by decide) (by decide) (S.rv (h3 18 (by decide)) (h4 19 (by decide)) (h4 22 (by decide)) (h4 47 (by decide))) (S.2.2.2.2.2.1.fr (h3 18 (by decide)) (h3 74 (by decide)) (h4 19 (by decide)) (h4 22 (by decide)) (h4 57 (by decide))) (S.2.2.2.2.2.2.fr (h3 18 (by decide)) (h4 19 (by decide)) (h4 22 (by decide)) (h4 61 (by decide)) (h4 62 (by decide)))
  exact ⟨v, F', A', J', t_d_best (fun k => ht 12 k) (d := 33) hw, s.1, s.2.1, h4 1 (by decide), KT.of h3 h4 (by decide) (by decide)⟩)
theorem w_d_bestOfTwo {x1 x2 x3 : Int32} (ht : ∀ ci k, t.1 ci k = k_ty ci k) (W : W4 JW JK H) : kx t 40 223 0 [(0, .ref 40960), (1, .int x1), (2, .int x2), (3, .int x3)] [] H (fun z => ∃ v H', z = (some (.int v), H') ∧ W4 JW JK H') := w_dk (by decide) W (fun {F A J} S => by
  obtain ⟨⟨v, F', A', J'⟩, hw, h1, h2, h3, h4, -⟩ := s_d_bestOfTwo (n := 20000) (J := J) (x1 := x1) (x2 := x2) (x3 := x3) S.1 S.2.1 (by decide) S.k0.1 S.k0.2 S.2.2.1 rfl S.2.2.2.2.1
  have s := S.of h1 h2 h3 h4 (by decide) (by decide) (S.rv (h3 18 (by decide)) (h4 19 (by decide)) (h4 22 (by decide)) (h4 47 (by decide))) (S.2.2.2.2.2.1.fr (h3 18 (by decide)) (h3 74 (by decide)) (h4 19 (by decide)) (h4 22 (by decide)) (h4 57 (by decide))) (S.2.2.2.2.2.2.fr (h3 18 (by decide)) (h4 19 (by decide)) (h4 22 (by decide)) (h4 61 (by decide)) (h4 62 (by decide)))
  exact ⟨v, F', A', J', t_d_bestOfTwo (fun k => ht 12 k) (d := 35) hw, s.1, s.2.1, h4 1 (by decide), KT.of h3 h4 (by decide) (by decide)⟩)
theorem w_d_hire {x1 : Int32} (ht : ∀ ci k, t.1 ci k = k_ty ci k) (W : W4 JW JK H) : kx t 40 224 0 [(0, .ref 40960), (1, .int x1)] [] H (fun z => ∃ v H', z = (some (.int v), H') ∧ W4 JW JK H') := w_dk (by decide) W (fun {F A J} S => by
  obtain ⟨⟨v, F', A', J'⟩, hw, h1, h2, h3, h4, -⟩ := s_d_hire (n := 20000) (J := J) (x1 := x1) S.1 S.2.1 (by decide) S.k0.1 S.k0.2 S.2.2.1 rfl S.2.2.2.2.1
  have s := S.of h1 h2 h3 h4 (by decide) (by decide) (S.rv (h3 18 (by decide)) (h4 19 (by decide)) (h4 22 (by decide)) (h4 47 (by decide))) (S.2.2.2.2.2.1.fr (h3 18 (by decide)) (h3 74 (by decide)) (h4 19 (by decide)) (h4 22 (by decide)) (h4 57 (by decide))) (S.2.2.2.2.2.2.fr (h3 18 (by decide)) (h4 19 (by decide)) (h4 22 (by decide)) (h4 61 (by decide)) (h4 62 (by decide)))
  exact ⟨v, F', A', J', t_d_hire (fun k => ht 12 k) (d := 33) hw, s.1, s.2.1, h4 1 (by decide), KT.of h3 h4 (by decide) (by decide)⟩)
theorem w_d_hide {x1 x2 : Int32} (ht : ∀ ci k, t.1 ci k = k_ty ci k) (W : W4 JW JK H) : kx t 40 225 0 [(0, .ref 40960), (1, .int x1), (2, .int x2)] [] H (fun z => ∃ v H', z = (some (.int v), H') ∧ W4 JW JK H') := w_dk (by decide) W (fun {F A J} S => by
  obtain ⟨⟨v, F', A', J'⟩, hw, h1, h2, h3, h4, -⟩ := s_d_hide (n := 20000) (J := J) (x1 := x1) (x2 := x2) S.1 S.2.1 (by decide) S.k0.1 S.k0.2 S.2.2.1 rfl S.2.2.2.2.1
  have s := S.of h1 h2 h3 h4 (by decide) (by decide) (S.rv (h3 18 (by decide)) (h4 19 (by decide)) (h4 22 (by decide)) (h4 47 (by decide))) (S.2.2.2.2.2.1.fr (h3 18 (by decide)) (h3 74 (by decide)) (h4 19 (by decide)) (h4 22 (by decide)) (h4 57 (by decide))) (S.2.2.2.2.2.2.fr (h3 18 (by decide)) (h4 19 (by decide)) (h4 22 (by decide)) (h4 61 (by decide)) (h4 62 (by decide)))
  exact ⟨v, F', A', J', t_d_hide (fun k => ht 12 k) (d := 35) hw, s.1, s.2.1, h4 1 (by decide), KT.of h3 h4 (by decide) (by decide)⟩)
theorem w_d_bars {x1 : Int32} (ht : ∀ ci k, t.1 ci k = k_ty ci k) (W : W4 JW JK H) : kx t 40 227 0 [(0, .ref 40960), (1, .int x1)] [] H (fun z => ∃ v H', z = (some (.int v), H') ∧ W4 JW JK H') := w_dk (by decide) W (fun {F A J} S => by
  obtain ⟨⟨v, F', A', J'⟩, hw, h1, h2, h3, h4, -⟩ := s_d_bars (n := 20000) (J := J) (x1 := x1) S.1 S.2.1 (by decide) S.k0.1 S.k0.2 S.2.2.1 rfl S.2.2.2.2.1
  have s := S.of h1 h2 h3 h4 (by decide) (by decide) (S.rv (h3 18 (by decide)) (h4 19 (by decide)) (h4 22 (by decide)) (h4 47 (by decide))) (S.2.2.2.2.2.1.fr (h3 18 (by decide)) (h3 74 (by decide)) (h4 19 (by decide)) (h4 22 (by decide)) (h4 57 (by decide))) (S.2.2.2.2.2.2.fr (h3 18 (by decide)) (h4 19 (by decide)) (h4 22 (by decide)) (h4 61 (by decide)) (h4 62 (by decide)))
  exact ⟨v, F', A', J', t_d_bars (fun k => ht 12 k) (d := 35) hw, s.1, s.2.1, h4 1 (by decide), KT.of h3 h4 (by decide) (by decide)⟩)
theorem w_d_where {x1 x2 : Int32} (ht : ∀ ci k, t.1 ci k = k_ty ci k) (W : W4 JW JK H) : kx t 40 228 0 [(0, .ref 40960), (1, .int x1), (2, .int x2)] [] H (fun z => ∃ v H', z = (some (.int v), H') ∧ W4 JW JK H') := w_dk (by decide) W (fun {F A J} S => by
  obtain ⟨⟨v, F', A', J'⟩, hw, h1, h2, h3, h4, -⟩ := s_d_where (n := 20000) (J := J) (x1 := x1) (x2 := x2) S.1 S.2.1 (by decide) S.k0.1 S.k0.2 S.2.2.1 rfl S.2.2.2.2.1
  have s := S.of h1 h2 h3 h4 (by decide) (by decide) (S.rv (h3 18 (by decide)) (h4 19 (by decide)) (h4 22 (by decide)) (h4 47 (by decide))) (S.2.2.2.2.2.1.fr (h3 18 (by decide)) (h3 74 (by decide)) (h4 19 (by decide)) (h4 22 (by decide)) (h4 57 (by decide))) (S.2.2.2.2.2.2.fr (h3 18 (by decide)) (h4 19 (by decide)) (h4 22 (by decide)) (h4 61 (by decide)) (h4 62 (by decide)))
  exact ⟨v, F', A', J', t_d_where (d := 38) hw, s.1, s.2.1, h4 1 (by decide), KT.of h3 h4 (by decide) (by decide)⟩)
theorem w_d_strokes {x1 x2 : Int32} (ht : ∀ ci k, t.1 ci k = k_ty ci k) (W : W4 JW JK H) : kx t 40 229 0 [(0, .ref 40960), (1, .int x1), (2, .int x2)] [] H (fun z => ∃ v H', z = (some (.int v), H') ∧ W4 JW JK H') := w_dk (by decide) W (fun {F A J} S => by
  obtain ⟨⟨v, F', A', J'⟩, hw, h1, h2, h3, h4, -⟩ := s_d_strokes (n := 20000) (J := J) (x1 := x1) (x2 := x2) S.1 S.2.1 (by decide) S.k0.1 S.k0.2 S.2.2.1 rfl S.2.2.2.2.1
  have s := S.of h1 h2 h3 h4 (by decide) (by decide) (S.rv (h3 18 (by decide)) (h4 19 (by decide)) (h4 22 (by decide)) (h4 47 (by decide))) (S.2.2.2.2.2.1.fr (h3 18 (by decide)) (h3 74 (by decide)) (h4 19 (by decide)) (h4 22 (by decide)) (h4 57 (by decide))) (S.2.2.2.2.2.2.fr (h3 18 (by decide)) (h4 19 (by decide)) (h4 22 (by decide)) (h4 61 (by decide)) (h4 62 (by decide)))
  exact ⟨v, F', A', J', t_d_strokes (fun k => ht 12 k) (d := 36) hw, s.1, s.2.1, h4 1 (by decide), KT.of h3 h4 (by decide) (by decide)⟩)
theorem w_d_fits {x1 x2 x3 : Int32} (ht : ∀ ci k, t.1 ci k = k_ty ci k) (W : W4 JW JK H) : kx t 40 233 0 [(0, .ref 40960), (1, .int x1), (2, .int x2), (3, .int x3)] [] H (fun z => ∃ v H', z = (some (.int v), H') ∧ W4 JW JK H') := w_dk (by decide) W (fun {F A J} S => by
  obtain ⟨⟨v, F', A', J'⟩, hw, h1, h2, h3, h4, -⟩ := s_d_fits (n := 20000) (J := J) (x1 := x1) (x2 := x2) (x3 := x3) S.1 S.2.1 (by decide) S.k0.1 S.k0.2 S.2.2.1 rfl S.2.2.2.2.1
  have s := S.of h1 h2 h3 h4 (by decide) (by decide) (S.rv (h3 18 (by decide)) (h4 19 (by decide)) (h4 22 (by decide)) (h4 47 (by decide))) (S.2.2.2.2.2.1.fr (h3 18 (by decide)) (h3 74 (by decide)) (h4 19 (by decide)) (h4 22 (by decide)) (h4 57 (by decide))) (S.2.2.2.2.2.2.fr (h3 18 (by decide)) (h4 19 (by decide)) (h4 22 (by decide)) (h4 61 (by decide)) (h4 62 (by decide)))
  exact ⟨v, F', A', J', t_d_fits (fun k => ht 12 k) (d := 34) hw, s.1, s.2.1, h4 1 (by decide), KT.of h3 h4 (by decide) (by decide)⟩)
theorem w_d_suspects {x1 : Int32} (ht : ∀ ci k, t.1 ci k = k_ty ci k) (W : W4 JW JK H) : kx t 40 235 0 [(0, .ref 40960), (1, .int x1)] [] H (fun z => ∃ v H', z = (some (.int v), H') ∧ W4 JW JK H') := w_dk (by decide) W (fun {F A J} S => by
  obtain ⟨⟨v, F', A', J'⟩, hw, h1, h2, h3, h4, -⟩ := s_d_suspects (n := 20000) (J := J) (x1 := x1) S.1 S.2.1 (by decide) S.k0.1 S.k0.2 S.2.2.1 rfl S.2.2.2.2.1
  have s := S.of h1 h2 h3 h4 (by decide) (by decide) (S.rv (h3 18 (by decide)) (h4 19 (by decide)) (h4 22 (by decide)) (h4 47 (by decide))) (S.2.2.2.2.2.1.fr (h3 18 (by decide)) (h3 74 (by decide)) (h4 19 (by decide)) (h4 22 (by decide)) (h4 57 (by decide))) (S.2.2.2.2.2.2.fr (h3 18 (by decide)) (h4 19 (by decide)) (h4 22 (by decide)) (h4 61 (by decide)) (h4 62 (by decide)))
  exact ⟨v, F', A', J', t_d_suspects (fun k => ht 12 k) (d := 33) hw, s.1, s.2.1, h4 1 (by decide), KT.of h3 h4 (by decide) (by decide)⟩)
theorem w_d_pairs {x1 x2 x3 : Int32} (ht : ∀ ci k, t.1 ci k = k_ty ci k) (W : W4 JW JK H) : kx t 40 236 0 [(0, .ref 40960), (1, .int x1), (2, .int x2), (3, .int x3)] [] H (fun z => ∃ v H', z = (some (.int v), H') ∧ W4 JW JK H') := w_dk (by decide) W (fun {F A J} S => by
  obtain ⟨⟨v, F', A', J'⟩, hw, h1, h2, h3, h4, -⟩ := s_d_pairs (n := 20000) (J := J) (x1 := x1) (x2 := x2) (x3 := x3) S.1 S.2.1 (by decide) S.k0.1 S.k0.2 S.2.2.1 rfl S.2.2.2.2.1
  have s := S.of h1 h2 h3 h4 (by decide) (by decide) (S.rv (h3 18 (by decide)) (h4 19 (by decide)) (h4 22 (by decide)) (h4 47 (by decide))) (S.2.2.2.2.2.1.fr (h3 18 (by decide)) (h3 74 (by decide)) (h4 19 (by decide)) (h4 22 (by decide)) (h4 57 (by decide))) (S.2.2.2.2.2.2.fr (h3 18 (by decide)) (h4 19 (by decide)) (h4 22 (by decide)) (h4 61 (by decide)) (h4 62 (by decide)))
  exact ⟨v, F', A', J', t_d_pairs (fun k => ht 12 k) (d := 34) hw, s.1, s.2.1, h4 1 (by decide), KT.of h3 h4 (by decide) (by decide)⟩)
theorem w_d_count {x1 : Int32} (ht : ∀ ci k, t.1 ci k = k_ty ci k) (W : W4 JW JK H) : kx t 40 239 0 [(0, .ref 40960), (1, .int x1)] [] H (fun z => ∃ v H', z = (some (.int v), H') ∧ W4 JW JK H') := w_dk (by decide) W (fun {F A J} S => by
  obtain ⟨⟨v, F', A', J'⟩, hw, h1, h2, h3, h4, -⟩ := s_d_count (n := 20000) (J := J) (x1 := x1) S.1 S.2.1 (by decide) S.k0.1 S.2.2.2.2.1
  have s := S.of h1 h2 h3 h4 (by decide) (by decide) (S.rv (h3 18 (by decide)) (h4 19 (by decide)) (h4 22 (by decide)) (h4 47 (by decide))) (S.2.2.2.2.2.1.fr (h3 18 (by decide)) (h3 74 (by decide)) (h4 19 (by decide)) (h4 22 (by decide)) (h4 57 (by decide))) (S.2.2.2.2.2.2.fr (h3 18 (by decide)) (h4 19 (by decide)) (h4 22 (by decide)) (h4 61 (by decide)) (h4 62 (by decide)))
  exact ⟨v, F', A', J', t_d_count (d := 37) hw, s.1, s.2.1, h4 1 (by decide), KT.of h3 h4 (by decide) (by decide)⟩)
theorem w_d_leaveE {x1 x2 x3 : Int32} (ht : ∀ ci k, t.1 ci k = k_ty ci k) {v1 : Int32} (W : WE JW JK (fun P F A J => e_SleepWork_leave P F A J x1 x2 x3) v1 H) : kx t 40 209 0 [(0, .ref 40960), (1, .int x1), (2, .int x2), (3, .int x3)] [] H (fun z => ∃ v H', z = (some (.int v), H') ∧ W4 JW JK H' ∧ v1.toInt = v.toInt) := w_dE (R := fun v1 v => v1.toInt = v.toInt) W (fun {P F A J Fm Am Jm w} ho G S tp jw jk G' hc => by
  obtain ⟨⟨v, F', A', J'⟩, hw, h1, h2, h3, h4, p1⟩ := s_d_leave (J := Jm) (x1 := x1) (x2 := x2) (x3 := x3) S.1 S.2.1 S.k0.1 rfl S.2.2.2.2.1
  have s := S.of h1 h2 h3 h4 (by decide) (by decide) (p1) (S.2.2.2.2.2.1.fr (h3 18 (by decide)) (h3 74 (by decide)) (h4 19 (by decide)) (h4 22 (by decide)) (h4 57 (by decide))) (S.2.2.2.2.2.2.fr (h3 18 (by decide)) (h4 19 (by decide)) (h4 22 (by decide)) (h4 61 (by decide)) (h4 62 (by decide)))
  obtain ⟨-, e', hk⟩ := (h_cLeave (J := J) (x1 := x1) (x2 := x2) (x3 := x3) G).po _ ho
  obtain ⟨e1, -⟩ := Prod.mk.inj e'
  have rr := t_e_SleepWork_leave (lg := c_lg) (d := 39) (c := (0, 0)) (B := fun _ => []) ht ho
  have hJ := tk_J (k_longs (by decide) rr)
  have hA := tk_A (k_bytes (by decide) rr)
  have hm := tk_Jm (k_longs (t := t) (lg := c_lg) (d := 40) (by decide) (t_d_leave (d := 36) (c := (0, 0)) (B := fun _ => []) hw))
  have ev := p2_leaveX hc G S _ _ ho hw
  exact ⟨v, F', A', J', t_d_leave (d := 36) hw, s.1, ⟨e1.trans (tp.1.trans s.2.1.symm), by rw [show F' 2 = Fm 2 from s.2.1, hA, show A' 1 = Am 1 from h4 1 (by decide)]; exact tp.2⟩, hJ.trans jw, hm.trans jk, ev.2, by rw [ev.1]⟩)
theorem w_d_layE {x1 x2 : Int32} (ht : ∀ ci k, t.1 ci k = k_ty ci k) {v1 : Int32} (W : WE JW JK (fun P F A J => e_SleepWork_lay P F A J x1 x2) v1 H) : kx t 40 211 0 [(0, .ref 40960), (1, .int x1), (2, .int x2)] [] H (fun z => ∃ v H', z = (some (.int v), H') ∧ W4 JW JK H' ∧ v1.toInt = v.toInt) := w_dE (R := fun v1 v => v1.toInt = v.toInt) W (fun {P F A J Fm Am Jm w} ho G S tp jw jk G' hc => by
  obtain ⟨⟨v, F', A', J'⟩, hw, h1, h2, h3, h4, p1⟩ := s_d_lay (J := Jm) (x1 := x1) (x2 := x2) S.1 S.2.1 S.k0.1 S.2.2.2.2.1
  have s := S.of h1 h2 h3 h4 (by decide) (by decide) (p1) (S.2.2.2.2.2.1.fr (h3 18 (by decide)) (h3 74 (by decide)) (h4 19 (by decide)) (h4 22 (by decide)) (h4 57 (by decide))) (S.2.2.2.2.2.2.fr (h3 18 (by decide)) (h4 19 (by decide)) (h4 22 (by decide)) (h4 61 (by decide)) (h4 62 (by decide)))
  obtain ⟨-, e', hk⟩ := (h_cLay (J := J) (x1 := x1) (x2 := x2) G).po _ ho
  obtain ⟨e1, -⟩ := Prod.mk.inj e'
  have rr := t_e_SleepWork_lay (lg := c_lg) (d := 39) (c := (0, 0)) (B := fun _ => []) ht ho
  have hJ := tk_J (k_longs (by decide) rr)
  have hA := tk_A (k_bytes (by decide) rr)
  have hm := tk_Jm (k_longs (t := t) (lg := c_lg) (d := 40) (by decide) (t_d_lay (d := 38) (c := (0, 0)) (B := fun _ => []) hw))
  have ev := p2_layX hc G S _ _ ho hw
  exact ⟨v, F', A', J', t_d_lay (d := 38) hw, s.1, ⟨e1.trans (tp.1.trans s.2.1.symm), by rw [show F' 2 = Fm 2 from s.2.1, hA, show A' 1 = Am 1 from h4 1 (by decide)]; exact tp.2⟩, hJ.trans jw, hm.trans jk, ev.2, by rw [ev.1]⟩)
theorem w_d_giveE {x1 x2 : Int32} (ht : ∀ ci k, t.1 ci k = k_ty ci k) {v1 : Int32} (W : WE JW JK (fun P F A J => e_SleepWork_give P F A J x1 x2) v1 H) : kx t 40 212 0 [(0, .ref 40960), (1, .int x1), (2, .int x2)] [] H (fun z => ∃ v H', z = (some (.int v), H') ∧ W4 JW JK H' ∧ v1.toInt = v.toInt) := w_dE (R := fun v1 v => v1.toInt = v.toInt) W (fun {P F A J Fm Am Jm w} ho G S tp jw jk G' hc => by
  obtain ⟨⟨v, F', A', J'⟩, hw, h1, h2, h3, h4, p1⟩ := s_d_give (J := Jm) (x1 := x1) (x2 := x2) S.1 S.2.1 S.k0.1 S.2.2.2.2.1
  have s := S.of h1 h2 h3 h4 (by decide) (by decide) (p1) (S.2.2.2.2.2.1.fr (h3 18 (by decide)) (h3 74 (by decide)) (h4 19 (by decide)) (h4 22 (by decide)) (h4 57 (by decide))) (S.2.2.2.2.2.2.fr (h3 18 (by decide)) (h4 19 (by decide)) (h4 22 (by decide)) (h4 61 (by decide)) (h4 62 (by decide)))
  obtain ⟨-, e', hk⟩ := (h_cGive (J := J) (x1 := x1) (x2 := x2) G).po _ ho
  obtain ⟨e1, -⟩ := Prod.mk.inj e'
  have rr := t_e_SleepWork_give (lg := c_lg) (d := 39) (c := (0, 0)) (B := fun _ => []) ht ho
  have hJ := tk_J (k_longs (by decide) rr)
  have hA := tk_A (k_bytes (by decide) rr)
  have hm := tk_Jm (k_longs (t := t) (lg := c_lg) (d := 40) (by decide) (t_d_give (d := 38) (c := (0, 0)) (B := fun _ => []) hw))
  have ev := p2_giveX hc G S _ _ ho hw
  exact ⟨v, F', A', J', t_d_give (d := 38) hw, s.1, ⟨e1.trans (tp.1.trans s.2.1.symm), by rw [show F' 2 = Fm 2 from s.2.1, hA, show A' 1 = Am 1 from h4 1 (by decide)]; exact tp.2⟩, hJ.trans jw, hm.trans jk, ev.2, by rw [ev.1]⟩)
theorem w_d_barE {x1 x2 : Int32} (ht : ∀ ci k, t.1 ci k = k_ty ci k) {v1 : Int32} (W : WE JW JK (fun P F A J => e_SleepWork_bar P F A J x1 x2) v1 H) : kx t 40 213 0 [(0, .ref 40960), (1, .int x1), (2, .int x2)] [] H (fun z => ∃ v H', z = (some (.int v), H') ∧ W4 JW JK H' ∧ v1.toInt = v.toInt) := w_dE (R := fun v1 v => v1.toInt = v.toInt) W (fun {P F A J Fm Am Jm w} ho G S tp jw jk G' hc => by
  obtain ⟨⟨v, F', A', J'⟩, hw, h1, h2, h3, h4, p1⟩ := s_d_bar (J := Jm) (x1 := x1) (x2 := x2) S.1 S.2.1 S.k0.1 S.2.2.2.2.1
  have s := S.of h1 h2 h3 h4 (by decide) (by decide) (p1) (S.2.2.2.2.2.1.fr (h3 18 (by decide)) (h3 74 (by decide)) (h4 19 (by decide)) (h4 22 (by decide)) (h4 57 (by decide))) (S.2.2.2.2.2.2.fr (h3 18 (by decide)) (h4 19 (by decide)) (h4 22 (by decide)) (h4 61 (by decide)) (h4 62 (by decide)))
  obtain ⟨-, e', hk⟩ := (h_cBar (J := J) (x1 := x1) (x2 := x2) G).po _ ho
  obtain ⟨e1, -⟩ := Prod.mk.inj e'
  have rr := t_e_SleepWork_bar (lg := c_lg) (d := 39) (c := (0, 0)) (B := fun _ => []) ht ho
  have hJ := tk_J (k_longs (by decide) rr)
  have hA := tk_A (k_bytes (by decide) rr)
  have hm := tk_Jm (k_longs (t := t) (lg := c_lg) (d := 40) (by decide) (t_d_bar (d := 39) (c := (0, 0)) (B := fun _ => []) hw))
  have ev := p2_barX hc G S _ _ ho hw
  exact ⟨v, F', A', J', t_d_bar (d := 39) hw, s.1, ⟨e1.trans (tp.1.trans s.2.1.symm), by rw [show F' 2 = Fm 2 from s.2.1, hA, show A' 1 = Am 1 from h4 1 (by decide)]; exact tp.2⟩, hJ.trans jw, hm.trans jk, ev.2, by rw [ev.1]⟩)
theorem w_d_nightE (ht : ∀ ci k, t.1 ci k = k_ty ci k) {v1 : Int32} (W : WE JW JK (fun P F A J => e_SleepWork_night 20000 P F A J) v1 H) : kx t 40 214 0 [(0, .ref 40960)] [] H (fun z => ∃ v H', z = (some (.int v), H') ∧ W4 JW JK H' ∧ v1.toInt = v.toInt) := w_dE (R := fun v1 v => v1.toInt = v.toInt) W (fun {P F A J Fm Am Jm w} ho G S tp jw jk G' hc => by
  obtain ⟨⟨v, F', A', J'⟩, hw, h1, h2, h3, h4, p1, p2⟩ := s_d_night (n := 20000) (J := Jm) S.1 S.2.1 (by decide) S.k0.1 S.k0.2 S.2.2.1 rfl S.2.2.2.2.1 S.2.2.2.2.2.1
  have s := S.of h1 h2 h3 h4 (by decide) (by decide) (p1) (p2) (S.2.2.2.2.2.2.fr (h3 18 (by decide)) (h4 19 (by decide)) (h4 22 (by decide)) (h4 61 (by decide)) (h4 62 (by decide)))
  obtain ⟨-, e', hk⟩ := (h_cNight (n := 20000) (J := J) G (by decide)).po _ ho
  obtain ⟨e1, -⟩ := Prod.mk.inj e'
  have rr := t_e_SleepWork_night (lg := c_lg) (d := 34) (c := (0, 0)) (B := fun _ => []) ht ho
  have hJ := tk_J (k_longs (by decide) rr)
  have hA := tk_A (k_bytes (by decide) rr)
  have hm := tk_Jm (k_longs (t := t) (lg := c_lg) (d := 40) (by decide) (t_d_night (fun k => ht 12 k) (d := 35) (c := (0, 0)) (B := fun _ => []) hw))
  have ev := p2_nightX hc G S (by decide) _ _ ho hw
  exact ⟨v, F', A', J', t_d_night (fun k => ht 12 k) (d := 35) hw, s.1, ⟨e1.trans (tp.1.trans s.2.1.symm), by rw [show F' 2 = Fm 2 from s.2.1, hA, show A' 1 = Am 1 from h4 1 (by decide)]; exact tp.2⟩, hJ.trans jw, hm.trans jk, ev.2, by rw [ev.1]⟩)
theorem w_d_undoE (ht : ∀ ci k, t.1 ci k = k_ty ci k) {v1 : Int32} (W : WE JW JK (fun P F A J => e_SleepWork_undo P F A J) v1 H) : kx t 40 215 0 [(0, .ref 40960)] [] H (fun z => ∃ v H', z = (some (.int v), H') ∧ W4 JW JK H' ∧ v1.toInt = v.toInt) := w_dE (R := fun v1 v => v1.toInt = v.toInt) W (fun {P F A J Fm Am Jm w} ho G S tp jw jk G' hc => by
  obtain ⟨⟨v, F', A', J'⟩, hw, h1, h2, h3, h4, p1, p2⟩ := s_d_undo (n := 20000) (J := Jm) S.1 S.2.1 (by decide) S.k0.1 S.2.2.2.2.1 S.2.2.2.2.2.1
  have s := S.of h1 h2 h3 h4 (by decide) (by decide) (p1) (p2) (S.2.2.2.2.2.2.fr (h3 18 (by decide)) (h4 19 (by decide)) (h4 22 (by decide)) (h4 61 (by decide)) (h4 62 (by decide)))
  obtain ⟨-, e', hk⟩ := (h_cUndo (J := J) G).po _ ho
  obtain ⟨e1, -⟩ := Prod.mk.inj e'
  have rr := t_e_SleepWork_undo (lg := c_lg) (d := 38) (c := (0, 0)) (B := fun _ => []) ht ho
  have hJ := tk_J (k_longs (by decide) rr)
  have hA := tk_A (k_bytes (by decide) rr)
  have hm := tk_Jm (k_longs (t := t) (lg := c_lg) (d := 40) (by decide) (t_d_undo (fun k => ht 12 k) (d := 40) (c := (0, 0)) (B := fun _ => []) hw))
  have ev := p2_undoR hc G S _ _ ho hw
  exact ⟨v, F', A', J', t_d_undo (fun k => ht 12 k) (d := 40) hw, s.1, ⟨e1.trans (tp.1.trans s.2.1.symm), by rw [show F' 2 = Fm 2 from s.2.1, hA, show A' 1 = Am 1 from h4 1 (by decide)]; exact tp.2⟩, hJ.trans jw, hm.trans jk, ev.2, by rw [ev.1]⟩)
theorem w_d_tellE {x1 x2 x3 : Int32} (ht : ∀ ci k, t.1 ci k = k_ty ci k) {v1 : Int32} (W : WE JW JK (fun P F A J => e_SleepWork_tell P F A J x1 x2 x3) v1 H) : kx t 40 230 0 [(0, .ref 40960), (1, .int x1), (2, .int x2), (3, .int x3)] [] H (fun z => ∃ v H', z = (some (.int v), H') ∧ W4 JW JK H' ∧ v1.toInt = v.toInt) := w_dE (R := fun v1 v => v1.toInt = v.toInt) W (fun {P F A J Fm Am Jm w} ho G S tp jw jk G' hc => by
  obtain ⟨⟨v, F', A', J'⟩, hw, h1, h2, h3, h4, -⟩ := s_d_tell3 (J := Jm) (x1 := x1) (x2 := x2) (x3 := x3) S.1 S.2.1
  have s := S.of h1 h2 h3 h4 (by decide) (by decide) (S.rv (h3 18 (by decide)) (h4 19 (by decide)) (h4 22 (by decide)) (h4 47 (by decide))) (S.2.2.2.2.2.1.fr (h3 18 (by decide)) (h3 74 (by decide)) (h4 19 (by decide)) (h4 22 (by decide)) (h4 57 (by decide))) (S.2.2.2.2.2.2.fr (h3 18 (by decide)) (h4 19 (by decide)) (h4 22 (by decide)) (h4 61 (by decide)) (h4 62 (by decide)))
  obtain ⟨-, e', hk⟩ := (h_cTell (J := J) (x1 := x1) (x2 := x2) (x3 := x3) G).po _ ho
  obtain ⟨e1, -⟩ := Prod.mk.inj e'
  have rr := t_e_SleepWork_tell (lg := c_lg) (d := 39) (c := (0, 0)) (B := fun _ => []) ht ho
  have hJ := tk_J (k_longs (by decide) rr)
  have hA := tk_A (k_bytes (by decide) rr)
  have hm := tk_Jm (k_longs (t := t) (lg := c_lg) (d := 40) (by decide) (t_d_tell3 (fun k => ht 12 k) (d := 37) (c := (0, 0)) (B := fun _ => []) hw))
  have ev := p2_tellR hc G S _ _ ho hw
  exact ⟨v, F', A', J', t_d_tell3 (fun k => ht 12 k) (d := 37) hw, s.1, ⟨e1.trans (tp.1.trans s.2.1.symm), by rw [show F' 2 = Fm 2 from s.2.1, hA, show A' 1 = Am 1 from h4 1 (by decide)]; exact tp.2⟩, hJ.trans jw, hm.trans jk, ev.2, by rw [ev.1]⟩)
theorem w_d_forgetE (ht : ∀ ci k, t.1 ci k = k_ty ci k) {v1 : Int32} (W : WE JW JK (fun P F A J => e_SleepWork_forget P F A J) v1 H) : kx t 40 231 0 [(0, .ref 40960)] [] H (fun z => ∃ v H', z = (some (.int v), H') ∧ W4 JW JK H' ∧ v1.toInt = v.toInt) := w_dE (R := fun v1 v => v1.toInt = v.toInt) W (fun {P F A J Fm Am Jm w} ho G S tp jw jk G' hc => by
  obtain ⟨⟨v, F', A', J'⟩, hw, h1, h2, h3, h4, -⟩ := s_d_forget (J := Jm) S.1 S.2.1
  have s := S.of h1 h2 h3 h4 (by decide) (by decide) (S.rv (h3 18 (by decide)) (h4 19 (by decide)) (h4 22 (by decide)) (h4 47 (by decide))) (S.2.2.2.2.2.1.fr (h3 18 (by decide)) (h3 74 (by decide)) (h4 19 (by decide)) (h4 22 (by decide)) (h4 57 (by decide))) (S.2.2.2.2.2.2.fr (h3 18 (by decide)) (h4 19 (by decide)) (h4 22 (by decide)) (h4 61 (by decide)) (h4 62 (by decide)))
  obtain ⟨-, e', hk⟩ := (h_cForget (J := J) G).po _ ho
  obtain ⟨e1, -⟩ := Prod.mk.inj e'
  have rr := t_e_SleepWork_forget (lg := c_lg) (d := 39) (c := (0, 0)) (B := fun _ => []) ht ho
  have hJ := tk_J (k_longs (by decide) rr)
  have hA := tk_A (k_bytes (by decide) rr)
  have hm := tk_Jm (k_longs (t := t) (lg := c_lg) (d := 40) (by decide) (t_d_forget (fun k => ht 12 k) (d := 40) (c := (0, 0)) (B := fun _ => []) hw))
  have ev := p2_forgetR hc G S _ _ ho hw
  exact ⟨v, F', A', J', t_d_forget (fun k => ht 12 k) (d := 40) hw, s.1, ⟨e1.trans (tp.1.trans s.2.1.symm), by rw [show F' 2 = Fm 2 from s.2.1, hA, show A' 1 = Am 1 from h4 1 (by decide)]; exact tp.2⟩, hJ.trans jw, hm.trans jk, ev.2, by rw [ev.1]⟩)
theorem w_d_holdE {x1 : Int32} (ht : ∀ ci k, t.1 ci k = k_ty ci k) {v1 : Int32} (W : WE JW JK (fun P F A J => e_SleepWork_hold P F A J x1) v1 H) : kx t 40 237 0 [(0, .ref 40960), (1, .int x1)] [] H (fun z => ∃ v H', z = (some (.int v), H') ∧ W4 JW JK H' ∧ v1.toInt = v.toInt) := w_dE (R := fun v1 v => v1.toInt = v.toInt) W (fun {P F A J Fm Am Jm w} ho G S tp jw jk G' hc => by
  obtain ⟨⟨v, F', A', J'⟩, hw, h1, h2, h3, h4, p3⟩ := s_d_hold (n := 20000) (J := Jm) (x1 := x1) S.1 S.2.1 (by decide) S.k0.1 S.2.2.2.2.1 S.2.2.2.2.2.2
  have s := S.of h1 h2 h3 h4 (by decide) (by decide) (S.rv (h3 18 (by decide)) (h4 19 (by decide)) (h4 22 (by decide)) (h4 47 (by decide))) (S.2.2.2.2.2.1.fr (h3 18 (by decide)) (h3 74 (by decide)) (h4 19 (by decide)) (h4 22 (by decide)) (h4 57 (by decide))) (p3)
  obtain ⟨-, e', hk⟩ := (h_cHold (J := J) (x1 := x1) G).po _ ho
  obtain ⟨e1, -⟩ := Prod.mk.inj e'
  have rr := t_e_SleepWork_hold (lg := c_lg) (d := 39) (c := (0, 0)) (B := fun _ => []) ht ho
  have hJ := tk_J (k_longs (by decide) rr)
  have hA := tk_A (k_bytes (by decide) rr)
  have hm := tk_Jm (k_longs (t := t) (lg := c_lg) (d := 40) (by decide) (t_d_hold (d := 39) (c := (0, 0)) (B := fun _ => []) hw))
  have ev := p2_holdR hc G S _ _ ho hw
  exact ⟨v, F', A', J', t_d_hold (d := 39) hw, s.1, ⟨e1.trans (tp.1.trans s.2.1.symm), by rw [show F' 2 = Fm 2 from s.2.1, hA, show A' 1 = Am 1 from h4 1 (by decide)]; exact tp.2⟩, hJ.trans jw, hm.trans jk, ev.2, by rw [ev.1]⟩)
theorem w_d_restoreE {x1 : Int32} (ht : ∀ ci k, t.1 ci k = k_ty ci k) {v1 : Int32} (W : WE JW JK (fun P F A J => e_SleepWork_restore P F A J x1) v1 H) : kx t 40 238 0 [(0, .ref 40960), (1, .int x1)] [] H (fun z => ∃ v H', z = (some (.int v), H') ∧ W4 JW JK H' ∧ v1.toInt = v.toInt) := w_dE (R := fun v1 v => v1.toInt = v.toInt) W (fun {P F A J Fm Am Jm w} ho G S tp jw jk G' hc => by
  obtain ⟨⟨v, F', A', J'⟩, hw, h1, h2, h3, h4, p1, p2⟩ := s_d_restore (n := 20000) (J := Jm) (x1 := x1) S.1 S.2.1 (by decide) S.k0.1 S.2.2.2.2.1 S.2.2.2.2.2.1 S.2.2.2.2.2.2
  have s := S.of h1 h2 h3 h4 (by decide) (by decide) (p1) (p2) (S.2.2.2.2.2.2.fr (h3 18 (by decide)) (h4 19 (by decide)) (h4 22 (by decide)) (h4 61 (by decide)) (h4 62 (by decide)))
  obtain ⟨-, e', hk⟩ := (h_cRestore (J := J) (x1 := x1) G).po _ ho
  obtain ⟨e1, -⟩ := Prod.mk.inj e'
  have rr := t_e_SleepWork_restore (lg := c_lg) (d := 39) (c := (0, 0)) (B := fun _ => []) ht ho
  have hJ := tk_J (k_longs (by decide) rr)
  have hA := tk_A (k_bytes (by decide) rr)
  have hm := tk_Jm (k_longs (t := t) (lg := c_lg) (d := 40) (by decide) (t_d_restore (fun k => ht 12 k) (d := 39) (c := (0, 0)) (B := fun _ => []) hw))
  have ev := p2_restoreR hc G S _ _ ho hw
  exact ⟨v, F', A', J', t_d_restore (fun k => ht 12 k) (d := 39) hw, s.1, ⟨e1.trans (tp.1.trans s.2.1.symm), by rw [show F' 2 = Fm 2 from s.2.1, hA, show A' 1 = Am 1 from h4 1 (by decide)]; exact tp.2⟩, hJ.trans jw, hm.trans jk, ev.2, by rw [ev.1]⟩)
theorem w_d_workE {x1 x2 : Int32} (ht : ∀ ci k, t.1 ci k = k_ty ci k) {v1 : Int32} (W : WE JW JK (fun P F A J => e_SleepWork_work P F A J x1 x2) v1 H) : kx t 40 210 0 [(0, .ref 40960), (1, .int x1), (2, .int x2)] [] H (fun z => ∃ v H', z = (some (.int v), H') ∧ W4 JW JK H' ∧ v1.toInt = v.toInt) := w_dE (R := fun v1 v => v1.toInt = v.toInt) W (fun {P F A J Fm Am Jm w} ho G S tp jw jk G' hc => by
  obtain ⟨⟨v, F', A', J'⟩, hw, h1, h2, h3, h4, p1⟩ := s_d_work (n := 20000) (J := Jm) (x1 := x1) (x2 := x2) S.1 S.2.1 (by decide) S.k0.1 S.k0.2 S.2.2.1 rfl S.2.2.2.2.1
  have s := S.of h1 h2 h3 h4 (by decide) (by decide) (p1) (S.2.2.2.2.2.1.fr (h3 18 (by decide)) (h3 74 (by decide)) (h4 19 (by decide)) (h4 22 (by decide)) (h4 57 (by decide))) (S.2.2.2.2.2.2.fr (h3 18 (by decide)) (h4 19 (by decide)) (h4 22 (by decide)) (h4 61 (by decide)) (h4 62 (by decide)))
  have ev := p2_workR hc G S _ _ ho hw
  have hm := tk_Jm (k_longs (t := t) (lg := c_lg) (d := 40) (by decide) (t_d_work (d := 37) (c := (0, 0)) (B := fun _ => []) hw))
  obtain ⟨-, e', hk⟩ := (h_cWork (J := J) (x1 := x1) (x2 := x2) G).po _ ho
  obtain ⟨e1, -⟩ := Prod.mk.inj e'
  have rr := t_e_SleepWork_work (lg := c_lg) (d := 39) (c := (0, 0)) (B := fun _ => []) ht ho
  have hJ := tk_J (k_longs (by decide) rr)
  have hA := tk_A (k_bytes (by decide) rr)
  exact ⟨v, F', A', J', t_d_work (d := 37) hw, s.1, ⟨e1.trans (tp.1.trans s.2.1.symm), by rw [show F' 2 = Fm 2 from s.2.1, hA, show A' 1 = Am 1 from h4 1 (by decide)]; exact tp.2⟩, hJ.trans jw, hm.trans jk, ev.2, by rw [ev.1]⟩)
theorem w_d_taskE {x1 x2 : Int32} (ht : ∀ ci k, t.1 ci k = k_ty ci k) {v1 : Int32} (W : WE JW JK (fun P F A J => (e_SleepWork_task 20000 P F A J x1 x2).bind fun v => some (v, P, F, A, J)) v1 H) : kx t 40 202 0 [(0, .ref 40960), (1, .int x1), (2, .int x2)] [] H (fun z => ∃ v H', z = (some (.int v), H') ∧ W4 JW JK H' ∧ v1.toInt = v.toInt) := w_dE (R := fun v1 v => v1.toInt = v.toInt) W (fun {P F A J Fm Am Jm w} ho G S tp jw jk G' hc => by
  obtain ⟨w1, ho1, e⟩ := Option.bind_eq_some_iff.mp ho
  cases e
  obtain ⟨⟨v, F', A', J'⟩, hw, h1, h2, h3, h4, -⟩ := s_d_task (n := 20000) (J := Jm) (x1 := x1) (x2 := x2) S.1 S.2.1 (by decide) S.k0.1 S.2.2.2.2.1
  have s := S.of h1 h2 h3 h4 (by decide) (by decide) (S.rv (h3 18 (by decide)) (h4 19 (by decide)) (h4 22 (by decide)) (h4 47 (by decide))) (S.2.2.2.2.2.1.fr (h3 18 (by decide)) (h3 74 (by decide)) (h4 19 (by decide)) (h4 22 (by decide)) (h4 57 (by decide))) (S.2.2.2.2.2.2.fr (h3 18 (by decide)) (h4 19 (by decide)) (h4 22 (by decide)) (h4 61 (by decide)) (h4 62 (by decide)))
  have ev := p2_task hc S _ _ ho1 hw
  have hm := tk_Jm (k_longs (t := t) (lg := c_lg) (d := 40) (by decide) (t_d_task (d := 38) (c := (0, 0)) (B := fun _ => []) hw))
  exact ⟨v, F', A', J', t_d_task (d := 38) hw, s.1, ⟨tp.1.trans s.2.1.symm, by rw [show F' 2 = Fm 2 from s.2.1, show A' 1 = Am 1 from h4 1 (by decide)]; exact tp.2⟩, jw, hm.trans jk, hc.tried G (QFc.rfl' G.1) (KT.of h3 h4 (by decide) (by decide)), congrArg Int32.toInt ev⟩)
theorem w_d_manE {x1 x2 : Int32} (ht : ∀ ci k, t.1 ci k = k_ty ci k) {v1 : Int32} (W : WE JW JK (fun P F A J => (e_SleepWork_man P F A J x1 x2).bind fun v => some (v, P, F, A, J)) v1 H) : kx t 40 205 0 [(0, .ref 40960), (1, .int x1), (2, .int x2)] [] H (fun z => ∃ v H', z = (some (.int v), H') ∧ W4 JW JK H' ∧ v1.toInt = v.toInt) := w_dE (R := fun v1 v => v1.toInt = v.toInt) W (fun {P F A J Fm Am Jm w} ho G S tp jw jk G' hc => by
  obtain ⟨w1, ho1, e⟩ := Option.bind_eq_some_iff.mp ho
  cases e
  obtain ⟨v, hw, -⟩ := s_d_man (J := Jm) (x1 := x1) (x2 := x2) S.1 S.2.1
  have ev := p2_man hc S _ _ ho1 hw
  exact ⟨v, Fm, Am, Jm, t_d_man (d := 38) hw, S, tp, jw, jk, hc, congrArg Int32.toInt ev⟩)
theorem w_d_toolE {x1 : Int32} (ht : ∀ ci k, t.1 ci k = k_ty ci k) {v1 : Int32} (W : WE JW JK (fun P F A J => (e_SleepWork_tool P F A J x1).bind fun v => some (v, P, F, A, J)) v1 H) : kx t 40 206 0 [(0, .ref 40960), (1, .int x1)] [] H (fun z => ∃ v H', z = (some (.int v), H') ∧ W4 JW JK H' ∧ v1.toInt = v.toInt) := w_dE (R := fun v1 v => v1.toInt = v.toInt) W (fun {P F A J Fm Am Jm w} ho G S tp jw jk G' hc => by
  obtain ⟨w1, ho1, e⟩ := Option.bind_eq_some_iff.mp ho
  cases e
  obtain ⟨v, hw, -⟩ := s_d_tool (J := Jm) (x1 := x1) S.1 S.2.1
  have ev := p2_tool hc S _ _ ho1 hw
  exact ⟨v, Fm, Am, Jm, t_d_tool (d := 38) hw, S, tp, jw, jk, hc, congrArg Int32.toInt ev⟩)
theorem w_d_stepE {x1 x2 x3 : Int32} (ht : ∀ ci k, t.1 ci k = k_ty ci k) {v1 : Int32} (W : WE JW JK (fun P F A J => (e_SleepWork_step P F A J x1 x2 x3).bind fun v => some (v, P, F, A, J)) v1 H) : kx t 40 204 0 [(0, .ref 40960), (1, .int x1), (2, .int x2), (3, .int x3)] [] H (fun z => ∃ v H', z = (some (.int v), H') ∧ W4 JW JK H' ∧ v1.toInt = v.toInt) := w_dE (R := fun v1 v => v1.toInt = v.toInt) W (fun {P F A J Fm Am Jm w} ho G S tp jw jk G' hc => by
  obtain ⟨w1, ho1, e⟩ := Option.bind_eq_some_iff.mp ho
  cases e
  obtain ⟨v, hw, -⟩ := s_d_step (J := Jm) (x1 := x1) (x2 := x2) (x3 := x3) S.1 S.2.1
  have ev := p2_step hc S _ _ ho1 hw
  exact ⟨v, Fm, Am, Jm, t_d_step (d := 37) hw, S, tp, jw, jk, hc, congrArg Int32.toInt ev⟩)
theorem w_d_countE {x1 : Int32} (ht : ∀ ci k, t.1 ci k = k_ty ci k) {v1 : Int32} (W : WE JW JK (fun P F A J => (e_SleepWork_count 20000 P F A J x1).bind fun v => some (v, P, F, A, J)) v1 H) : kx t 40 239 0 [(0, .ref 40960), (1, .int x1)] [] H (fun z => ∃ v H', z = (some (.int v), H') ∧ W4 JW JK H' ∧ v1.toInt = v.toInt) := w_dE (R := fun v1 v => v1.toInt = v.toInt) W (fun {P F A J Fm Am Jm w} ho G S tp jw jk G' hc => by
  obtain ⟨w1, ho1, e⟩ := Option.bind_eq_some_iff.mp ho
  cases e
  obtain ⟨⟨v, F', A', J'⟩, hw, h1, h2, h3, h4, -⟩ := s_d_count (n := 20000) (J := Jm) (x1 := x1) S.1 S.2.1 (by decide) S.k0.1 S.2.2.2.2.1
  have s := S.of h1 h2 h3 h4 (by decide) (by decide) (S.rv (h3 18 (by decide)) (h4 19 (by decide)) (h4 22 (by decide)) (h4 47 (by decide))) (S.2.2.2.2.2.1.fr (h3 18 (by decide)) (h3 74 (by decide)) (h4 19 (by decide)) (h4 22 (by decide)) (h4 57 (by decide))) (S.2.2.2.2.2.2.fr (h3 18 (by decide)) (h4 19 (by decide)) (h4 22 (by decide)) (h4 61 (by decide)) (h4 62 (by decide)))
  have ev := p2_count hc G tp _ _ ho1 hw
  have hm := tk_Jm (k_longs (t := t) (lg := c_lg) (d := 40) (by decide) (t_d_count (d := 37) (c := (0, 0)) (B := fun _ => []) hw))
  exact ⟨v, F', A', J', t_d_count (d := 37) hw, s.1, ⟨tp.1.trans s.2.1.symm, by rw [show F' 2 = Fm 2 from s.2.1, show A' 1 = Am 1 from h4 1 (by decide)]; exact tp.2⟩, jw, hm.trans jk, hc.tried G (QFc.rfl' G.1) (KT.of h3 h4 (by decide) (by decide)), congrArg Int32.toInt ev⟩)
theorem w_d_wayE {x1 x2 : Int32} (ht : ∀ ci k, t.1 ci k = k_ty ci k) {v1 : Int32} (W : WE JW JK (fun P F A J => e_SleepWork_way 20000 P F A J x1 x2) v1 H) : kx t 40 207 0 [(0, .ref 40960), (1, .int x1), (2, .int x2)] [] H (fun z => ∃ v H', z = (some (.int v), H') ∧ W4 JW JK H' ∧ v1.toInt = v.toInt) := w_dE (R := fun v1 v => v1.toInt = v.toInt) W (fun {P F A J Fm Am Jm w} ho G S tp jw jk G' hc => by
  obtain ⟨⟨v, F', A', J'⟩, hw, h1, h2, h3, h4, -⟩ := s_d_way (n := 20000) (J := Jm) (x1 := x1) (x2 := x2) S.1 S.2.1 (by decide) S.k0.1 S.k0.2 S.2.2.1 rfl S.2.2.2.2.1
  have s := S.of h1 h2 h3 h4 (by decide) (by decide) (S.rv (h3 18 (by decide)) (h4 19 (by decide)) (h4 22 (by decide)) (h4 47 (by decide))) (S.2.2.2.2.2.1.fr (h3 18 (by decide)) (h3 74 (by decide)) (h4 19 (by decide)) (h4 22 (by decide)) (h4 57 (by decide))) (S.2.2.2.2.2.2.fr (h3 18 (by decide)) (h4 19 (by decide)) (h4 22 (by decide)) (h4 61 (by decide)) (h4 62 (by decide)))
  have ev := p2_way hc G S _ _ ho hw
  have hm := tk_Jm (k_longs (t := t) (lg := c_lg) (d := 40) (by decide) (t_d_way (d := 38) (c := (0, 0)) (B := fun _ => []) hw))
  obtain ⟨-, e', hk⟩ := (h_cWay (n := 20000) (J := J) (x1 := x1) (x2 := x2) G (by decide)).po _ ho
  obtain ⟨e1, -⟩ := Prod.mk.inj e'
  have rr := t_e_SleepWork_way (lg := c_lg) (d := 36) (c := (0, 0)) (B := fun _ => []) ht ho
  have hJ := tk_J (k_longs (by decide) rr)
  have hA := tk_A (k_bytes (by decide) rr)
  exact ⟨v, F', A', J', t_d_way (d := 38) hw, s.1, ⟨e1.trans (tp.1.trans s.2.1.symm), by rw [show F' 2 = Fm 2 from s.2.1, hA, show A' 1 = Am 1 from h4 1 (by decide)]; exact tp.2⟩, hJ.trans jw, hm.trans jk, hc.tried G ((f_s_cWay (n := 20000) (J := J) (x1 := x1) (x2 := x2) G (by decide)).po _ ho) (KT.of h3 h4 (by decide) (by decide)), congrArg Int32.toInt ev⟩)
theorem w_d_whereE {x1 x2 : Int32} (ht : ∀ ci k, t.1 ci k = k_ty ci k) {v1 : Int32} (W : WE JW JK (fun P F A J => e_SleepWork_where 20000 P F A J x1 x2) v1 H) : kx t 40 228 0 [(0, .ref 40960), (1, .int x1), (2, .int x2)] [] H (fun z => ∃ v H', z = (some (.int v), H') ∧ W4 JW JK H' ∧ v1.toInt = v.toInt) := w_dE (R := fun v1 v => v1.toInt = v.toInt) W (fun {P F A J Fm Am Jm w} ho G S tp jw jk G' hc => by
  obtain ⟨⟨v, F', A', J'⟩, hw, h1, h2, h3, h4, -⟩ := s_d_where (n := 20000) (J := Jm) (x1 := x1) (x2 := x2) S.1 S.2.1 (by decide) S.k0.1 S.k0.2 S.2.2.1 rfl S.2.2.2.2.1
  have s := S.of h1 h2 h3 h4 (by decide) (by decide) (S.rv (h3 18 (by decide)) (h4 19 (by decide)) (h4 22 (by decide)) (h4 47 (by decide))) (S.2.2.2.2.2.1.fr (h3 18 (by decide)) (h3 74 (by decide)) (h4 19 (by decide)) (h4 22 (by decide)) (h4 57 (by decide))) (S.2.2.2.2.2.2.fr (h3 18 (by decide)) (h4 19 (by decide)) (h4 22 (by decide)) (h4 61 (by decide)) (h4 62 (by decide)))
  have ev := p2_where hc G S _ _ ho hw
  have hm := tk_Jm (k_longs (t := t) (lg := c_lg) (d := 40) (by decide) (t_d_where (d := 38) (c := (0, 0)) (B := fun _ => []) hw))
  obtain ⟨-, e', hk⟩ := (h_cWhere (n := 20000) (J := J) (x1 := x1) (x2 := x2) G (by decide)).po _ ho
  obtain ⟨e1, -⟩ := Prod.mk.inj e'
  have rr := t_e_SleepWork_where (lg := c_lg) (d := 36) (c := (0, 0)) (B := fun _ => []) ht ho
  have hJ := tk_J (k_longs (by decide) rr)
  have hA := tk_A (k_bytes (by decide) rr)
  exact ⟨v, F', A', J', t_d_where (d := 38) hw, s.1, ⟨e1.trans (tp.1.trans s.2.1.symm), by rw [show F' 2 = Fm 2 from s.2.1, hA, show A' 1 = Am 1 from h4 1 (by decide)]; exact tp.2⟩, hJ.trans jw, hm.trans jk, hc.tried G ((f_s_cWhere (n := 20000) (J := J) (x1 := x1) (x2 := x2) G (by decide)).po _ ho) (KT.of h3 h4 (by decide) (by decide)), congrArg Int32.toInt ev⟩)
theorem w_d_strokesE {x1 x2 : Int32} (ht : ∀ ci k, t.1 ci k = k_ty ci k) {v1 : Int32} (W : WE JW JK (fun P F A J => e_SleepWork_strokes 20000 P F A J x1 x2) v1 H) : kx t 40 229 0 [(0, .ref 40960), (1, .int x1), (2, .int x2)] [] H (fun z => ∃ v H', z = (some (.int v), H') ∧ W4 JW JK H' ∧ v1.toInt = v.toInt) := w_dE (R := fun v1 v => v1.toInt = v.toInt) W (fun {P F A J Fm Am Jm w} ho G S tp jw jk G' hc => by
  obtain ⟨⟨v, F', A', J'⟩, hw, h1, h2, h3, h4, -⟩ := s_d_strokes (n := 20000) (J := Jm) (x1 := x1) (x2 := x2) S.1 S.2.1 (by decide) S.k0.1 S.k0.2 S.2.2.1 rfl S.2.2.2.2.1
  have s := S.of h1 h2 h3 h4 (by decide) (by decide) (S.rv (h3 18 (by decide)) (h4 19 (by decide)) (h4 22 (by decide)) (h4 47 (by decide))) (S.2.2.2.2.2.1.fr (h3 18 (by decide)) (h3 74 (by decide)) (h4 19 (by decide)) (h4 22 (by decide)) (h4 57 (by decide))) (S.2.2.2.2.2.2.fr (h3 18 (by decide)) (h4 19 (by decide)) (h4 22 (by decide)) (h4 61 (by decide)) (h4 62 (by decide)))
  have ev := p2_strokes hc G S (by decide) _ _ ho hw
  have hm := tk_Jm (k_longs (t := t) (lg := c_lg) (d := 40) (by decide) (t_d_strokes (fun k => ht 12 k) (d := 36) (c := (0, 0)) (B := fun _ => []) hw))
  obtain ⟨-, e', hk⟩ := (h_cStrokes (n := 20000) (J := J) (x1 := x1) (x2 := x2) G (by decide)).po _ ho
  obtain ⟨e1, -⟩ := Prod.mk.inj e'
  have rr := t_e_SleepWork_strokes (lg := c_lg) (d := 34) (c := (0, 0)) (B := fun _ => []) ht ho
  have hJ := tk_J (k_longs (by decide) rr)
  have hA := tk_A (k_bytes (by decide) rr)
  exact ⟨v, F', A', J', t_d_strokes (fun k => ht 12 k) (d := 36) hw, s.1, ⟨e1.trans (tp.1.trans s.2.1.symm), by rw [show F' 2 = Fm 2 from s.2.1, hA, show A' 1 = Am 1 from h4 1 (by decide)]; exact tp.2⟩, hJ.trans jw, hm.trans jk, hc.tried G ((f_s_cStrokes (n := 20000) (J := J) (x1 := x1) (x2 := x2) G (by decide)).po _ ho) (KT.of h3 h4 (by decide) (by decide)), congrArg Int32.toInt ev⟩)
theorem w_d_gainE (ht : ∀ ci k, t.1 ci k = k_ty ci k) {v1 : Int32} (W : WE JW JK (fun P F A J => e_SleepWork_gain 20000 P F A J) v1 H) : kx t 40 216 0 [(0, .ref 40960)] [] H (fun z => ∃ v H', z = (some (.int v), H') ∧ W4 JW JK H' ∧ v1.toInt = v.toInt) := w_dE (R := fun v1 v => v1.toInt = v.toInt) W (fun {P F A J Fm Am Jm w} ho G S tp jw jk G' hc => by
  obtain ⟨⟨v, F', A', J'⟩, hw, h1, h2, h3, h4, -⟩ := s_d_gain (n := 20000) (J := Jm) S.1 S.2.1 (by decide) S.k0.1 S.k0.2 S.2.2.1 rfl S.2.2.2.2.1
  have s := S.of h1 h2 h3 h4 (by decide) (by decide) (S.rv (h3 18 (by decide)) (h4 19 (by decide)) (h4 22 (by decide)) (h4 47 (by decide))) (S.2.2.2.2.2.1.fr (h3 18 (by decide)) (h3 74 (by decide)) (h4 19 (by decide)) (h4 22 (by decide)) (h4 57 (by decide))) (S.2.2.2.2.2.2.fr (h3 18 (by decide)) (h4 19 (by decide)) (h4 22 (by decide)) (h4 61 (by decide)) (h4 62 (by decide)))
  have ev := p2_gain hc G S (by decide) _ _ ho hw
  have hm := tk_Jm (k_longs (t := t) (lg := c_lg) (d := 40) (by decide) (t_d_gain (fun k => ht 12 k) (d := 35) (c := (0, 0)) (B := fun _ => []) hw))
  obtain ⟨-, e', hk⟩ := (h_cGain (n := 20000) (J := J) G (by decide)).po _ ho
  obtain ⟨e1, -⟩ := Prod.mk.inj e'
  have rr := t_e_SleepWork_gain (lg := c_lg) (d := 33) (c := (0, 0)) (B := fun _ => []) ht ho
  have hJ := tk_J (k_longs (by decide) rr)
  have hA := tk_A (k_bytes (by decide) rr)
  exact ⟨v, F', A', J', t_d_gain (fun k => ht 12 k) (d := 35) hw, s.1, ⟨e1.trans (tp.1.trans s.2.1.symm), by rw [show F' 2 = Fm 2 from s.2.1, hA, show A' 1 = Am 1 from h4 1 (by decide)]; exact tp.2⟩, hJ.trans jw, hm.trans jk, hc.tried G ((f_s_cGain (n := 20000) (J := J) G (by decide)).po _ ho) (KT.of h3 h4 (by decide) (by decide)), congrArg Int32.toInt ev⟩)
theorem w_d_suspectsE {x1 : Int32} (ht : ∀ ci k, t.1 ci k = k_ty ci k) {v1 : Int32} (W : WE JW JK (fun P F A J => e_SleepWork_suspects 20000 P F A J x1) v1 H) : kx t 40 235 0 [(0, .ref 40960), (1, .int x1)] [] H (fun z => ∃ v H', z = (some (.int v), H') ∧ W4 JW JK H' ∧ v1.toInt = v.toInt) := w_dE (R := fun v1 v => v1.toInt = v.toInt) W (fun {P F A J Fm Am Jm w} ho G S tp jw jk G' hc => by
  obtain ⟨⟨v, F', A', J'⟩, hw, h1, h2, h3, h4, -⟩ := s_d_suspects (n := 20000) (J := Jm) (x1 := x1) S.1 S.2.1 (by decide) S.k0.1 S.k0.2 S.2.2.1 rfl S.2.2.2.2.1
  have s := S.of h1 h2 h3 h4 (by decide) (by decide) (S.rv (h3 18 (by decide)) (h4 19 (by decide)) (h4 22 (by decide)) (h4 47 (by decide))) (S.2.2.2.2.2.1.fr (h3 18 (by decide)) (h3 74 (by decide)) (h4 19 (by decide)) (h4 22 (by decide)) (h4 57 (by decide))) (S.2.2.2.2.2.2.fr (h3 18 (by decide)) (h4 19 (by decide)) (h4 22 (by decide)) (h4 61 (by decide)) (h4 62 (by decide)))
  have ev := p2_suspects hc G S (by decide) _ _ ho hw
  have hm := tk_Jm (k_longs (t := t) (lg := c_lg) (d := 40) (by decide) (t_d_suspects (fun k => ht 12 k) (d := 33) (c := (0, 0)) (B := fun _ => []) hw))
  obtain ⟨-, e', hk⟩ := (h_cSuspects (n := 20000) (J := J) (x1 := x1) G (by decide)).po _ ho
  obtain ⟨e1, -⟩ := Prod.mk.inj e'
  have rr := t_e_SleepWork_suspects (lg := c_lg) (d := 33) (c := (0, 0)) (B := fun _ => []) ht ho
  have hJ := tk_J (k_longs (by decide) rr)
  have hA := tk_A (k_bytes (by decide) rr)
  exact ⟨v, F', A', J', t_d_suspects (fun k => ht 12 k) (d := 33) hw, s.1, ⟨e1.trans (tp.1.trans s.2.1.symm), by rw [show F' 2 = Fm 2 from s.2.1, hA, show A' 1 = Am 1 from h4 1 (by decide)]; exact tp.2⟩, hJ.trans jw, hm.trans jk, hc.tried G ((f_s_cSuspects (n := 20000) (J := J) (x1 := x1) G (by decide)).po _ ho) (KT.of h3 h4 (by decide) (by decide)), congrArg Int32.toInt ev⟩)
theorem w_d_pairsE {x1 x2 x3 : Int32} (ht : ∀ ci k, t.1 ci k = k_ty ci k) {v1 : Int32} (W : WE JW JK (fun P F A J => e_SleepWork_pairs 20000 P F A J x1 x2 x3) v1 H) : kx t 40 236 0 [(0, .ref 40960), (1, .int x1), (2, .int x2), (3, .int x3)] [] H (fun z => ∃ v H', z = (some (.int v), H') ∧ W4 JW JK H' ∧ v1.toInt = v.toInt) := w_dE (R := fun v1 v => v1.toInt = v.toInt) W (fun {P F A J Fm Am Jm w} ho G S tp jw jk G' hc => by
  obtain ⟨⟨v, F', A', J'⟩, hw, h1, h2, h3, h4, -⟩ := s_d_pairs (n := 20000) (J := Jm) (x1 := x1) (x2 := x2) (x3 := x3) S.1 S.2.1 (by decide) S.k0.1 S.k0.2 S.2.2.1 rfl S.2.2.2.2.1
  have s := S.of h1 h2 h3 h4 (by decide) (by decide) (S.rv (h3 18 (by decide)) (h4 19 (by decide)) (h4 22 (by decide)) (h4 47 (by decide))) (S.2.2.2.2.2.1.fr (h3 18 (by decide)) (h3 74 (by decide)) (h4 19 (by decide)) (h4 22 (by decide)) (h4 57 (by decide))) (S.2.2.2.2.2.2.fr (h3 18 (by decide)) (h4 19 (by decide)) (h4 22 (by decide)) (h4 61 (by decide)) (h4 62 (by decide)))
  have ev := p2_pairs hc G S (by decide) _ _ ho hw
  have hm := tk_Jm (k_longs (t := t) (lg := c_lg) (d := 40) (by decide) (t_d_pairs (fun k => ht 12 k) (d := 34) (c := (0, 0)) (B := fun _ => []) hw))
  obtain ⟨-, e', hk⟩ := (h_cPairs (n := 20000) (J := J) (x1 := x1) (x2 := x2) (x3 := x3) G (by decide)).po _ ho
  obtain ⟨e1, -⟩ := Prod.mk.inj e'
  have rr := t_e_SleepWork_pairs (lg := c_lg) (d := 34) (c := (0, 0)) (B := fun _ => []) ht ho
  have hJ := tk_J (k_longs (by decide) rr)
  have hA := tk_A (k_bytes (by decide) rr)
  exact ⟨v, F', A', J', t_d_pairs (fun k => ht 12 k) (d := 34) hw, s.1, ⟨e1.trans (tp.1.trans s.2.1.symm), by rw [show F' 2 = Fm 2 from s.2.1, hA, show A' 1 = Am 1 from h4 1 (by decide)]; exact tp.2⟩, hJ.trans jw, hm.trans jk, hc.tried G ((f_s_cPairs (n := 20000) (J := J) (x1 := x1) (x2 := x2) (x3 := x3) G (by decide)).po _ ho) (KT.of h3 h4 (by decide) (by decide)), congrArg Int32.toInt ev⟩)
end S9k
end Qz178
section Qz179
/-! the law's code over the invariant (printed by wip/wlaw7.py) -/
section S9l
variable {xs : Nat → Int32} {L : Nat} {JW JK : Nat → Int64} {H : gH} {i : Int32} {Q : Option Value × gH → Prop}
set_option maxRecDepth 100000 in
theorem z_ht (ci k : Nat) : (k_t xs L).1 ci k = k_ty ci k := rfl
theorem kx_sc {d M pc : Nat} {R : List Nat} {loc : List (Nat × Value)} {st : List Value} {h : gH} {j : Int32} (hI : (k_mt M).2 pc = some (.iaload, R)) (h0 : 0 ≤ j.toInt) (h1 : j.toInt < (L : Int)) (k : kx (k_t xs L) d M (pc + 1) loc (.int (xs j.toNatClampNeg) :: st) h Q) : kx (k_t xs L) d M pc loc (.int j :: .float 0 :: st) h Q := by
  refine kxI (fun z hz => k_memS hI rfl rfl rfl ?_ hz) k
  show (if j < 0 ∨ L ≤ j.toNatClampNeg then none else some (.int (xs j.toNatClampNeg) :: st, h)) = _
  rw [if_neg (i_in h0 h1)]
/-- where a case comes to -/
def ZK (JW JK : Nat → Int64) (xs : Nat → Int32) (L : Nat) (i : Int32) (Q : Option Value × gH → Prop) : Prop := ∀ {H : gH}, W4 JW JK H → kx (k_t xs L) 41 271 1138 [(0, .float 0), (1, .ref 0), (2, .ref 40960), (3, .int i)] [] H Q
set_option maxRecDepth 100000 in
theorem z_i {c : Int32} (i0 : 0 ≤ i.toInt) (i6 : i.toInt ≤ 100000) (c0 : 0 ≤ c.toInt) (c1 : c.toInt ≤ 6) : (i + c).toInt = i.toInt + c.toInt := i_add (by omega) (by omega)
set_option maxRecDepth 100000 in
theorem z_0 (hW : WKx JW JK) (W : W4 JW JK H) (i0 : 0 ≤ i.toInt) (i6 : i.toInt + 6 ≤ (L : Int)) (hL : L ≤ 3072) (K : ZK JW JK xs L i Q) : kx (k_t xs L) 41 271 176 [(0, .float 0), (1, .ref 0), (2, .ref 40960), (3, .int i)] [] H Q := by
  have e1 : (i + 1).toInt = i.toInt + 1 := z_i i0 (by omega) (by decide) (by decide)
  have e2 : (i + 2).toInt = i.toInt + 2 := z_i i0 (by omega) (by decide) (by decide)
  have e3 : (i + 3).toInt = i.toInt + 3 := z_i i0 (by omega) (by decide) (by decide)
  have e4 : (i + 4).toInt = i.toInt + 4 := z_i i0 (by omega) (by decide) (by decide)
  have e5 : (i + 5).toInt = i.toInt + 5 := z_i i0 (by omega) (by decide) (by decide)
  refine kxB (pc' := 181) (loc' := [(0, .float 0), (1, .ref 0), (2, .ref 40960), (3, .int i)]) (st' := [.int (i + 1), .float 0, .ref 0]) 5 rfl ?_
  refine kx_sc rfl (by omega) (by omega) ?_
  refine kxB (pc' := 186) (loc' := [(0, .float 0), (1, .ref 0), (2, .ref 40960), (3, .int i)]) (st' := [.int (i + 2), .float 0, .int (xs (i + 1).toNatClampNeg), .ref 0]) 4 rfl ?_
  refine kx_sc rfl (by omega) (by omega) ?_
  refine kxB (pc' := 191) (loc' := [(0, .float 0), (1, .ref 0), (2, .ref 40960), (3, .int i)]) (st' := [.int (i + 3), .float 0, .int (xs (i + 2).toNatClampNeg), .int (xs (i + 1).toNatClampNeg), .ref 0]) 4 rfl ?_
  refine kx_sc rfl (by omega) (by omega) ?_
  refine kxB (pc' := 196) (loc' := [(0, .float 0), (1, .ref 0), (2, .ref 40960), (3, .int i)]) (st' := [.int (i + 4), .float 0, .int (xs (i + 3).toNatClampNeg), .int (xs (i + 2).toNatClampNeg), .int (xs (i + 1).toNatClampNeg), .ref 0]) 4 rfl ?_
  refine kx_sc rfl (by omega) (by omega) ?_
  refine kxB (pc' := 201) (loc' := [(0, .float 0), (1, .ref 0), (2, .ref 40960), (3, .int i)]) (st' := [.int (i + 5), .float 0, .int (xs (i + 4).toNatClampNeg), .int (xs (i + 3).toNatClampNeg), .int (xs (i + 2).toNatClampNeg), .int (xs (i + 1).toNatClampNeg), .ref 0]) 4 rfl ?_
  refine kx_sc rfl (by omega) (by omega) ?_
  obtain ⟨fs, g0⟩ := W.g0
  refine kxV rfl rfl rfl g0 rfl rfl (w_c_feed z_ht W) ?_
  rintro w h1 ⟨v1, H1, e, W1⟩
  cases e
  refine kxB (pc' := 211) (loc' := [(0, .float 0), (1, .ref 0), (2, .ref 40960), (3, .int i)]) (st' := [.int (i + 1), .float 0, .ref 40960]) 6 rfl ?_
  refine kx_sc rfl (by omega) (by omega) ?_
  refine kxB (pc' := 216) (loc' := [(0, .float 0), (1, .ref 0), (2, .ref 40960), (3, .int i)]) (st' := [.int (i + 2), .float 0, .int (xs (i + 1).toNatClampNeg), .ref 40960]) 4 rfl ?_
  refine kx_sc rfl (by omega) (by omega) ?_
  refine kxB (pc' := 221) (loc' := [(0, .float 0), (1, .ref 0), (2, .ref 40960), (3, .int i)]) (st' := [.int (i + 3), .float 0, .int (xs (i + 2).toNatClampNeg), .int (xs (i + 1).toNatClampNeg), .ref 40960]) 4 rfl ?_
  refine kx_sc rfl (by omega) (by omega) ?_
  refine kxB (pc' := 226) (loc' := [(0, .float 0), (1, .ref 0), (2, .ref 40960), (3, .int i)]) (st' := [.int (i + 4), .float 0, .int (xs (i + 3).toNatClampNeg), .int (xs (i + 2).toNatClampNeg), .int (xs (i + 1).toNatClampNeg), .ref 40960]) 4 rfl ?_
  refine kx_sc rfl (by omega) (by omega) ?_
  refine kxB (pc' := 231) (loc' := [(0, .float 0), (1, .ref 0), (2, .ref 40960), (3, .int i)]) (st' := [.int (i + 5), .float 0, .int (xs (i + 4).toNatClampNeg), .int (xs (i + 3).toNatClampNeg), .int (xs (i + 2).toNatClampNeg), .int (xs (i + 1).toNatClampNeg), .ref 40960]) 4 rfl ?_
  refine kx_sc rfl (by omega) (by omega) ?_
  obtain ⟨fs1, g1⟩ := W1.g1
  refine kxV rfl rfl rfl g1 rfl rfl (w_d_feed z_ht W1) ?_
  rintro w h1 ⟨v2, H2, e, W2, q2⟩
  cases e
  refine kxB (pc' := 1138) (loc' := [(0, .float 0), (1, .ref 0), (2, .ref 40960), (3, .int i)]) (st' := []) 2 rfl ?_
  exact K W2
set_option maxRecDepth 100000 in
theorem z_1 (hW : WKx JW JK) (W : W4 JW JK H) (i0 : 0 ≤ i.toInt) (i6 : i.toInt + 6 ≤ (L : Int)) (hL : L ≤ 3072) (K : ZK JW JK xs L i Q) : kx (k_t xs L) 41 271 239 [(0, .float 0), (1, .ref 0), (2, .ref 40960), (3, .int i)] [] H Q := by
  have e1 : (i + 1).toInt = i.toInt + 1 := z_i i0 (by omega) (by decide) (by decide)
  refine kxB (pc' := 244) (loc' := [(0, .float 0), (1, .ref 0), (2, .ref 40960), (3, .int i)]) (st' := [.int (i + 1), .float 0, .ref 0]) 5 rfl ?_
  refine kx_sc rfl (by omega) (by omega) ?_
  obtain ⟨fs, g0⟩ := W.g0
  refine kxV rfl rfl rfl g0 rfl rfl (w_c_back z_ht W) ?_
  rintro w h1 ⟨v1, H1, e, W1⟩
  cases e
  refine kxB (pc' := 254) (loc' := [(0, .float 0), (1, .ref 0), (2, .ref 40960), (3, .int i)]) (st' := [.int (i + 1), .float 0, .ref 40960]) 6 rfl ?_
  refine kx_sc rfl (by omega) (by omega) ?_
  obtain ⟨fs1, g1⟩ := W1.g1
  refine kxV rfl rfl rfl g1 rfl rfl (w_d_back z_ht W1) ?_
  rintro w h1 ⟨v2, H2, e, W2, q2⟩
  cases e
  refine kxB (pc' := 1138) (loc' := [(0, .float 0), (1, .ref 0), (2, .ref 40960), (3, .int i)]) (st' := []) 2 rfl ?_
  exact K W2
set_option maxRecDepth 100000 in
theorem z_2 (hW : WKx JW JK) (W : W4 JW JK H) (i0 : 0 ≤ i.toInt) (i6 : i.toInt + 6 ≤ (L : Int)) (hL : L ≤ 3072) (K : ZK JW JK xs L i Q) : kx (k_t xs L) 41 271 262 [(0, .float 0), (1, .ref 0), (2, .ref 40960), (3, .int i)] [] H Q := by
  refine kxB (pc' := 263) (loc' := [(0, .float 0), (1, .ref 0), (2, .ref 40960), (3, .int i)]) (st' := [.ref 0]) 1 rfl ?_
  obtain ⟨fs, g0⟩ := W.g0
  refine kxV rfl rfl rfl g0 rfl rfl (w_c_read z_ht W) ?_
  rintro w h1 ⟨v1, H1, e, W1⟩
  cases e
  refine kxB (pc' := 268) (loc' := [(0, .float 0), (1, .ref 0), (2, .ref 40960), (3, .int i)]) (st' := [.ref 40960]) 2 rfl ?_
  obtain ⟨fs1, g1⟩ := W1.g1
  refine kxV rfl rfl rfl g1 rfl rfl (w_d_read hW z_ht W1) ?_
  rintro w h1 ⟨v2, H2, e, W2, q2⟩
  cases e
  refine kxB (pc' := 1138) (loc' := [(0, .float 0), (1, .ref 0), (2, .ref 40960), (3, .int i)]) (st' := []) 2 rfl ?_
  exact K W2
set_option maxRecDepth 100000 in
theorem z_3 (hW : WKx JW JK) (W : W4 JW JK H) (i0 : 0 ≤ i.toInt) (i6 : i.toInt + 6 ≤ (L : Int)) (hL : L ≤ 3072) (K : ZK JW JK xs L i Q) : kx (k_t xs L) 41 271 275 [(0, .float 0), (1, .ref 0), (2, .ref 40960), (3, .int i)] [] H Q := by
  refine kxB (pc' := 276) (loc' := [(0, .float 0), (1, .ref 0), (2, .ref 40960), (3, .int i)]) (st' := [.ref 0]) 1 rfl ?_
  obtain ⟨fs, g0⟩ := W.g0
  refine kxV rfl rfl rfl g0 rfl rfl (w_c_place z_ht W) ?_
  rintro w h1 ⟨v1, H1, e, W1⟩
  cases e
  refine kxB (pc' := 281) (loc' := [(0, .float 0), (1, .ref 0), (2, .ref 40960), (3, .int i)]) (st' := [.ref 40960]) 2 rfl ?_
  obtain ⟨fs1, g1⟩ := W1.g1
  refine kxV rfl rfl rfl g1 rfl rfl (w_d_place z_ht W1) ?_
  rintro w h1 ⟨v2, H2, e, W2⟩
  cases e
  refine kxB (pc' := 1138) (loc' := [(0, .float 0), (1, .ref 0), (2, .ref 40960), (3, .int i)]) (st' := []) 2 rfl ?_
  exact K W2
set_option maxRecDepth 100000 in
theorem z_4 (hW : WKx JW JK) (W : W4 JW JK H) (i0 : 0 ≤ i.toInt) (i6 : i.toInt + 6 ≤ (L : Int)) (hL : L ≤ 3072) (K : ZK JW JK xs L i Q) : kx (k_t xs L) 41 271 288 [(0, .float 0), (1, .ref 0), (2, .ref 40960), (3, .int i)] [] H Q := by
  have e1 : (i + 1).toInt = i.toInt + 1 := z_i i0 (by omega) (by decide) (by decide)
  have e2 : (i + 2).toInt = i.toInt + 2 := z_i i0 (by omega) (by decide) (by decide)
  refine kxB (pc' := 293) (loc' := [(0, .float 0), (1, .ref 0), (2, .ref 40960), (3, .int i)]) (st' := [.int (i + 1), .float 0, .ref 0]) 5 rfl ?_
  refine kx_sc rfl (by omega) (by omega) ?_
  refine kxB (pc' := 298) (loc' := [(0, .float 0), (1, .ref 0), (2, .ref 40960), (3, .int i)]) (st' := [.int (i + 2), .float 0, .int (xs (i + 1).toNatClampNeg), .ref 0]) 4 rfl ?_
  refine kx_sc rfl (by omega) (by omega) ?_
  obtain ⟨fs, g0⟩ := W.g0
  refine kxV rfl rfl rfl g0 rfl rfl (w_c_task z_ht W) ?_
  rintro w h1 ⟨v1, H1, e, W1⟩
  cases e
  refine kxB (pc' := 308) (loc' := [(0, .float 0), (1, .ref 0), (2, .ref 40960), (3, .int i)]) (st' := [.int (i + 1), .float 0, .ref 40960]) 6 rfl ?_
  refine kx_sc rfl (by omega) (by omega) ?_
  refine kxB (pc' := 313) (loc' := [(0, .float 0), (1, .ref 0), (2, .ref 40960), (3, .int i)]) (st' := [.int (i + 2), .float 0, .int (xs (i + 1).toNatClampNeg), .ref 40960]) 4 rfl ?_
  refine kx_sc rfl (by omega) (by omega) ?_
  obtain ⟨fs1, g1⟩ := W1.g1
  refine kxV rfl rfl rfl g1 rfl rfl (w_d_task z_ht W1) ?_
  rintro w h1 ⟨v2, H2, e, W2⟩
  cases e
  refine kxB (pc' := 1138) (loc' := [(0, .float 0), (1, .ref 0), (2, .ref 40960), (3, .int i)]) (st' := []) 2 rfl ?_
  exact K W2
set_option maxRecDepth 100000 in
theorem z_5 (hW : WKx JW JK) (W : W4 JW JK H) (i0 : 0 ≤ i.toInt) (i6 : i.toInt + 6 ≤ (L : Int)) (hL : L ≤ 3072) (K : ZK JW JK xs L i Q) : kx (k_t xs L) 41 271 321 [(0, .float 0), (1, .ref 0), (2, .ref 40960), (3, .int i)] [] H Q := by
  have e1 : (i + 1).toInt = i.toInt + 1 := z_i i0 (by omega) (by decide) (by decide)
  have e2 : (i + 2).toInt = i.toInt + 2 := z_i i0 (by omega) (by decide) (by decide)
  have e3 : (i + 3).toInt = i.toInt + 3 := z_i i0 (by omega) (by decide) (by decide)
  refine kxB (pc' := 326) (loc' := [(0, .float 0), (1, .ref 0), (2, .ref 40960), (3, .int i)]) (st' := [.int (i + 1), .float 0, .ref 0]) 5 rfl ?_
  refine kx_sc rfl (by omega) (by omega) ?_
  refine kxB (pc' := 331) (loc' := [(0, .float 0), (1, .ref 0), (2, .ref 40960), (3, .int i)]) (st' := [.int (i + 2), .float 0, .int (xs (i + 1).toNatClampNeg), .ref 0]) 4 rfl ?_
  refine kx_sc rfl (by omega) (by omega) ?_
  refine kxB (pc' := 336) (loc' := [(0, .float 0), (1, .ref 0), (2, .ref 40960), (3, .int i)]) (st' := [.int (i + 3), .float 0, .int (xs (i + 2).toNatClampNeg), .int (xs (i + 1).toNatClampNeg), .ref 0]) 4 rfl ?_
  refine kx_sc rfl (by omega) (by omega) ?_
  obtain ⟨fs, g0⟩ := W.g0
  refine kxV rfl rfl rfl g0 rfl rfl (w_c_step z_ht W) ?_
  rintro w h1 ⟨v1, H1, e, W1⟩
  cases e
  refine kxB (pc' := 346) (loc' := [(0, .float 0), (1, .ref 0), (2, .ref 40960), (3, .int i)]) (st' := [.int (i + 1), .float 0, .ref 40960]) 6 rfl ?_
  refine kx_sc rfl (by omega) (by omega) ?_
  refine kxB (pc' := 351) (loc' := [(0, .float 0), (1, .ref 0), (2, .ref 40960), (3, .int i)]) (st' := [.int (i + 2), .float 0, .int (xs (i + 1).toNatClampNeg), .ref 40960]) 4 rfl ?_
  refine kx_sc rfl (by omega) (by omega) ?_
  refine kxB (pc' := 356) (loc' := [(0, .float 0), (1, .ref 0), (2, .ref 40960), (3, .int i)]) (st' := [.int (i + 3), .float 0, .int (xs (i + 2).toNatClampNeg), .int (xs (i + 1).toNatClampNeg), .ref 40960]) 4 rfl ?_
  refine kx_sc rfl (by omega) (by omega) ?_
  obtain ⟨fs1, g1⟩ := W1.g1
  refine kxV rfl rfl rfl g1 rfl rfl (w_d_step z_ht W1) ?_
  rintro w h1 ⟨v2, H2, e, W2⟩
  cases e
  refine kxB (pc' := 1138) (loc' := [(0, .float 0), (1, .ref 0), (2, .ref 40960), (3, .int i)]) (st' := []) 2 rfl ?_
  exact K W2
set_option maxRecDepth 100000 in
theorem z_6 (hW : WKx JW JK) (W : W4 JW JK H) (i0 : 0 ≤ i.toInt) (i6 : i.toInt + 6 ≤ (L : Int)) (hL : L ≤ 3072) (K : ZK JW JK xs L i Q) : kx (k_t xs L) 41 271 364 [(0, .float 0), (1, .ref 0), (2, .ref 40960), (3, .int i)] [] H Q := by
  have e1 : (i + 1).toInt = i.toInt + 1 := z_i i0 (by omega) (by decide) (by decide)
  have e2 : (i + 2).toInt = i.toInt + 2 := z_i i0 (by omega) (by decide) (by decide)
  refine kxB (pc' := 369) (loc' := [(0, .float 0), (1, .ref 0), (2, .ref 40960), (3, .int i)]) (st' := [.int (i + 1), .float 0, .ref 0]) 5 rfl ?_
  refine kx_sc rfl (by omega) (by omega) ?_
  refine kxB (pc' := 374) (loc' := [(0, .float 0), (1, .ref 0), (2, .ref 40960), (3, .int i)]) (st' := [.int (i + 2), .float 0, .int (xs (i + 1).toNatClampNeg), .ref 0]) 4 rfl ?_
  refine kx_sc rfl (by omega) (by omega) ?_
  obtain ⟨fs, g0⟩ := W.g0
  refine kxV rfl rfl rfl g0 rfl rfl (w_c_man z_ht W) ?_
  rintro w h1 ⟨v1, H1, e, W1⟩
  cases e
  refine kxB (pc' := 384) (loc' := [(0, .float 0), (1, .ref 0), (2, .ref 40960), (3, .int i)]) (st' := [.int (i + 1), .float 0, .ref 40960]) 6 rfl ?_
  refine kx_sc rfl (by omega) (by omega) ?_
  refine kxB (pc' := 389) (loc' := [(0, .float 0), (1, .ref 0), (2, .ref 40960), (3, .int i)]) (st' := [.int (i + 2), .float 0, .int (xs (i + 1).toNatClampNeg), .ref 40960]) 4 rfl ?_
  refine kx_sc rfl (by omega) (by omega) ?_
  obtain ⟨fs1, g1⟩ := W1.g1
  refine kxV rfl rfl rfl g1 rfl rfl (w_d_man z_ht W1) ?_
  rintro w h1 ⟨v2, H2, e, W2⟩
  cases e
  refine kxB (pc' := 1138) (loc' := [(0, .float 0), (1, .ref 0), (2, .ref 40960), (3, .int i)]) (st' := []) 2 rfl ?_
  exact K W2
set_option maxRecDepth 100000 in
theorem z_7 (hW : WKx JW JK) (W : W4 JW JK H) (i0 : 0 ≤ i.toInt) (i6 : i.toInt + 6 ≤ (L : Int)) (hL : L ≤ 3072) (K : ZK JW JK xs L i Q) : kx (k_t xs L) 41 271 397 [(0, .float 0), (1, .ref 0), (2, .ref 40960), (3, .int i)] [] H Q := by
  have e1 : (i + 1).toInt = i.toInt + 1 := z_i i0 (by omega) (by decide) (by decide)
  refine kxB (pc' := 402) (loc' := [(0, .float 0), (1, .ref 0), (2, .ref 40960), (3, .int i)]) (st' := [.int (i + 1), .float 0, .ref 0]) 5 rfl ?_
  refine kx_sc rfl (by omega) (by omega) ?_
  obtain ⟨fs, g0⟩ := W.g0
  refine kxV rfl rfl rfl g0 rfl rfl (w_c_tool z_ht W) ?_
  rintro w h1 ⟨v1, H1, e, W1⟩
  cases e
  refine kxB (pc' := 412) (loc' := [(0, .float 0), (1, .ref 0), (2, .ref 40960), (3, .int i)]) (st' := [.int (i + 1), .float 0, .ref 40960]) 6 rfl ?_
  refine kx_sc rfl (by omega) (by omega) ?_
  obtain ⟨fs1, g1⟩ := W1.g1
  refine kxV rfl rfl rfl g1 rfl rfl (w_d_tool z_ht W1) ?_
  rintro w h1 ⟨v2, H2, e, W2⟩
  cases e
  refine kxB (pc' := 1138) (loc' := [(0, .float 0), (1, .ref 0), (2, .ref 40960), (3, .int i)]) (st' := []) 2 rfl ?_
  exact K W2
set_option maxRecDepth 100000 in
theorem z_8 (hW : WKx JW JK) (W : W4 JW JK H) (i0 : 0 ≤ i.toInt) (i6 : i.toInt + 6 ≤ (L : Int)) (hL : L ≤ 3072) (K : ZK JW JK xs L i Q) : kx (k_t xs L) 41 271 420 [(0, .float 0), (1, .ref 0), (2, .ref 40960), (3, .int i)] [] H Q := by
  have e1 : (i + 1).toInt = i.toInt + 1 := z_i i0 (by omega) (by decide) (by decide)
  have e2 : (i + 2).toInt = i.toInt + 2 := z_i i0 (by omega) (by decide) (by decide)
  refine kxB (pc' := 425) (loc' := [(0, .float 0), (1, .ref 0), (2, .ref 40960), (3, .int i)]) (st' := [.int (i + 1), .float 0, .ref 0]) 5 rfl ?_
  refine kx_sc rfl (by omega) (by omega) ?_
  refine kxB (pc' := 430) (loc' := [(0, .float 0), (1, .ref 0), (2, .ref 40960), (3, .int i)]) (st' := [.int (i + 2), .float 0, .int (xs (i + 1).toNatClampNeg), .ref 0]) 4 rfl ?_
  refine kx_sc rfl (by omega) (by omega) ?_
  obtain ⟨fs, g0⟩ := W.g0
  refine kxV rfl rfl rfl g0 rfl rfl (w_c_way z_ht W) ?_
  rintro w h1 ⟨v1, H1, e, W1⟩
  cases e
  refine kxB (pc' := 440) (loc' := [(0, .float 0), (1, .ref 0), (2, .ref 40960), (3, .int i)]) (st' := [.int (i + 1), .float 0, .ref 40960]) 6 rfl ?_
  refine kx_sc rfl (by omega) (by omega) ?_
  refine kxB (pc' := 445) (loc' := [(0, .float 0), (1, .ref 0), (2, .ref 40960), (3, .int i)]) (st' := [.int (i + 2), .float 0, .int (xs (i + 1).toNatClampNeg), .ref 40960]) 4 rfl ?_
  refine kx_sc rfl (by omega) (by omega) ?_
  obtain ⟨fs1, g1⟩ := W1.g1
  refine kxV rfl rfl rfl g1 rfl rfl (w_d_way z_ht W1) ?_
  rintro w h1 ⟨v2, H2, e, W2⟩
  cases e
  refine kxB (pc' := 1138) (loc' := [(0, .float 0), (1, .ref 0), (2, .ref 40960), (3, .int i)]) (st' := []) 2 rfl ?_
  exact K W2
set_option maxRecDepth 100000 in
theorem z_9 (hW : WKx JW JK) (W : W4 JW JK H) (i0 : 0 ≤ i.toInt) (i6 : i.toInt + 6 ≤ (L : Int)) (hL : L ≤ 3072) (K : ZK JW JK xs L i Q) : kx (k_t xs L) 41 271 453 [(0, .float 0), (1, .ref 0), (2, .ref 40960), (3, .int i)] [] H Q := by
  have e1 : (i + 1).toInt = i.toInt + 1 := z_i i0 (by omega) (by decide) (by decide)
  have e2 : (i + 2).toInt = i.toInt + 2 := z_i i0 (by omega) (by decide) (by decide)
  have e3 : (i + 3).toInt = i.toInt + 3 := z_i i0 (by omega) (by decide) (by decide)
  refine kxB (pc' := 458) (loc' := [(0, .float 0), (1, .ref 0), (2, .ref 40960), (3, .int i)]) (st' := [.int (i + 1), .float 0, .ref 0]) 5 rfl ?_
  refine kx_sc rfl (by omega) (by omega) ?_
  refine kxB (pc' := 463) (loc' := [(0, .float 0), (1, .ref 0), (2, .ref 40960), (3, .int i)]) (st' := [.int (i + 2), .float 0, .int (xs (i + 1).toNatClampNeg), .ref 0]) 4 rfl ?_
  refine kx_sc rfl (by omega) (by omega) ?_
  refine kxB (pc' := 468) (loc' := [(0, .float 0), (1, .ref 0), (2, .ref 40960), (3, .int i)]) (st' := [.int (i + 3), .float 0, .int (xs (i + 2).toNatClampNeg), .int (xs (i + 1).toNatClampNeg), .ref 0]) 4 rfl ?_
  refine kx_sc rfl (by omega) (by omega) ?_
  obtain ⟨fs, g0⟩ := W.g0
  refine kxV rfl rfl rfl g0 rfl rfl (w_c_leaveE z_ht W) ?_
  rintro w h1 ⟨v1, H1, e, W1⟩
  cases e
  refine kxB (pc' := 478) (loc' := [(0, .float 0), (1, .ref 0), (2, .ref 40960), (3, .int i)]) (st' := [.int (i + 1), .float 0, .ref 40960]) 6 rfl ?_
  refine kx_sc rfl (by omega) (by omega) ?_
  refine kxB (pc' := 483) (loc' := [(0, .float 0), (1, .ref 0), (2, .ref 40960), (3, .int i)]) (st' := [.int (i + 2), .float 0, .int (xs (i + 1).toNatClampNeg), .ref 40960]) 4 rfl ?_
  refine kx_sc rfl (by omega) (by omega) ?_
  refine kxB (pc' := 488) (loc' := [(0, .float 0), (1, .ref 0), (2, .ref 40960), (3, .int i)]) (st' := [.int (i + 3), .float 0, .int (xs (i + 2).toNatClampNeg), .int (xs (i + 1).toNatClampNeg), .ref 40960]) 4 rfl ?_
  refine kx_sc rfl (by omega) (by omega) ?_
  obtain ⟨fs1, g1⟩ := W1.g1
  refine kxV rfl rfl rfl g1 rfl rfl (w_d_leaveE z_ht W1) ?_
  rintro w h1 ⟨v2, H2, e, W2, q2⟩
  cases e
  refine kxB (pc' := 1138) (loc' := [(0, .float 0), (1, .ref 0), (2, .ref 40960), (3, .int i)]) (st' := []) 2 rfl ?_
  exact K W2
set_option maxRecDepth 100000 in
theorem z_10 (hW : WKx JW JK) (W : W4 JW JK H) (i0 : 0 ≤ i.toInt) (i6 : i.toInt + 6 ≤ (L : Int)) (hL : L ≤ 3072) (K : ZK JW JK xs L i Q) : kx (k_t xs L) 41 271 496 [(0, .float 0), (1, .ref 0), (2, .ref 40960), (3, .int i)] [] H Q := by
  have e1 : (i + 1).toInt = i.toInt + 1 := z_i i0 (by omega) (by decide) (by decide)
  have e2 : (i + 2).toInt = i.toInt + 2 := z_i i0 (by omega) (by decide) (by decide)
  refine kxB (pc' := 501) (loc' := [(0, .float 0), (1, .ref 0), (2, .ref 40960), (3, .int i)]) (st' := [.int (i + 1), .float 0, .ref 0]) 5 rfl ?_
  refine kx_sc rfl (by omega) (by omega) ?_
  refine kxB (pc' := 506) (loc' := [(0, .float 0), (1, .ref 0), (2, .ref 40960), (3, .int i)]) (st' := [.int (i + 2), .float 0, .int (xs (i + 1).toNatClampNeg), .ref 0]) 4 rfl ?_
  refine kx_sc rfl (by omega) (by omega) ?_
  obtain ⟨fs, g0⟩ := W.g0
  refine kxV rfl rfl rfl g0 rfl rfl (w_c_workE z_ht W) ?_
  rintro w h1 ⟨v1, H1, e, W1⟩
  cases e
  refine kxB (pc' := 515) (loc' := [(0, .float 0), (1, .ref 0), (2, .ref 40960), (3, .int i)]) (st' := [.int (i + 1), .float 0, .ref 40960, .int v1]) 5 rfl ?_
  refine kx_sc rfl (by omega) (by omega) ?_
  refine kxB (pc' := 520) (loc' := [(0, .float 0), (1, .ref 0), (2, .ref 40960), (3, .int i)]) (st' := [.int (i + 2), .float 0, .int (xs (i + 1).toNatClampNeg), .ref 40960, .int v1]) 4 rfl ?_
  refine kx_sc rfl (by omega) (by omega) ?_
  obtain ⟨fs1, g1⟩ := W1.g1
  refine kxV rfl rfl rfl g1 rfl rfl (w_d_workE z_ht W1) ?_
  rintro w h1 ⟨v2, H2, e, W2, q2⟩
  cases e
  refine kxic rfl (fun _ => K W2) (fun hc => ?_)
  rw [i_neq] at hc
  exact absurd q2 hc
set_option maxRecDepth 100000 in
theorem z_11 (hW : WKx JW JK) (W : W4 JW JK H) (i0 : 0 ≤ i.toInt) (i6 : i.toInt + 6 ≤ (L : Int)) (hL : L ≤ 3072) (K : ZK JW JK xs L i Q) : kx (k_t xs L) 41 271 529 [(0, .float 0), (1, .ref 0), (2, .ref 40960), (3, .int i)] [] H Q := by
  have e1 : (i + 1).toInt = i.toInt + 1 := z_i i0 (by omega) (by decide) (by decide)
  have e2 : (i + 2).toInt = i.toInt + 2 := z_i i0 (by omega) (by decide) (by decide)
  refine kxB (pc' := 534) (loc' := [(0, .float 0), (1, .ref 0), (2, .ref 40960), (3, .int i)]) (st' := [.int (i + 1), .float 0, .ref 0]) 5 rfl ?_
  refine kx_sc rfl (by omega) (by omega) ?_
  refine kxB (pc' := 539) (loc' := [(0, .float 0), (1, .ref 0), (2, .ref 40960), (3, .int i)]) (st' := [.int (i + 2), .float 0, .int (xs (i + 1).toNatClampNeg), .ref 0]) 4 rfl ?_
  refine kx_sc rfl (by omega) (by omega) ?_
  obtain ⟨fs, g0⟩ := W.g0
  refine kxV rfl rfl rfl g0 rfl rfl (w_c_layE z_ht W) ?_
  rintro w h1 ⟨v1, H1, e, W1⟩
  cases e
  refine kxB (pc' := 549) (loc' := [(0, .float 0), (1, .ref 0), (2, .ref 40960), (3, .int i)]) (st' := [.int (i + 1), .float 0, .ref 40960]) 6 rfl ?_
  refine kx_sc rfl (by omega) (by omega) ?_
  refine kxB (pc' := 554) (loc' := [(0, .float 0), (1, .ref 0), (2, .ref 40960), (3, .int i)]) (st' := [.int (i + 2), .float 0, .int (xs (i + 1).toNatClampNeg), .ref 40960]) 4 rfl ?_
  refine kx_sc rfl (by omega) (by omega) ?_
  obtain ⟨fs1, g1⟩ := W1.g1
  refine kxV rfl rfl rfl g1 rfl rfl (w_d_layE z_ht W1) ?_
  rintro w h1 ⟨v2, H2, e, W2, q2⟩
  cases e
  refine kxB (pc' := 1138) (loc' := [(0, .float 0), (1, .ref 0), (2, .ref 40960), (3, .int i)]) (st' := []) 2 rfl ?_
  exact K W2
set_option maxRecDepth 100000 in
theorem z_12 (hW : WKx JW JK) (W : W4 JW JK H) (i0 : 0 ≤ i.toInt) (i6 : i.toInt + 6 ≤ (L : Int)) (hL : L ≤ 3072) (K : ZK JW JK xs L i Q) : kx (k_t xs L) 41 271 562 [(0, .float 0), (1, .ref 0), (2, .ref 40960), (3, .int i)] [] H Q := by
  have e1 : (i + 1).toInt = i.toInt + 1 := z_i i0 (by omega) (by decide) (by decide)
  have e2 : (i + 2).toInt = i.toInt + 2 := z_i i0 (by omega) (by decide) (by decide)
  refine kxB (pc' := 567) (loc' := [(0, .float 0), (1, .ref 0), (2, .ref 40960), (3, .int i)]) (st' := [.int (i + 1), .float 0, .ref 0]) 5 rfl ?_
  refine kx_sc rfl (by omega) (by omega) ?_
  refine kxB (pc' := 572) (loc' := [(0, .float 0), (1, .ref 0), (2, .ref 40960), (3, .int i)]) (st' := [.int (i + 2), .float 0, .int (xs (i + 1).toNatClampNeg), .ref 0]) 4 rfl ?_
  refine kx_sc rfl (by omega) (by omega) ?_
  obtain ⟨fs, g0⟩ := W.g0
  refine kxV rfl rfl rfl g0 rfl rfl (w_c_giveE z_ht W) ?_
  rintro w h1 ⟨v1, H1, e, W1⟩
  cases e
  refine kxB (pc' := 582) (loc' := [(0, .float 0), (1, .ref 0), (2, .ref 40960), (3, .int i)]) (st' := [.int (i + 1), .float 0, .ref 40960]) 6 rfl ?_
  refine kx_sc rfl (by omega) (by omega) ?_
  refine kxB (pc' := 587) (loc' := [(0, .float 0), (1, .ref 0), (2, .ref 40960), (3, .int i)]) (st' := [.int (i + 2), .float 0, .int (xs (i + 1).toNatClampNeg), .ref 40960]) 4 rfl ?_
  refine kx_sc rfl (by omega) (by omega) ?_
  obtain ⟨fs1, g1⟩ := W1.g1
  refine kxV rfl rfl rfl g1 rfl rfl (w_d_giveE z_ht W1) ?_
  rintro w h1 ⟨v2, H2, e, W2, q2⟩
  cases e
  refine kxB (pc' := 1138) (loc' := [(0, .float 0), (1, .ref 0), (2, .ref 40960), (3, .int i)]) (st' := []) 2 rfl ?_
  exact K W2
set_option maxRecDepth 100000 in
theorem z_13t {v1 : Int32} (W : WE JW JK (fun P F A J => e_SleepWork_bar P F A J (xs (i + 1).toNatClampNeg) 0) v1 H) (hb : g_cnd .eq (xs (i + 2).toNatClampNeg) 0 = true) (i0 : 0 ≤ i.toInt) (i6 : i.toInt + 6 ≤ (L : Int)) (hL : L ≤ 3072) (K : ZK JW JK xs L i Q) : kx (k_t xs L) 41 271 617 [(0, .float 0), (1, .ref 0), (2, .ref 40960), (3, .int i)] [.int v1] H Q := by
  have e1 : (i + 1).toInt = i.toInt + 1 := z_i i0 (by omega) (by decide) (by decide)
  have e2 : (i + 2).toInt = i.toInt + 2 := z_i i0 (by omega) (by decide) (by decide)
  refine kxB (pc' := 623) (loc' := [(0, .float 0), (1, .ref 0), (2, .ref 40960), (3, .int i)]) (st' := [.int (i + 1), .float 0, .ref 40960]) 6 rfl ?_
  refine kx_sc rfl (by omega) (by omega) ?_
  refine kxB (pc' := 628) (loc' := [(0, .float 0), (1, .ref 0), (2, .ref 40960), (3, .int i)]) (st' := [.int (i + 2), .float 0, .int (xs (i + 1).toNatClampNeg), .ref 40960]) 4 rfl ?_
  refine kx_sc rfl (by omega) (by omega) ?_
  obtain ⟨fs, g⟩ := W.g1
  refine kxif rfl (fun _ => ?_) (fun c => absurd (c.symm.trans hb) (by decide))
  refine kxB (pc' := 637) (loc' := [(0, .float 0), (1, .ref 0), (2, .ref 40960), (3, .int i)]) (st' := [.int 0, .int (xs (i + 1).toNatClampNeg), .ref 40960]) 1 rfl ?_
  refine kxV rfl rfl rfl g rfl rfl (w_d_barE z_ht W) ?_
  rintro w h1 ⟨v2, H2, e, W2, q2⟩
  cases e
  refine kxB (pc' := 1138) (loc' := [(0, .float 0), (1, .ref 0), (2, .ref 40960), (3, .int i)]) (st' := []) 2 rfl ?_
  exact K W2
set_option maxRecDepth 100000 in
theorem z_13f {v1 : Int32} (W : WE JW JK (fun P F A J => e_SleepWork_bar P F A J (xs (i + 1).toNatClampNeg) 1) v1 H) (hb : g_cnd .eq (xs (i + 2).toNatClampNeg) 0 = false) (i0 : 0 ≤ i.toInt) (i6 : i.toInt + 6 ≤ (L : Int)) (hL : L ≤ 3072) (K : ZK JW JK xs L i Q) : kx (k_t xs L) 41 271 617 [(0, .float 0), (1, .ref 0), (2, .ref 40960), (3, .int i)] [.int v1] H Q := by
  have e1 : (i + 1).toInt = i.toInt + 1 := z_i i0 (by omega) (by decide) (by decide)
  have e2 : (i + 2).toInt = i.toInt + 2 := z_i i0 (by omega) (by decide) (by decide)
  refine kxB (pc' := 623) (loc' := [(0, .float 0), (1, .ref 0), (2, .ref 40960), (3, .int i)]) (st' := [.int (i + 1), .float 0, .ref 40960]) 6 rfl ?_
  refine kx_sc rfl (by omega) (by omega) ?_
  refine kxB (pc' := 628) (loc' := [(0, .float 0), (1, .ref 0), (2, .ref 40960), (3, .int i)]) (st' := [.int (i + 2), .float 0, .int (xs (i + 1).toNatClampNeg), .ref 40960]) 4 rfl ?_
  refine kx_sc rfl (by omega) (by omega) ?_
  obtain ⟨fs, g⟩ := W.g1
  refine kxif rfl (fun c => absurd (c.symm.trans hb) (by decide)) (fun _ => ?_)
  refine kxB (pc' := 637) (loc' := [(0, .float 0), (1, .ref 0), (2, .ref 40960), (3, .int i)]) (st' := [.int 1, .int (xs (i + 1).toNatClampNeg), .ref 40960]) 2 rfl ?_
  refine kxV rfl rfl rfl g rfl rfl (w_d_barE z_ht W) ?_
  rintro w h1 ⟨v2, H2, e, W2, q2⟩
  cases e
  refine kxB (pc' := 1138) (loc' := [(0, .float 0), (1, .ref 0), (2, .ref 40960), (3, .int i)]) (st' := []) 2 rfl ?_
  exact K W2
set_option maxRecDepth 100000 in
theorem z_13 (hW : WKx JW JK) (W : W4 JW JK H) (i0 : 0 ≤ i.toInt) (i6 : i.toInt + 6 ≤ (L : Int)) (hL : L ≤ 3072) (K : ZK JW JK xs L i Q) : kx (k_t xs L) 41 271 595 [(0, .float 0), (1, .ref 0), (2, .ref 40960), (3, .int i)] [] H Q := by
  have e1 : (i + 1).toInt = i.toInt + 1 := z_i i0 (by omega) (by decide) (by decide)
  have e2 : (i + 2).toInt = i.toInt + 2 := z_i i0 (by omega) (by decide) (by decide)
  refine kxB (pc' := 600) (loc' := [(0, .float 0), (1, .ref 0), (2, .ref 40960), (3, .int i)]) (st' := [.int (i + 1), .float 0, .ref 0]) 5 rfl ?_
  refine kx_sc rfl (by omega) (by omega) ?_
  refine kxB (pc' := 605) (loc' := [(0, .float 0), (1, .ref 0), (2, .ref 40960), (3, .int i)]) (st' := [.int (i + 2), .float 0, .int (xs (i + 1).toNatClampNeg), .ref 0]) 4 rfl ?_
  refine kx_sc rfl (by omega) (by omega) ?_
  obtain ⟨fs, g⟩ := W.g0
  refine kxif rfl (fun c => ?_) (fun c => ?_)
  · refine kxB (pc' := 614) (loc' := [(0, .float 0), (1, .ref 0), (2, .ref 40960), (3, .int i)]) (st' := [.int 0, .int (xs (i + 1).toNatClampNeg), .ref 0]) 1 rfl ?_
    refine kxV rfl rfl rfl g rfl rfl (w_c_barE z_ht W) ?_
    rintro w h1 ⟨v1, H1, e, W1⟩
    cases e
    exact z_13t W1 c i0 i6 hL K
  · refine kxB (pc' := 614) (loc' := [(0, .float 0), (1, .ref 0), (2, .ref 40960), (3, .int i)]) (st' := [.int 1, .int (xs (i + 1).toNatClampNeg), .ref 0]) 2 rfl ?_
    refine kxV rfl rfl rfl g rfl rfl (w_c_barE z_ht W) ?_
    rintro w h1 ⟨v1, H1, e, W1⟩
    cases e
    exact z_13f W1 c i0 i6 hL K
set_option maxRecDepth 100000 in
theorem z_14 (hW : WKx JW JK) (W : W4 JW JK H) (i0 : 0 ≤ i.toInt) (i6 : i.toInt + 6 ≤ (L : Int)) (hL : L ≤ 3072) (K : ZK JW JK xs L i Q) : kx (k_t xs L) 41 271 644 [(0, .float 0), (1, .ref 0), (2, .ref 40960), (3, .int i)] [] H Q := by
  refine kxB (pc' := 645) (loc' := [(0, .float 0), (1, .ref 0), (2, .ref 40960), (3, .int i)]) (st' := [.ref 0]) 1 rfl ?_
  obtain ⟨fs, g0⟩ := W.g0
  refine kxV rfl rfl rfl g0 rfl rfl (w_c_nightE z_ht W) ?_
  rintro w h1 ⟨v1, H1, e, W1⟩
  cases e
  refine kxB (pc' := 650) (loc' := [(0, .float 0), (1, .ref 0), (2, .ref 40960), (3, .int i)]) (st' := [.ref 40960]) 2 rfl ?_
  obtain ⟨fs1, g1⟩ := W1.g1
  refine kxV rfl rfl rfl g1 rfl rfl (w_d_nightE z_ht W1) ?_
  rintro w h1 ⟨v2, H2, e, W2, q2⟩
  cases e
  refine kxB (pc' := 1138) (loc' := [(0, .float 0), (1, .ref 0), (2, .ref 40960), (3, .int i)]) (st' := []) 2 rfl ?_
  exact K W2
set_option maxRecDepth 100000 in
theorem z_15 (hW : WKx JW JK) (W : W4 JW JK H) (i0 : 0 ≤ i.toInt) (i6 : i.toInt + 6 ≤ (L : Int)) (hL : L ≤ 3072) (K : ZK JW JK xs L i Q) : kx (k_t xs L) 41 271 657 [(0, .float 0), (1, .ref 0), (2, .ref 40960), (3, .int i)] [] H Q := by
  refine kxB (pc' := 658) (loc' := [(0, .float 0), (1, .ref 0), (2, .ref 40960), (3, .int i)]) (st' := [.ref 0]) 1 rfl ?_
  obtain ⟨fs, g0⟩ := W.g0
  refine kxV rfl rfl rfl g0 rfl rfl (w_c_undoE z_ht W) ?_
  rintro w h1 ⟨v1, H1, e, W1⟩
  cases e
  refine kxB (pc' := 663) (loc' := [(0, .float 0), (1, .ref 0), (2, .ref 40960), (3, .int i)]) (st' := [.ref 40960]) 2 rfl ?_
  obtain ⟨fs1, g1⟩ := W1.g1
  refine kxV rfl rfl rfl g1 rfl rfl (w_d_undoE z_ht W1) ?_
  rintro w h1 ⟨v2, H2, e, W2, q2⟩
  cases e
  refine kxB (pc' := 1138) (loc' := [(0, .float 0), (1, .ref 0), (2, .ref 40960), (3, .int i)]) (st' := []) 2 rfl ?_
  exact K W2
set_option maxRecDepth 100000 in
theorem z_16 (hW : WKx JW JK) (W : W4 JW JK H) (i0 : 0 ≤ i.toInt) (i6 : i.toInt + 6 ≤ (L : Int)) (hL : L ≤ 3072) (K : ZK JW JK xs L i Q) : kx (k_t xs L) 41 271 670 [(0, .float 0), (1, .ref 0), (2, .ref 40960), (3, .int i)] [] H Q := by
  refine kxB (pc' := 671) (loc' := [(0, .float 0), (1, .ref 0), (2, .ref 40960), (3, .int i)]) (st' := [.ref 0]) 1 rfl ?_
  obtain ⟨fs, g0⟩ := W.g0
  refine kxV rfl rfl rfl g0 rfl rfl (w_c_gain z_ht W) ?_
  rintro w h1 ⟨v1, H1, e, W1⟩
  cases e
  refine kxB (pc' := 676) (loc' := [(0, .float 0), (1, .ref 0), (2, .ref 40960), (3, .int i)]) (st' := [.ref 40960]) 2 rfl ?_
  obtain ⟨fs1, g1⟩ := W1.g1
  refine kxV rfl rfl rfl g1 rfl rfl (w_d_gain z_ht W1) ?_
  rintro w h1 ⟨v2, H2, e, W2⟩
  cases e
  refine kxB (pc' := 1138) (loc' := [(0, .float 0), (1, .ref 0), (2, .ref 40960), (3, .int i)]) (st' := []) 2 rfl ?_
  exact K W2
set_option maxRecDepth 100000 in
theorem z_17 (hW : WKx JW JK) (W : W4 JW JK H) (i0 : 0 ≤ i.toInt) (i6 : i.toInt + 6 ≤ (L : Int)) (hL : L ≤ 3072) (K : ZK JW JK xs L i Q) : kx (k_t xs L) 41 271 683 [(0, .float 0), (1, .ref 0), (2, .ref 40960), (3, .int i)] [] H Q := by
  have e1 : (i + 1).toInt = i.toInt + 1 := z_i i0 (by omega) (by decide) (by decide)
  have e2 : (i + 2).toInt = i.toInt + 2 := z_i i0 (by omega) (by decide) (by decide)
  refine kxB (pc' := 688) (loc' := [(0, .float 0), (1, .ref 0), (2, .ref 40960), (3, .int i)]) (st' := [.int (i + 1), .float 0, .ref 0]) 5 rfl ?_
  refine kx_sc rfl (by omega) (by omega) ?_
  refine kxB (pc' := 693) (loc' := [(0, .float 0), (1, .ref 0), (2, .ref 40960), (3, .int i)]) (st' := [.int (i + 2), .float 0, .int (xs (i + 1).toNatClampNeg), .ref 0]) 4 rfl ?_
  refine kx_sc rfl (by omega) (by omega) ?_
  obtain ⟨fs, g0⟩ := W.g0
  refine kxV rfl rfl rfl g0 rfl rfl (w_c_best z_ht W) ?_
  rintro w h1 ⟨v1, H1, e, W1⟩
  cases e
  refine kxB (pc' := 703) (loc' := [(0, .float 0), (1, .ref 0), (2, .ref 40960), (3, .int i)]) (st' := [.int (i + 1), .float 0, .ref 40960]) 6 rfl ?_
  refine kx_sc rfl (by omega) (by omega) ?_
  refine kxB (pc' := 708) (loc' := [(0, .float 0), (1, .ref 0), (2, .ref 40960), (3, .int i)]) (st' := [.int (i + 2), .float 0, .int (xs (i + 1).toNatClampNeg), .ref 40960]) 4 rfl ?_
  refine kx_sc rfl (by omega) (by omega) ?_
  obtain ⟨fs1, g1⟩ := W1.g1
  refine kxV rfl rfl rfl g1 rfl rfl (w_d_best z_ht W1) ?_
  rintro w h1 ⟨v2, H2, e, W2⟩
  cases e
  refine kxB (pc' := 1138) (loc' := [(0, .float 0), (1, .ref 0), (2, .ref 40960), (3, .int i)]) (st' := []) 2 rfl ?_
  exact K W2
set_option maxRecDepth 100000 in
theorem z_18 (hW : WKx JW JK) (W : W4 JW JK H) (i0 : 0 ≤ i.toInt) (i6 : i.toInt + 6 ≤ (L : Int)) (hL : L ≤ 3072) (K : ZK JW JK xs L i Q) : kx (k_t xs L) 41 271 716 [(0, .float 0), (1, .ref 0), (2, .ref 40960), (3, .int i)] [] H Q := by
  have e1 : (i + 1).toInt = i.toInt + 1 := z_i i0 (by omega) (by decide) (by decide)
  have e2 : (i + 2).toInt = i.toInt + 2 := z_i i0 (by omega) (by decide) (by decide)
  have e3 : (i + 3).toInt = i.toInt + 3 := z_i i0 (by omega) (by decide) (by decide)
  refine kxB (pc' := 721) (loc' := [(0, .float 0), (1, .ref 0), (2, .ref 40960), (3, .int i)]) (st' := [.int (i + 1), .float 0, .ref 0]) 5 rfl ?_
  refine kx_sc rfl (by omega) (by omega) ?_
  refine kxB (pc' := 726) (loc' := [(0, .float 0), (1, .ref 0), (2, .ref 40960), (3, .int i)]) (st' := [.int (i + 2), .float 0, .int (xs (i + 1).toNatClampNeg), .ref 0]) 4 rfl ?_
  refine kx_sc rfl (by omega) (by omega) ?_
  refine kxB (pc' := 731) (loc' := [(0, .float 0), (1, .ref 0), (2, .ref 40960), (3, .int i)]) (st' := [.int (i + 3), .float 0, .int (xs (i + 2).toNatClampNeg), .int (xs (i + 1).toNatClampNeg), .ref 0]) 4 rfl ?_
  refine kx_sc rfl (by omega) (by omega) ?_
  obtain ⟨fs, g0⟩ := W.g0
  refine kxV rfl rfl rfl g0 rfl rfl (w_c_bestOfTwo z_ht W) ?_
  rintro w h1 ⟨v1, H1, e, W1⟩
  cases e
  refine kxB (pc' := 741) (loc' := [(0, .float 0), (1, .ref 0), (2, .ref 40960), (3, .int i)]) (st' := [.int (i + 1), .float 0, .ref 40960]) 6 rfl ?_
  refine kx_sc rfl (by omega) (by omega) ?_
  refine kxB (pc' := 746) (loc' := [(0, .float 0), (1, .ref 0), (2, .ref 40960), (3, .int i)]) (st' := [.int (i + 2), .float 0, .int (xs (i + 1).toNatClampNeg), .ref 40960]) 4 rfl ?_
  refine kx_sc rfl (by omega) (by omega) ?_
  refine kxB (pc' := 751) (loc' := [(0, .float 0), (1, .ref 0), (2, .ref 40960), (3, .int i)]) (st' := [.int (i + 3), .float 0, .int (xs (i + 2).toNatClampNeg), .int (xs (i + 1).toNatClampNeg), .ref 40960]) 4 rfl ?_
  refine kx_sc rfl (by omega) (by omega) ?_
  obtain ⟨fs1, g1⟩ := W1.g1
  refine kxV rfl rfl rfl g1 rfl rfl (w_d_bestOfTwo z_ht W1) ?_
  rintro w h1 ⟨v2, H2, e, W2⟩
  cases e
  refine kxB (pc' := 1138) (loc' := [(0, .float 0), (1, .ref 0), (2, .ref 40960), (3, .int i)]) (st' := []) 2 rfl ?_
  exact K W2
set_option maxRecDepth 100000 in
theorem z_19 (hW : WKx JW JK) (W : W4 JW JK H) (i0 : 0 ≤ i.toInt) (i6 : i.toInt + 6 ≤ (L : Int)) (hL : L ≤ 3072) (K : ZK JW JK xs L i Q) : kx (k_t xs L) 41 271 759 [(0, .float 0), (1, .ref 0), (2, .ref 40960), (3, .int i)] [] H Q := by
  have e1 : (i + 1).toInt = i.toInt + 1 := z_i i0 (by omega) (by decide) (by decide)
  refine kxB (pc' := 764) (loc' := [(0, .float 0), (1, .ref 0), (2, .ref 40960), (3, .int i)]) (st' := [.int (i + 1), .float 0, .ref 0]) 5 rfl ?_
  refine kx_sc rfl (by omega) (by omega) ?_
  obtain ⟨fs, g0⟩ := W.g0
  refine kxV rfl rfl rfl g0 rfl rfl (w_c_hire z_ht W) ?_
  rintro w h1 ⟨v1, H1, e, W1⟩
  cases e
  refine kxB (pc' := 774) (loc' := [(0, .float 0), (1, .ref 0), (2, .ref 40960), (3, .int i)]) (st' := [.int (i + 1), .float 0, .ref 40960]) 6 rfl ?_
  refine kx_sc rfl (by omega) (by omega) ?_
  obtain ⟨fs1, g1⟩ := W1.g1
  refine kxV rfl rfl rfl g1 rfl rfl (w_d_hire z_ht W1) ?_
  rintro w h1 ⟨v2, H2, e, W2⟩
  cases e
  refine kxB (pc' := 1138) (loc' := [(0, .float 0), (1, .ref 0), (2, .ref 40960), (3, .int i)]) (st' := []) 2 rfl ?_
  exact K W2
set_option maxRecDepth 100000 in
theorem z_20 (hW : WKx JW JK) (W : W4 JW JK H) (i0 : 0 ≤ i.toInt) (i6 : i.toInt + 6 ≤ (L : Int)) (hL : L ≤ 3072) (K : ZK JW JK xs L i Q) : kx (k_t xs L) 41 271 782 [(0, .float 0), (1, .ref 0), (2, .ref 40960), (3, .int i)] [] H Q := by
  have e1 : (i + 1).toInt = i.toInt + 1 := z_i i0 (by omega) (by decide) (by decide)
  have e2 : (i + 2).toInt = i.toInt + 2 := z_i i0 (by omega) (by decide) (by decide)
  refine kxB (pc' := 787) (loc' := [(0, .float 0), (1, .ref 0), (2, .ref 40960), (3, .int i)]) (st' := [.int (i + 1), .float 0, .ref 0]) 5 rfl ?_
  refine kx_sc rfl (by omega) (by omega) ?_
  refine kxB (pc' := 792) (loc' := [(0, .float 0), (1, .ref 0), (2, .ref 40960), (3, .int i)]) (st' := [.int (i + 2), .float 0, .int (xs (i + 1).toNatClampNeg), .ref 0]) 4 rfl ?_
  refine kx_sc rfl (by omega) (by omega) ?_
  obtain ⟨fs, g0⟩ := W.g0
  refine kxV rfl rfl rfl g0 rfl rfl (w_c_hide z_ht W) ?_
  rintro w h1 ⟨v1, H1, e, W1⟩
  cases e
  refine kxB (pc' := 802) (loc' := [(0, .float 0), (1, .ref 0), (2, .ref 40960), (3, .int i)]) (st' := [.int (i + 1), .float 0, .ref 40960]) 6 rfl ?_
  refine kx_sc rfl (by omega) (by omega) ?_
  refine kxB (pc' := 807) (loc' := [(0, .float 0), (1, .ref 0), (2, .ref 40960), (3, .int i)]) (st' := [.int (i + 2), .float 0, .int (xs (i + 1).toNatClampNeg), .ref 40960]) 4 rfl ?_
  refine kx_sc rfl (by omega) (by omega) ?_
  obtain ⟨fs1, g1⟩ := W1.g1
  refine kxV rfl rfl rfl g1 rfl rfl (w_d_hide z_ht W1) ?_
  rintro w h1 ⟨v2, H2, e, W2⟩
  cases e
  refine kxB (pc' := 1138) (loc' := [(0, .float 0), (1, .ref 0), (2, .ref 40960), (3, .int i)]) (st' := []) 2 rfl ?_
  exact K W2
set_option maxRecDepth 100000 in
theorem z_21 (hW : WKx JW JK) (W : W4 JW JK H) (i0 : 0 ≤ i.toInt) (i6 : i.toInt + 6 ≤ (L : Int)) (hL : L ≤ 3072) (K : ZK JW JK xs L i Q) : kx (k_t xs L) 41 271 815 [(0, .float 0), (1, .ref 0), (2, .ref 40960), (3, .int i)] [] H Q := by
  have e1 : (i + 1).toInt = i.toInt + 1 := z_i i0 (by omega) (by decide) (by decide)
  refine kxB (pc' := 820) (loc' := [(0, .float 0), (1, .ref 0), (2, .ref 40960), (3, .int i)]) (st' := [.int (i + 1), .float 0, .ref 0]) 5 rfl ?_
  refine kx_sc rfl (by omega) (by omega) ?_
  obtain ⟨fs, g0⟩ := W.g0
  refine kxV rfl rfl rfl g0 rfl rfl (w_c_bars z_ht W) ?_
  rintro w h1 ⟨v1, H1, e, W1⟩
  cases e
  refine kxB (pc' := 830) (loc' := [(0, .float 0), (1, .ref 0), (2, .ref 40960), (3, .int i)]) (st' := [.int (i + 1), .float 0, .ref 40960]) 6 rfl ?_
  refine kx_sc rfl (by omega) (by omega) ?_
  obtain ⟨fs1, g1⟩ := W1.g1
  refine kxV rfl rfl rfl g1 rfl rfl (w_d_bars z_ht W1) ?_
  rintro w h1 ⟨v2, H2, e, W2⟩
  cases e
  refine kxB (pc' := 1138) (loc' := [(0, .float 0), (1, .ref 0), (2, .ref 40960), (3, .int i)]) (st' := []) 2 rfl ?_
  exact K W2
set_option maxRecDepth 100000 in
theorem z_22 (hW : WKx JW JK) (W : W4 JW JK H) (i0 : 0 ≤ i.toInt) (i6 : i.toInt + 6 ≤ (L : Int)) (hL : L ≤ 3072) (K : ZK JW JK xs L i Q) : kx (k_t xs L) 41 271 838 [(0, .float 0), (1, .ref 0), (2, .ref 40960), (3, .int i)] [] H Q := by
  have e1 : (i + 1).toInt = i.toInt + 1 := z_i i0 (by omega) (by decide) (by decide)
  have e2 : (i + 2).toInt = i.toInt + 2 := z_i i0 (by omega) (by decide) (by decide)
  refine kxB (pc' := 843) (loc' := [(0, .float 0), (1, .ref 0), (2, .ref 40960), (3, .int i)]) (st' := [.int (i + 1), .float 0, .ref 0]) 5 rfl ?_
  refine kx_sc rfl (by omega) (by omega) ?_
  refine kxB (pc' := 848) (loc' := [(0, .float 0), (1, .ref 0), (2, .ref 40960), (3, .int i)]) (st' := [.int (i + 2), .float 0, .int (xs (i + 1).toNatClampNeg), .ref 0]) 4 rfl ?_
  refine kx_sc rfl (by omega) (by omega) ?_
  obtain ⟨fs, g0⟩ := W.g0
  refine kxV rfl rfl rfl g0 rfl rfl (w_c_where z_ht W) ?_
  rintro w h1 ⟨v1, H1, e, W1⟩
  cases e
  refine kxB (pc' := 858) (loc' := [(0, .float 0), (1, .ref 0), (2, .ref 40960), (3, .int i)]) (st' := [.int (i + 1), .float 0, .ref 40960]) 6 rfl ?_
  refine kx_sc rfl (by omega) (by omega) ?_
  refine kxB (pc' := 863) (loc' := [(0, .float 0), (1, .ref 0), (2, .ref 40960), (3, .int i)]) (st' := [.int (i + 2), .float 0, .int (xs (i + 1).toNatClampNeg), .ref 40960]) 4 rfl ?_
  refine kx_sc rfl (by omega) (by omega) ?_
  obtain ⟨fs1, g1⟩ := W1.g1
  refine kxV rfl rfl rfl g1 rfl rfl (w_d_where z_ht W1) ?_
  rintro w h1 ⟨v2, H2, e, W2⟩
  cases e
  refine kxB (pc' := 1138) (loc' := [(0, .float 0), (1, .ref 0), (2, .ref 40960), (3, .int i)]) (st' := []) 2 rfl ?_
  exact K W2
set_option maxRecDepth 100000 in
theorem z_23 (hW : WKx JW JK) (W : W4 JW JK H) (i0 : 0 ≤ i.toInt) (i6 : i.toInt + 6 ≤ (L : Int)) (hL : L ≤ 3072) (K : ZK JW JK xs L i Q) : kx (k_t xs L) 41 271 871 [(0, .float 0), (1, .ref 0), (2, .ref 40960), (3, .int i)] [] H Q := by
  have e1 : (i + 1).toInt = i.toInt + 1 := z_i i0 (by omega) (by decide) (by decide)
  have e2 : (i + 2).toInt = i.toInt + 2 := z_i i0 (by omega) (by decide) (by decide)
  refine kxB (pc' := 876) (loc' := [(0, .float 0), (1, .ref 0), (2, .ref 40960), (3, .int i)]) (st' := [.int (i + 1), .float 0, .ref 0]) 5 rfl ?_
  refine kx_sc rfl (by omega) (by omega) ?_
  refine kxB (pc' := 881) (loc' := [(0, .float 0), (1, .ref 0), (2, .ref 40960), (3, .int i)]) (st' := [.int (i + 2), .float 0, .int (xs (i + 1).toNatClampNeg), .ref 0]) 4 rfl ?_
  refine kx_sc rfl (by omega) (by omega) ?_
  obtain ⟨fs, g0⟩ := W.g0
  refine kxV rfl rfl rfl g0 rfl rfl (w_c_strokes z_ht W) ?_
  rintro w h1 ⟨v1, H1, e, W1⟩
  cases e
  refine kxB (pc' := 891) (loc' := [(0, .float 0), (1, .ref 0), (2, .ref 40960), (3, .int i)]) (st' := [.int (i + 1), .float 0, .ref 40960]) 6 rfl ?_
  refine kx_sc rfl (by omega) (by omega) ?_
  refine kxB (pc' := 896) (loc' := [(0, .float 0), (1, .ref 0), (2, .ref 40960), (3, .int i)]) (st' := [.int (i + 2), .float 0, .int (xs (i + 1).toNatClampNeg), .ref 40960]) 4 rfl ?_
  refine kx_sc rfl (by omega) (by omega) ?_
  obtain ⟨fs1, g1⟩ := W1.g1
  refine kxV rfl rfl rfl g1 rfl rfl (w_d_strokes z_ht W1) ?_
  rintro w h1 ⟨v2, H2, e, W2⟩
  cases e
  refine kxB (pc' := 1138) (loc' := [(0, .float 0), (1, .ref 0), (2, .ref 40960), (3, .int i)]) (st' := []) 2 rfl ?_
  exact K W2
set_option maxRecDepth 100000 in
theorem z_24 (hW : WKx JW JK) (W : W4 JW JK H) (i0 : 0 ≤ i.toInt) (i6 : i.toInt + 6 ≤ (L : Int)) (hL : L ≤ 3072) (K : ZK JW JK xs L i Q) : kx (k_t xs L) 41 271 904 [(0, .float 0), (1, .ref 0), (2, .ref 40960), (3, .int i)] [] H Q := by
  have e1 : (i + 1).toInt = i.toInt + 1 := z_i i0 (by omega) (by decide) (by decide)
  have e2 : (i + 2).toInt = i.toInt + 2 := z_i i0 (by omega) (by decide) (by decide)
  have e3 : (i + 3).toInt = i.toInt + 3 := z_i i0 (by omega) (by decide) (by decide)
  refine kxB (pc' := 909) (loc' := [(0, .float 0), (1, .ref 0), (2, .ref 40960), (3, .int i)]) (st' := [.int (i + 1), .float 0, .ref 0]) 5 rfl ?_
  refine kx_sc rfl (by omega) (by omega) ?_
  refine kxB (pc' := 914) (loc' := [(0, .float 0), (1, .ref 0), (2, .ref 40960), (3, .int i)]) (st' := [.int (i + 2), .float 0, .int (xs (i + 1).toNatClampNeg), .ref 0]) 4 rfl ?_
  refine kx_sc rfl (by omega) (by omega) ?_
  refine kxB (pc' := 919) (loc' := [(0, .float 0), (1, .ref 0), (2, .ref 40960), (3, .int i)]) (st' := [.int (i + 3), .float 0, .int (xs (i + 2).toNatClampNeg), .int (xs (i + 1).toNatClampNeg), .ref 0]) 4 rfl ?_
  refine kx_sc rfl (by omega) (by omega) ?_
  obtain ⟨fs, g0⟩ := W.g0
  refine kxV rfl rfl rfl g0 rfl rfl (w_c_tellE z_ht W) ?_
  rintro w h1 ⟨v1, H1, e, W1⟩
  cases e
  refine kxB (pc' := 929) (loc' := [(0, .float 0), (1, .ref 0), (2, .ref 40960), (3, .int i)]) (st' := [.int (i + 1), .float 0, .ref 40960]) 6 rfl ?_
  refine kx_sc rfl (by omega) (by omega) ?_
  refine kxB (pc' := 934) (loc' := [(0, .float 0), (1, .ref 0), (2, .ref 40960), (3, .int i)]) (st' := [.int (i + 2), .float 0, .int (xs (i + 1).toNatClampNeg), .ref 40960]) 4 rfl ?_
  refine kx_sc rfl (by omega) (by omega) ?_
  refine kxB (pc' := 939) (loc' := [(0, .float 0), (1, .ref 0), (2, .ref 40960), (3, .int i)]) (st' := [.int (i + 3), .float 0, .int (xs (i + 2).toNatClampNeg), .int (xs (i + 1).toNatClampNeg), .ref 40960]) 4 rfl ?_
  refine kx_sc rfl (by omega) (by omega) ?_
  obtain ⟨fs1, g1⟩ := W1.g1
  refine kxV rfl rfl rfl g1 rfl rfl (w_d_tellE z_ht W1) ?_
  rintro w h1 ⟨v2, H2, e, W2, q2⟩
  cases e
  refine kxB (pc' := 1138) (loc' := [(0, .float 0), (1, .ref 0), (2, .ref 40960), (3, .int i)]) (st' := []) 2 rfl ?_
  exact K W2
set_option maxRecDepth 100000 in
theorem z_25 (hW : WKx JW JK) (W : W4 JW JK H) (i0 : 0 ≤ i.toInt) (i6 : i.toInt + 6 ≤ (L : Int)) (hL : L ≤ 3072) (K : ZK JW JK xs L i Q) : kx (k_t xs L) 41 271 947 [(0, .float 0), (1, .ref 0), (2, .ref 40960), (3, .int i)] [] H Q := by
  refine kxB (pc' := 948) (loc' := [(0, .float 0), (1, .ref 0), (2, .ref 40960), (3, .int i)]) (st' := [.ref 0]) 1 rfl ?_
  obtain ⟨fs, g0⟩ := W.g0
  refine kxV rfl rfl rfl g0 rfl rfl (w_c_forgetE z_ht W) ?_
  rintro w h1 ⟨v1, H1, e, W1⟩
  cases e
  refine kxB (pc' := 953) (loc' := [(0, .float 0), (1, .ref 0), (2, .ref 40960), (3, .int i)]) (st' := [.ref 40960]) 2 rfl ?_
  obtain ⟨fs1, g1⟩ := W1.g1
  refine kxV rfl rfl rfl g1 rfl rfl (w_d_forgetE z_ht W1) ?_
  rintro w h1 ⟨v2, H2, e, W2, q2⟩
  cases e
  refine kxB (pc' := 1138) (loc' := [(0, .float 0), (1, .ref 0), (2, .ref 40960), (3, .int i)]) (st' := []) 2 rfl ?_
  exact K W2
set_option maxRecDepth 100000 in
theorem z_26 (hW : WKx JW JK) (W : W4 JW JK H) (i0 : 0 ≤ i.toInt) (i6 : i.toInt + 6 ≤ (L : Int)) (hL : L ≤ 3072) (K : ZK JW JK xs L i Q) : kx (k_t xs L) 41 271 960 [(0, .float 0), (1, .ref 0), (2, .ref 40960), (3, .int i)] [] H Q := by
  have e1 : (i + 1).toInt = i.toInt + 1 := z_i i0 (by omega) (by decide) (by decide)
  have e2 : (i + 2).toInt = i.toInt + 2 := z_i i0 (by omega) (by decide) (by decide)
  have e3 : (i + 3).toInt = i.toInt + 3 := z_i i0 (by omega) (by decide) (by decide)
  refine kxB (pc' := 965) (loc' := [(0, .float 0), (1, .ref 0), (2, .ref 40960), (3, .int i)]) (st' := [.int (i + 1), .float 0, .ref 0]) 5 rfl ?_
  refine kx_sc rfl (by omega) (by omega) ?_
  refine kxB (pc' := 970) (loc' := [(0, .float 0), (1, .ref 0), (2, .ref 40960), (3, .int i)]) (st' := [.int (i + 2), .float 0, .int (xs (i + 1).toNatClampNeg), .ref 0]) 4 rfl ?_
  refine kx_sc rfl (by omega) (by omega) ?_
  refine kxB (pc' := 975) (loc' := [(0, .float 0), (1, .ref 0), (2, .ref 40960), (3, .int i)]) (st' := [.int (i + 3), .float 0, .int (xs (i + 2).toNatClampNeg), .int (xs (i + 1).toNatClampNeg), .ref 0]) 4 rfl ?_
  refine kx_sc rfl (by omega) (by omega) ?_
  obtain ⟨fs, g0⟩ := W.g0
  refine kxV rfl rfl rfl g0 rfl rfl (w_c_fits z_ht W) ?_
  rintro w h1 ⟨v1, H1, e, W1⟩
  cases e
  refine kxB (pc' := 985) (loc' := [(0, .float 0), (1, .ref 0), (2, .ref 40960), (3, .int i)]) (st' := [.int (i + 1), .float 0, .ref 40960]) 6 rfl ?_
  refine kx_sc rfl (by omega) (by omega) ?_
  refine kxB (pc' := 990) (loc' := [(0, .float 0), (1, .ref 0), (2, .ref 40960), (3, .int i)]) (st' := [.int (i + 2), .float 0, .int (xs (i + 1).toNatClampNeg), .ref 40960]) 4 rfl ?_
  refine kx_sc rfl (by omega) (by omega) ?_
  refine kxB (pc' := 995) (loc' := [(0, .float 0), (1, .ref 0), (2, .ref 40960), (3, .int i)]) (st' := [.int (i + 3), .float 0, .int (xs (i + 2).toNatClampNeg), .int (xs (i + 1).toNatClampNeg), .ref 40960]) 4 rfl ?_
  refine kx_sc rfl (by omega) (by omega) ?_
  obtain ⟨fs1, g1⟩ := W1.g1
  refine kxV rfl rfl rfl g1 rfl rfl (w_d_fits z_ht W1) ?_
  rintro w h1 ⟨v2, H2, e, W2⟩
  cases e
  refine kxB (pc' := 1138) (loc' := [(0, .float 0), (1, .ref 0), (2, .ref 40960), (3, .int i)]) (st' := []) 2 rfl ?_
  exact K W2
set_option maxRecDepth 100000 in
theorem z_27 (hW : WKx JW JK) (W : W4 JW JK H) (i0 : 0 ≤ i.toInt) (i6 : i.toInt + 6 ≤ (L : Int)) (hL : L ≤ 3072) (K : ZK JW JK xs L i Q) : kx (k_t xs L) 41 271 1003 [(0, .float 0), (1, .ref 0), (2, .ref 40960), (3, .int i)] [] H Q := by
  have e1 : (i + 1).toInt = i.toInt + 1 := z_i i0 (by omega) (by decide) (by decide)
  refine kxB (pc' := 1008) (loc' := [(0, .float 0), (1, .ref 0), (2, .ref 40960), (3, .int i)]) (st' := [.int (i + 1), .float 0, .ref 0]) 5 rfl ?_
  refine kx_sc rfl (by omega) (by omega) ?_
  obtain ⟨fs, g0⟩ := W.g0
  refine kxV rfl rfl rfl g0 rfl rfl (w_c_suspects z_ht W) ?_
  rintro w h1 ⟨v1, H1, e, W1⟩
  cases e
  refine kxB (pc' := 1018) (loc' := [(0, .float 0), (1, .ref 0), (2, .ref 40960), (3, .int i)]) (st' := [.int (i + 1), .float 0, .ref 40960]) 6 rfl ?_
  refine kx_sc rfl (by omega) (by omega) ?_
  obtain ⟨fs1, g1⟩ := W1.g1
  refine kxV rfl rfl rfl g1 rfl rfl (w_d_suspects z_ht W1) ?_
  rintro w h1 ⟨v2, H2, e, W2⟩
  cases e
  refine kxB (pc' := 1138) (loc' := [(0, .float 0), (1, .ref 0), (2, .ref 40960), (3, .int i)]) (st' := []) 2 rfl ?_
  exact K W2
set_option maxRecDepth 100000 in
theorem z_28 (hW : WKx JW JK) (W : W4 JW JK H) (i0 : 0 ≤ i.toInt) (i6 : i.toInt + 6 ≤ (L : Int)) (hL : L ≤ 3072) (K : ZK JW JK xs L i Q) : kx (k_t xs L) 41 271 1026 [(0, .float 0), (1, .ref 0), (2, .ref 40960), (3, .int i)] [] H Q := by
  have e1 : (i + 1).toInt = i.toInt + 1 := z_i i0 (by omega) (by decide) (by decide)
  have e2 : (i + 2).toInt = i.toInt + 2 := z_i i0 (by omega) (by decide) (by decide)
  have e3 : (i + 3).toInt = i.toInt + 3 := z_i i0 (by omega) (by decide) (by decide)
  refine kxB (pc' := 1031) (loc' := [(0, .float 0), (1, .ref 0), (2, .ref 40960), (3, .int i)]) (st' := [.int (i + 1), .float 0, .ref 0]) 5 rfl ?_
  refine kx_sc rfl (by omega) (by omega) ?_
  refine kxB (pc' := 1036) (loc' := [(0, .float 0), (1, .ref 0), (2, .ref 40960), (3, .int i)]) (st' := [.int (i + 2), .float 0, .int (xs (i + 1).toNatClampNeg), .ref 0]) 4 rfl ?_
  refine kx_sc rfl (by omega) (by omega) ?_
  refine kxB (pc' := 1041) (loc' := [(0, .float 0), (1, .ref 0), (2, .ref 40960), (3, .int i)]) (st' := [.int (i + 3), .float 0, .int (xs (i + 2).toNatClampNeg), .int (xs (i + 1).toNatClampNeg), .ref 0]) 4 rfl ?_
  refine kx_sc rfl (by omega) (by omega) ?_
  obtain ⟨fs, g0⟩ := W.g0
  refine kxV rfl rfl rfl g0 rfl rfl (w_c_pairs z_ht W) ?_
  rintro w h1 ⟨v1, H1, e, W1⟩
  cases e
  refine kxB (pc' := 1051) (loc' := [(0, .float 0), (1, .ref 0), (2, .ref 40960), (3, .int i)]) (st' := [.int (i + 1), .float 0, .ref 40960]) 6 rfl ?_
  refine kx_sc rfl (by omega) (by omega) ?_
  refine kxB (pc' := 1056) (loc' := [(0, .float 0), (1, .ref 0), (2, .ref 40960), (3, .int i)]) (st' := [.int (i + 2), .float 0, .int (xs (i + 1).toNatClampNeg), .ref 40960]) 4 rfl ?_
  refine kx_sc rfl (by omega) (by omega) ?_
  refine kxB (pc' := 1061) (loc' := [(0, .float 0), (1, .ref 0), (2, .ref 40960), (3, .int i)]) (st' := [.int (i + 3), .float 0, .int (xs (i + 2).toNatClampNeg), .int (xs (i + 1).toNatClampNeg), .ref 40960]) 4 rfl ?_
  refine kx_sc rfl (by omega) (by omega) ?_
  obtain ⟨fs1, g1⟩ := W1.g1
  refine kxV rfl rfl rfl g1 rfl rfl (w_d_pairs z_ht W1) ?_
  rintro w h1 ⟨v2, H2, e, W2⟩
  cases e
  refine kxB (pc' := 1138) (loc' := [(0, .float 0), (1, .ref 0), (2, .ref 40960), (3, .int i)]) (st' := []) 2 rfl ?_
  exact K W2
set_option maxRecDepth 100000 in
theorem z_29 (hW : WKx JW JK) (W : W4 JW JK H) (i0 : 0 ≤ i.toInt) (i6 : i.toInt + 6 ≤ (L : Int)) (hL : L ≤ 3072) (K : ZK JW JK xs L i Q) : kx (k_t xs L) 41 271 1069 [(0, .float 0), (1, .ref 0), (2, .ref 40960), (3, .int i)] [] H Q := by
  have e1 : (i + 1).toInt = i.toInt + 1 := z_i i0 (by omega) (by decide) (by decide)
  refine kxB (pc' := 1074) (loc' := [(0, .float 0), (1, .ref 0), (2, .ref 40960), (3, .int i)]) (st' := [.int (i + 1), .float 0, .ref 0]) 5 rfl ?_
  refine kx_sc rfl (by omega) (by omega) ?_
  obtain ⟨fs, g0⟩ := W.g0
  refine kxV rfl rfl rfl g0 rfl rfl (w_c_holdE z_ht W) ?_
  rintro w h1 ⟨v1, H1, e, W1⟩
  cases e
  refine kxB (pc' := 1084) (loc' := [(0, .float 0), (1, .ref 0), (2, .ref 40960), (3, .int i)]) (st' := [.int (i + 1), .float 0, .ref 40960]) 6 rfl ?_
  refine kx_sc rfl (by omega) (by omega) ?_
  obtain ⟨fs1, g1⟩ := W1.g1
  refine kxV rfl rfl rfl g1 rfl rfl (w_d_holdE z_ht W1) ?_
  rintro w h1 ⟨v2, H2, e, W2, q2⟩
  cases e
  refine kxB (pc' := 1138) (loc' := [(0, .float 0), (1, .ref 0), (2, .ref 40960), (3, .int i)]) (st' := []) 2 rfl ?_
  exact K W2
set_option maxRecDepth 100000 in
theorem z_30 (hW : WKx JW JK) (W : W4 JW JK H) (i0 : 0 ≤ i.toInt) (i6 : i.toInt + 6 ≤ (L : Int)) (hL : L ≤ 3072) (K : ZK JW JK xs L i Q) : kx (k_t xs L) 41 271 1092 [(0, .float 0), (1, .ref 0), (2, .ref 40960), (3, .int i)] [] H Q := by
  have e1 : (i + 1).toInt = i.toInt + 1 := z_i i0 (by omega) (by decide) (by decide)
  refine kxB (pc' := 1097) (loc' := [(0, .float 0), (1, .ref 0), (2, .ref 40960), (3, .int i)]) (st' := [.int (i + 1), .float 0, .ref 0]) 5 rfl ?_
  refine kx_sc rfl (by omega) (by omega) ?_
  obtain ⟨fs, g0⟩ := W.g0
  refine kxV rfl rfl rfl g0 rfl rfl (w_c_restoreE z_ht W) ?_
  rintro w h1 ⟨v1, H1, e, W1⟩
  cases e
  refine kxB (pc' := 1107) (loc' := [(0, .float 0), (1, .ref 0), (2, .ref 40960), (3, .int i)]) (st' := [.int (i + 1), .float 0, .ref 40960]) 6 rfl ?_
  refine kx_sc rfl (by omega) (by omega) ?_
  obtain ⟨fs1, g1⟩ := W1.g1
  refine kxV rfl rfl rfl g1 rfl rfl (w_d_restoreE z_ht W1) ?_
  rintro w h1 ⟨v2, H2, e, W2, q2⟩
  cases e
  refine kxB (pc' := 1138) (loc' := [(0, .float 0), (1, .ref 0), (2, .ref 40960), (3, .int i)]) (st' := []) 2 rfl ?_
  exact K W2
set_option maxRecDepth 100000 in
theorem z_31 (hW : WKx JW JK) (W : W4 JW JK H) (i0 : 0 ≤ i.toInt) (i6 : i.toInt + 6 ≤ (L : Int)) (hL : L ≤ 3072) (K : ZK JW JK xs L i Q) : kx (k_t xs L) 41 271 1115 [(0, .float 0), (1, .ref 0), (2, .ref 40960), (3, .int i)] [] H Q := by
  have e1 : (i + 1).toInt = i.toInt + 1 := z_i i0 (by omega) (by decide) (by decide)
  refine kxB (pc' := 1120) (loc' := [(0, .float 0), (1, .ref 0), (2, .ref 40960), (3, .int i)]) (st' := [.int (i + 1), .float 0, .ref 0]) 5 rfl ?_
  refine kx_sc rfl (by omega) (by omega) ?_
  obtain ⟨fs, g0⟩ := W.g0
  refine kxV rfl rfl rfl g0 rfl rfl (w_c_count z_ht W) ?_
  rintro w h1 ⟨v1, H1, e, W1⟩
  cases e
  refine kxB (pc' := 1130) (loc' := [(0, .float 0), (1, .ref 0), (2, .ref 40960), (3, .int i)]) (st' := [.int (i + 1), .float 0, .ref 40960]) 6 rfl ?_
  refine kx_sc rfl (by omega) (by omega) ?_
  obtain ⟨fs1, g1⟩ := W1.g1
  refine kxV rfl rfl rfl g1 rfl rfl (w_d_count z_ht W1) ?_
  rintro w h1 ⟨v2, H2, e, W2⟩
  cases e
  refine kxB (pc' := 1138) (loc' := [(0, .float 0), (1, .ref 0), (2, .ref 40960), (3, .int i)]) (st' := []) 2 rfl ?_
  exact K W2
/-- what the law answers -/
def ZQ (JW JK : Nat → Int64) (z : Option Value × gH) : Prop := ∃ H', z = (some (.int 1), H') ∧ W4 JW JK H'
set_option maxRecDepth 100000 in
theorem z_and (x : Int32) : ∃ k, k < 32 ∧ x &&& 31 = Int32.ofNat k := by
  refine ⟨(x &&& 31).toBitVec.toNat, ?_, ?_⟩
  · have h1 : (x &&& 31).toBitVec.toNat = x.toBitVec.toNat &&& 31 := rfl
    rw [h1]
    exact Nat.lt_of_le_of_lt Nat.and_le_right (by decide)
  · apply Int32.toBitVec_inj.mp
    show (x &&& 31).toBitVec = BitVec.ofNat 32 (x &&& 31).toBitVec.toNat
    simp
set_option maxRecDepth 100000 in
theorem z_sw {k : Nat} (hk : k < 32) (hW : WKx JW JK) (W : W4 JW JK H) (i0 : 0 ≤ i.toInt) (i6 : i.toInt + 6 ≤ (L : Int)) (hL : L ≤ 3072) (K : ZK JW JK xs L i Q) : kx (k_t xs L) 41 271 33 [(0, .float 0), (1, .ref 0), (2, .ref 40960), (3, .int i)] [.int (Int32.ofNat k)] H Q := by
  match k, hk with
  | 0, _ => exact kxI (fun _ hz => k_tab (tgt := 176) rfl (by decide) hz) (z_0 hW W i0 i6 hL K)
  | 1, _ => exact kxI (fun _ hz => k_tab (tgt := 239) rfl (by decide) hz) (z_1 hW W i0 i6 hL K)
  | 2, _ => exact kxI (fun _ hz => k_tab (tgt := 262) rfl (by decide) hz) (z_2 hW W i0 i6 hL K)
  | 3, _ => exact kxI (fun _ hz => k_tab (tgt := 275) rfl (by decide) hz) (z_3 hW W i0 i6 hL K)
  | 4, _ => exact kxI (fun _ hz => k_tab (tgt := 288) rfl (by decide) hz) (z_4 hW W i0 i6 hL K)
  | 5, _ => exact kxI (fun _ hz => k_tab (tgt := 321) rfl (by decide) hz) (z_5 hW W i0 i6 hL K)
  | 6, _ => exact kxI (fun _ hz => k_tab (tgt := 364) rfl (by decide) hz) (z_6 hW W i0 i6 hL K)
  | 7, _ => exact kxI (fun _ hz => k_tab (tgt := 397) rfl (by decide) hz) (z_7 hW W i0 i6 hL K)
  | 8, _ => exact kxI (fun _ hz => k_tab (tgt := 420) rfl (by decide) hz) (z_8 hW W i0 i6 hL K)
  | 9, _ => exact kxI (fun _ hz => k_tab (tgt := 453) rfl (by decide) hz) (z_9 hW W i0 i6 hL K)
  | 10, _ => exact kxI (fun _ hz => k_tab (tgt := 496) rfl (by decide) hz) (z_10 hW W i0 i6 hL K)
  | 11, _ => exact kxI (fun _ hz => k_tab (tgt := 529) rfl (by decide) hz) (z_11 hW W i0 i6 hL K)
  | 12, _ => exact kxI (fun _ hz => k_tab (tgt := 562) rfl (by decide) hz) (z_12 hW W i0 i6 hL K)
  | 13, _ => exact kxI (fun _ hz => k_tab (tgt := 595) rfl (by decide) hz) (z_13 hW W i0 i6 hL K)
  | 14, _ => exact kxI (fun _ hz => k_tab (tgt := 644) rfl (by decide) hz) (z_14 hW W i0 i6 hL K)
  | 15, _ => exact kxI (fun _ hz => k_tab (tgt := 657) rfl (by decide) hz) (z_15 hW W i0 i6 hL K)
  | 16, _ => exact kxI (fun _ hz => k_tab (tgt := 670) rfl (by decide) hz) (z_16 hW W i0 i6 hL K)
  | 17, _ => exact kxI (fun _ hz => k_tab (tgt := 683) rfl (by decide) hz) (z_17 hW W i0 i6 hL K)
  | 18, _ => exact kxI (fun _ hz => k_tab (tgt := 716) rfl (by decide) hz) (z_18 hW W i0 i6 hL K)
  | 19, _ => exact kxI (fun _ hz => k_tab (tgt := 759) rfl (by decide) hz) (z_19 hW W i0 i6 hL K)
  | 20, _ => exact kxI (fun _ hz => k_tab (tgt := 782) rfl (by decide) hz) (z_20 hW W i0 i6 hL K)
  | 21, _ => exact kxI (fun _ hz => k_tab (tgt := 815) rfl (by decide) hz) (z_21 hW W i0 i6 hL K)
  | 22, _ => exact kxI (fun _ hz => k_tab (tgt := 838) rfl (by decide) hz) (z_22 hW W i0 i6 hL K)
  | 23, _ => exact kxI (fun _ hz => k_tab (tgt := 871) rfl (by decide) hz) (z_23 hW W i0 i6 hL K)
  | 24, _ => exact kxI (fun _ hz => k_tab (tgt := 904) rfl (by decide) hz) (z_24 hW W i0 i6 hL K)
  | 25, _ => exact kxI (fun _ hz => k_tab (tgt := 947) rfl (by decide) hz) (z_25 hW W i0 i6 hL K)
  | 26, _ => exact kxI (fun _ hz => k_tab (tgt := 960) rfl (by decide) hz) (z_26 hW W i0 i6 hL K)
  | 27, _ => exact kxI (fun _ hz => k_tab (tgt := 1003) rfl (by decide) hz) (z_27 hW W i0 i6 hL K)
  | 28, _ => exact kxI (fun _ hz => k_tab (tgt := 1026) rfl (by decide) hz) (z_28 hW W i0 i6 hL K)
  | 29, _ => exact kxI (fun _ hz => k_tab (tgt := 1069) rfl (by decide) hz) (z_29 hW W i0 i6 hL K)
  | 30, _ => exact kxI (fun _ hz => k_tab (tgt := 1092) rfl (by decide) hz) (z_30 hW W i0 i6 hL K)
  | 31, _ => exact kxI (fun _ hz => k_tab (tgt := 1115) rfl (by decide) hz) (z_31 hW W i0 i6 hL K)
  | k + 32, h => exact absurd h (by omega)
set_option maxRecDepth 100000 in
theorem z_loop (hW : WKx JW JK) (hL : L ≤ 3072) : ∀ {m : Nat} {H : gH} {i : Int32}, W4 JW JK H → 0 ≤ i.toInt → i.toInt ≤ 3072 → (L : Int) - 6 < i.toInt + 6 * m → kx (k_t xs L) 41 271 18 [(0, .float 0), (1, .ref 0), (2, .ref 40960), (3, .int i)] [] H (ZQ JW JK) := by
  have el : (Int32.ofNat L).toInt = (L : Int) := Int32.toInt_ofNat_of_lt (by omega)
  have l6 : (6 : Int32).toInt = 6 := by decide
  have es : (Int32.ofNat L - 6).toInt = (L : Int) - 6 := by rw [i_sub (by omega) (by omega), l6, el]
  intro m
  induction m with
  | zero =>
    intro H i W i0 i1 hm
    refine kxB (pc' := 24) (loc' := [(0, .float 0), (1, .ref 0), (2, .ref 40960), (3, .int i)]) (st' := [.int (Int32.ofNat L - 6), .int i]) 5 rfl ?_
    refine kxic rfl (fun _ => ?_) (fun hc => ?_)
    · refine kxB (pc' := 1145) (loc' := [(0, .float 0), (1, .ref 0), (2, .ref 40960), (3, .int i)]) (st' := [.int 1]) 1 rfl ?_
      exact kxR (k_zret rfl rfl (.inr rfl)) ⟨H, rfl, W⟩
    · rw [i_ngt] at hc
      omega
  | succ m ih =>
    intro H i W i0 i1 hm
    refine kxB (pc' := 24) (loc' := [(0, .float 0), (1, .ref 0), (2, .ref 40960), (3, .int i)]) (st' := [.int (Int32.ofNat L - 6), .int i]) 5 rfl ?_
    refine kxic rfl (fun _ => ?_) (fun hc => ?_)
    · refine kxB (pc' := 1145) (loc' := [(0, .float 0), (1, .ref 0), (2, .ref 40960), (3, .int i)]) (st' := [.int 1]) 1 rfl ?_
      exact kxR (k_zret rfl rfl (.inr rfl)) ⟨H, rfl, W⟩
    · rw [i_ngt] at hc
      have ei : (i + 6).toInt = i.toInt + 6 := by rw [i_add (by omega) (by omega), l6]
      refine kxB (pc' := 29) (loc' := [(0, .float 0), (1, .ref 0), (2, .ref 40960), (3, .int i)]) (st' := [.int i, .float 0]) 2 rfl ?_
      refine kx_sc rfl i0 (by omega) ?_
      refine kxB (pc' := 33) (loc' := [(0, .float 0), (1, .ref 0), (2, .ref 40960), (3, .int i)]) (st' := [.int (xs i.toNatClampNeg &&& 31)]) 2 rfl ?_
      obtain ⟨k, hk, ek⟩ := z_and (xs i.toNatClampNeg)
      rw [ek]
      refine z_sw hk hW W i0 (by omega) hL ?_
      intro H2 W2
      refine kxB (pc' := 18) (loc' := [(0, .float 0), (1, .ref 0), (2, .ref 40960), (3, .int (i + 6))]) (st' := []) 2 rfl ?_
      exact ih W2 (by omega) (by omega) (by omega)
end S9l
end Qz179
