section B1
variable {T : TS} {d n m q : Nat} {P : Nat → Nat → Nat} {F F' : Nat → Nat → Int32} {A A' : Nat → Nat → Nat → Int32} {J J' : Nat → Nat → Nat → Int64} {Fm Fm' : Nat → Int32} {Am Am' : Nat → Nat → Int32} {Jm Jm' : Nat → Nat → Int64} {k k' v x3 : Int32}
/-- the end of a step's sentence -/
theorem qs_end {y2 y3 y4 y5 y6 y7 x4 x5 x6 x7 x8 x9 x10 : Int32} (K : TKs T) (R : RT T F Fm) (X : RX T A J Am Jm) (H : RH d F A J Fm Am Jm) (W : RW d F A Fm Am) (h6 : ∀ t, 0 ≤ t → ci A d 5 t ≤ 6) (hw : 0 ≤ ci A d 5 v.toInt ∧ ci A d 5 v.toInt < 6 ∧ x4.toInt = 6 * (6 * (Fm 19).toInt + v.toInt) + ci A d 5 v.toInt ∨ v = -1) (q5 : y2 = x5) (q6 : y3 = x6) (q7 : y4 = x7) (q8 : y5 = x8) (q9 : NNx y6.toInt x9.toInt) (q10 : NNx y7.toInt x10.toInt) (h5 : P 37 5 = d) (hk : c_kind d = 6) (hv : 0 ≤ v.toInt ∧ v.toInt < (F d 16).toInt ∨ v = -1) : P2 (e_Reader_readStep_107 n P F A J v y2 y3 y4 y5 y6 y7) (d_tellStep_174 m Fm Am Jm v x4 x5 x6 x7 x8 x9 x10) (RS T d P) := by
  have hd := kd37 hk
  have hc := chk_in h5 hk
  have bt : 0 ≤ (F d 16).toInt ∧ (F d 16).toInt ≤ 6 := H.nr.bd 2 (by decide)
  unfold e_Reader_readStep_107 d_tellStep_174
  refine p2_take K R X (by decide) (by decide) (fun F1 Fm1 U1 _ => ?_) (fun F1 Fm1 fc fm E _ => ?_)
  · have H1 := U1.v.h hd H
    have e1 := U1.dg hd 16
    dsimp only
    rw [cz_10, cond_false, U1.rt.gt, cond_false]
    rcases hv with ⟨v0, v1⟩ | rfl
    · rw [i_nlt.mpr (by rw [i_0]; exact v0), cond_false, i_ge.mpr (by rw [i_0]; exact v0), cond_true, hc, Option.bind_some, m_ld_in v0 (by omega), Option.bind_some, Option.bind_some]
      refine p2_bl (fun A2 e2 => ?_)
      have a2 := (gg_cst e2).2.2
      rw [Option.bind_some]
      refine p2_bl (fun A3 e3 => ?_)
      have a3 := (gg_cst e3).2.2
      rw [Option.bind_some]
      refine p2_bl (fun A4 e4 => ?_)
      have a4 := (gg_cst e4).2.2
      rw [Option.bind_some]
      refine p2_bl (fun A5 e5 => ?_)
      have a5 := (gg_cst e5).2.2
      rw [Option.bind_some]
      refine p2_bl (fun A6 e6 => ?_)
      have a6 := (gg_cst e6).2.2
      rw [Option.bind_some]
      refine p2_bl (fun A7 e7 => ?_)
      have a7 := (gg_cst e7).2.2
      rw [Option.bind_some]
      have o37 : ∀ o, A7 37 o = A 37 o := fun o => by rw [a7.2.2 37 o (fun e => hd e.1.symm), a6.2.2 37 o (fun e => hd e.1.symm), a5.2.2 37 o (fun e => hd e.1.symm), a4.2.2 37 o (fun e => hd e.1.symm), a3.2.2 37 o (fun e => hd e.1.symm), a2.2.2 37 o (fun e => hd e.1.symm)]
      have o5 : A7 d 5 = A d 5 := by rw [a7.2.2 d 5 (fun e => absurd e.2 (by decide)), a6.2.2 d 5 (fun e => absurd e.2 (by decide)), a5.2.2 d 5 (fun e => absurd e.2 (by decide)), a4.2.2 d 5 (fun e => absurd e.2 (by decide)), a3.2.2 d 5 (fun e => absurd e.2 (by decide)), a2.2.2 d 5 (fun e => absurd e.2 (by decide))]
      refine p2_bl (fun w8 e8 => ?_)
      have a8 := gg_ld e8
      refine p2_bl (fun A9 e9 => ?_)
      have a9 := (gg_cst e9).2.2
      refine p2_br (fun B2 f2 => ?_)
      have b2 := gg_st f2
      refine p2_br (fun B3 f3 => ?_)
      have b3 := gg_st f3
      refine p2_br (fun B4 f4 => ?_)
      have b4 := gg_st f4
      refine p2_br (fun B5 f5 => ?_)
      have b5 := gg_st f5
      refine p2_br (fun B6 f6 => ?_)
      have b6 := gg_st f6
      refine p2_br (fun B7 f7 => ?_)
      have b7 := gg_st f7
      have p7 : ∀ q, (q < 23 ∨ 28 < q) → B7 q = Am q := fun q hq => by rw [b7.2.2.1 q (by omega), b6.2.2.1 q (by omega), b5.2.2.1 q (by omega), b4.2.2.1 q (by omega), b3.2.2.1 q (by omega), b2.2.2.1 q (by omega)]
      refine p2_br (fun u8 f8 => ?_)
      have b8 := gg_ld f8
      refine p2_br (fun B9 f9 => ?_)
      have b9 := gg_st f9
      have ix := H1.ix v0 (show v.toInt ≤ 12 by omega)
      have s0 := H1.s0
      have same : A d 5 v.toInt.toNat = Am 22 (6 * Fm1 19 + v).toInt.toNat := H1.sc' v0 (by rw [e1]; exact v1) ix
      have p9 : ∀ q, (q < 22 ∨ 28 < q) → B9 q = Am q := fun q hq => by rw [b9.2.2.1 q (by omega), p7 q (by omega)]
      have X9 : RX T A9 J B9 Jm := (X.ca (A' := A9) (fun o => by rw [a9.2.2 37 o (fun e => hd e.1.symm), o37])).a (fun q hq => p9 q (by omega))
      have H9 : RH d F1 A9 J Fm1 B9 Jm := by
        refine ⟨H1.s0, H1.s1, fun q hq => ?_, ?_, ?_, fun k k0 k1 => ?_, H1.nr.fr (fun _ _ => rfl) (fun _ _ => rfl) rfl (p9 9 (by omega)) (p9 10 (by omega)) rfl, H1.op⟩
        · rw [p9 (rq q) (by have := rq_in q; omega)]; exact H1.cn q hq
        · rw [p9 12 (by omega)]; exact H1.dr
        · rw [p9 33 (by omega)]; exact H1.lw
        · by_cases e : k = v.toInt
          · rw [e, a9.1, ← ix, b9.2.2.2.1, a8.2.2, b8.2.2, o5, p7 22 (by omega), same]
          · rw [a9.2.1 k k0 e, b9.2.2.2.2 _ (by omega) (by rw [ix]; omega), ci_fr o5, ai_fr (p7 22 (by omega))]
            exact H1.sc k k0 k1
      have hw := hw.resolve_right (fun e => by rw [e] at v0; exact absurd v0 (by decide))
      have W1 : RW d F1 A Fm1 Am := W.v H.s0 hd U1.c U1.m
      have e19 : Fm1 19 = Fm 19 := U1.fm 19 (by decide)
      have hd3 := kd3 hk
      obtain ⟨w1, w2, w3, w4, w5, w6, w7⟩ := W1
      have cnt : (A d 5 v.toInt.toNat).toInt = ci A d 5 v.toInt := rfl
      have em := i_mulR (c := 6) (k := 6) (x := v) (by decide) (by omega) (by omega)
      have ei := i_add (x := v * 6) (y := A d 5 v.toInt.toNat) (by omega) (by omega)
      have ixc : (v * 6 + A d 5 v.toInt.toNat).toInt = v.toInt * 6 + ci A d 5 v.toInt := by rw [ei, em, cnt]
      have ixm : x4.toInt = 6 * (6 * (Fm1 19).toInt + v.toInt) + ci A d 5 v.toInt := by rw [e19]; exact hw.2.2
      rw [ixc] at a2 a3 a4 a5 a6 a7
      rw [ixm] at b2 b3 b4 b5 b6 b7
      have t9 : ∀ o, A9 3 o = A 3 o := fun o => by rw [a9.2.2 3 o (fun e => hd3 e.1.symm), a7.2.2 3 o (fun e => hd3 e.1.symm), a6.2.2 3 o (fun e => hd3 e.1.symm), a5.2.2 3 o (fun e => hd3 e.1.symm), a4.2.2 3 o (fun e => hd3 e.1.symm), a3.2.2 3 o (fun e => hd3 e.1.symm), a2.2.2 3 o (fun e => hd3 e.1.symm)]
      have l9 : ∀ o, (o < 5 ∨ 11 < o) → A9 d o = A d o := fun o ho => by rw [a9.2.2 d o (fun e => by omega), a7.2.2 d o (fun e => by omega), a6.2.2 d o (fun e => by omega), a5.2.2 d o (fun e => by omega), a4.2.2 d o (fun e => by omega), a3.2.2 d o (fun e => by omega), a2.2.2 d o (fun e => by omega)]
      have r6 : A9 d 6 = A2 d 6 := by rw [a9.2.2 d 6 (fun e => by omega), a7.2.2 d 6 (fun e => by omega), a6.2.2 d 6 (fun e => by omega), a5.2.2 d 6 (fun e => by omega), a4.2.2 d 6 (fun e => by omega), a3.2.2 d 6 (fun e => by omega)]
      have r7 : A9 d 7 = A3 d 7 := by rw [a9.2.2 d 7 (fun e => by omega), a7.2.2 d 7 (fun e => by omega), a6.2.2 d 7 (fun e => by omega), a5.2.2 d 7 (fun e => by omega), a4.2.2 d 7 (fun e => by omega)]
      have r8 : A9 d 8 = A4 d 8 := by rw [a9.2.2 d 8 (fun e => by omega), a7.2.2 d 8 (fun e => by omega), a6.2.2 d 8 (fun e => by omega), a5.2.2 d 8 (fun e => by omega)]
      have r9 : A9 d 9 = A5 d 9 := by rw [a9.2.2 d 9 (fun e => by omega), a7.2.2 d 9 (fun e => by omega), a6.2.2 d 9 (fun e => by omega)]
      have r10 : A9 d 10 = A6 d 10 := by rw [a9.2.2 d 10 (fun e => by omega), a7.2.2 d 10 (fun e => by omega)]
      have r11 : A9 d 11 = A7 d 11 := by rw [a9.2.2 d 11 (fun e => by omega)]
      have p7 : A2 d 7 = A d 7 := a2.2.2 d 7 (fun e => by omega)
      have p8 : A3 d 8 = A d 8 := by rw [a3.2.2 d 8 (fun e => by omega), a2.2.2 d 8 (fun e => by omega)]
      have p9' : A4 d 9 = A d 9 := by rw [a4.2.2 d 9 (fun e => by omega), a3.2.2 d 9 (fun e => by omega), a2.2.2 d 9 (fun e => by omega)]
      have p10 : A5 d 10 = A d 10 := by rw [a5.2.2 d 10 (fun e => by omega), a4.2.2 d 10 (fun e => by omega), a3.2.2 d 10 (fun e => by omega), a2.2.2 d 10 (fun e => by omega)]
      have p11 : A6 d 11 = A d 11 := by rw [a6.2.2 d 11 (fun e => by omega), a5.2.2 d 11 (fun e => by omega), a4.2.2 d 11 (fun e => by omega), a3.2.2 d 11 (fun e => by omega), a2.2.2 d 11 (fun e => by omega)]
      have g23 : B9 23 = B2 23 := by rw [b9.2.2.1 23 (by decide), b7.2.2.1 23 (by decide), b6.2.2.1 23 (by decide), b5.2.2.1 23 (by decide), b4.2.2.1 23 (by decide), b3.2.2.1 23 (by decide)]
      have g24 : B9 24 = B3 24 := by rw [b9.2.2.1 24 (by decide), b7.2.2.1 24 (by decide), b6.2.2.1 24 (by decide), b5.2.2.1 24 (by decide), b4.2.2.1 24 (by decide)]
      have g25 : B9 25 = B4 25 := by rw [b9.2.2.1 25 (by decide), b7.2.2.1 25 (by decide), b6.2.2.1 25 (by decide), b5.2.2.1 25 (by decide)]
      have g26 : B9 26 = B5 26 := by rw [b9.2.2.1 26 (by decide), b7.2.2.1 26 (by decide), b6.2.2.1 26 (by decide)]
      have g27 : B9 27 = B6 27 := by rw [b9.2.2.1 27 (by decide), b7.2.2.1 27 (by decide)]
      have g28 : B9 28 = B7 28 := by rw [b9.2.2.1 28 (by decide)]
      have o24 : B2 24 = Am 24 := b2.2.2.1 24 (by decide)
      have o25 : B3 25 = Am 25 := by rw [b3.2.2.1 25 (by decide), b2.2.2.1 25 (by decide)]
      have o26 : B4 26 = Am 26 := by rw [b4.2.2.1 26 (by decide), b3.2.2.1 26 (by decide), b2.2.2.1 26 (by decide)]
      have o27 : B5 27 = Am 27 := by rw [b5.2.2.1 27 (by decide), b4.2.2.1 27 (by decide), b3.2.2.1 27 (by decide), b2.2.2.1 27 (by decide)]
      have o28 : B6 28 = Am 28 := by rw [b6.2.2.1 28 (by decide), b5.2.2.1 28 (by decide), b4.2.2.1 28 (by decide), b3.2.2.1 28 (by decide), b2.2.2.1 28 (by decide)]
      have ra : ∀ o, 6 ≤ o → o ≤ 11 → ∀ i, 0 ≤ i → i ≠ v.toInt * 6 + ci A d 5 v.toInt → ci A9 d o i = ci A d o i := by
        intro o h1 h2 i i0 hn
        have ho : o = 6 ∨ o = 7 ∨ o = 8 ∨ o = 9 ∨ o = 10 ∨ o = 11 := by omega
        rcases ho with rfl | rfl | rfl | rfl | rfl | rfl
        · rw [ci_fr r6]; exact a2.2.1 i i0 hn
        · rw [ci_fr r7, a3.2.1 i i0 hn, ci_fr p7]
        · rw [ci_fr r8, a4.2.1 i i0 hn, ci_fr p8]
        · rw [ci_fr r9, a5.2.1 i i0 hn, ci_fr p9']
        · rw [ci_fr r10, a6.2.1 i i0 hn, ci_fr p10]
        · rw [ci_fr r11, a7.2.1 i i0 hn, ci_fr p11]
      have rm : ∀ j, 23 ≤ j → j ≤ 28 → ∀ i, 0 ≤ i → i ≠ 6 * (6 * (Fm1 19).toInt + v.toInt) + ci A d 5 v.toInt → ai B9 j i = ai Am j i := by
        intro j h1 h2 i i0 hn
        have hj : j = 23 ∨ j = 24 ∨ j = 25 ∨ j = 26 ∨ j = 27 ∨ j = 28 := by omega
        rcases hj with rfl | rfl | rfl | rfl | rfl | rfl
        · rw [ai_fr g23]; exact b2.2.2.2.2 i i0 hn
        · rw [ai_fr g24, b3.2.2.2.2 i i0 hn, ai_fr o24]
        · rw [ai_fr g25, b4.2.2.2.2 i i0 hn, ai_fr o25]
        · rw [ai_fr g26, b5.2.2.2.2 i i0 hn, ai_fr o26]
        · rw [ai_fr g27, b6.2.2.2.2 i i0 hn, ai_fr o27]
        · rw [ai_fr g28, b7.2.2.2.2 i i0 hn, ai_fr o28]
      have w8e : w8.toInt = ci A d 5 v.toInt := by rw [a8.2.2, o5]; rfl
      have W9 : RW d F1 A9 Fm1 B9 := by
        have m9 : ∀ q, (q < 22 ∨ 28 < q) → B9 q = Am q := p9
        refine ⟨?_, ?_, ?_, ?_, ?_, w6.ca (fun o _ => t9 o), ?_⟩
        · have z := w1.ca (A' := A9) (fun o _ _ => l9 o (by omega))
          unfold RWd at z ⊢
          rw [ai_fr (m9 13 (by omega)), ai_fr (m9 14 (by omega)), ai_fr (m9 15 (by omega)), ai_fr (m9 16 (by omega))]
          exact z
        · have z := w2.ca (A' := A9) (t9 4)
          unfold RWt at z ⊢
          rw [ai_fr (m9 18 (by omega))]
          exact z
        · have z := w3.ca (A' := A9) (l9 4 (by omega)) (t9 2)
          unfold RWk at z ⊢
          rw [ai_fr (m9 20 (by omega)), ai_fr (m9 21 (by omega))]
          exact z
        · refine w4.put H1.s0 v0 hw.1 hw.2.1 rfl h6 (by rw [a9.1, i_add (by rw [i_1]; omega) (by rw [i_1]; omega), i_1, w8e]) (fun t t0 tn => by rw [a9.2.1 t t0 tn, ci_fr o5]) ra rm ?_ ?_ ?_ ?_ ?_ ?_
          · rw [ci_fr r6, ai_fr g23, a2.1, b2.2.2.2.1, q5]
          · rw [ci_fr r7, ai_fr g24, a3.1, b3.2.2.2.1, q6]
          · rw [ci_fr r8, ai_fr g25, a4.1, b4.2.2.2.1, q7]
          · rw [ci_fr r9, ai_fr g26, a5.1, b5.2.2.2.1, q8]
          · rw [ci_fr r10, ai_fr g27, a6.1, b6.2.2.2.1]; exact q9
          · rw [ci_fr r11, ai_fr g28, a7.1, b7.2.2.2.1]; exact q10
        · have z := w5.ca (A' := A9) (l9 12 (by omega)) (t9 3)
          unfold RWm at z ⊢
          rw [ai_fr (m9 30 (by omega)), m9 31 (by omega), m9 32 (by omega)]
          exact z
        · unfold RWn at w7 ⊢
          rw [m9 41 (by omega)]
          exact w7
      exact p2_some (.inr ⟨U1.rt, X9, H9, W9⟩)
    · rw [i_lt.mpr (by decide), cond_true, i_nge.mpr (by decide), cond_false]
      exact p2_some (.inr ⟨U1.rt, X, H1, W.v H.s0 hd U1.c U1.m⟩)
  · refine p2_ff E ?_ ?_
    · (simp only [hc, new_0, new_1, new_2, new_3, known_0, known_1, known_2, known_3, gnew_ff E.c, gknown_ff E.c, e_num_ff E.c, e_take_ff E.c, e_next_ff E.c, Option.bind_some, cz_00, cond_true]; exact po_some rfl)
    · ((try dsimp only); repeat' (first | exact po_some rfl | rw [FE.nz E, cond_true] | rw [FE.le E, cond_false] | rw [FE.gt E, cond_true] | rw [d_must_ff (FE.gg E), Option.bind_some] | rw [d_known_ff (FE.gg E), Option.bind_some] | rw [d_num_ff (FE.gg E), Option.bind_some] | rw [d_is_ff (FE.gg E), Option.bind_some] | (refine po_call (d_named_ff (FE.gg E)) ?_; rintro _ rfl; try dsimp only) | refine po_cond (fun _ => ?_) (fun _ => ?_) | refine po_bl (fun _ _ => ?_)))
theorem c_se_ff {y1 y2 y3 y4 y5 y6 y7 : Int32} (h : (F 37 10).toInt ≠ 0) : po (e_Reader_readStep_107 n P F A J y1 y2 y3 y4 y5 y6 y7) (fun a => a.2.2.1 37 10 = F 37 10) := by
  unfold e_Reader_readStep_107
  rw [e_take_ff h, Option.bind_some]
  dsimp only
  rw [cz_00, cond_true]
  exact po_some rfl
theorem d_se_ff {x2 x4 x5 x6 x7 x8 x9 x10 : Int32} (E : FE F Fm) : po (d_tellStep_174 m Fm Am Jm x2 x4 x5 x6 x7 x8 x9 x10) (fun b => b.2.1 13 = Fm 13) := by
  unfold d_tellStep_174
  ((try dsimp only); repeat' (first | exact po_some rfl | rw [FE.nz E, cond_true] | rw [FE.le E, cond_false] | rw [FE.gt E, cond_true] | rw [d_must_ff (FE.gg E), Option.bind_some] | rw [d_known_ff (FE.gg E), Option.bind_some] | rw [d_num_ff (FE.gg E), Option.bind_some] | rw [d_is_ff (FE.gg E), Option.bind_some] | (refine po_call (d_named_ff (FE.gg E)) ?_; rintro _ rfl; try dsimp only) | refine po_cond (fun _ => ?_) (fun _ => ?_) | refine po_bl (fun _ _ => ?_)))
/-- what a step undoes, and its end -/
theorem qs_78 {y2 y3 y4 y5 y6 x4 x5 x6 x7 x8 x9 x10 : Int32} (K : TKs T) (R : RT T F Fm) (X : RX T A J Am Jm) (H : RH d F A J Fm Am Jm) (W : RW d F A Fm Am) (h6 : ∀ t, 0 ≤ t → ci A d 5 t ≤ 6) (hw : 0 ≤ ci A d 5 v.toInt ∧ ci A d 5 v.toInt < 6 ∧ x4.toInt = 6 * (6 * (Fm 19).toInt + v.toInt) + ci A d 5 v.toInt ∨ v = -1) (q5 : y2 = x5) (q6 : y3 = x6) (q7 : y4 = x7) (q8 : y5 = x8) (q9 : NNx y6.toInt x9.toInt) (q10 : x10 = -1) (h5 : P 37 5 = d) (hk : c_kind d = 6) (hv : 0 ≤ v.toInt ∧ v.toInt < (F d 16).toInt ∧ A d 5 v.toInt.toNat = x3 ∨ v = -1) : P2 (e_Reader_readStep_78 n P F A J v y2 y3 y4 y5 y6) (d_tellStep_134 m Fm Am Jm v x3 x4 x5 x6 x7 x8 x9 x10) (RS T d P) := by
  have hd := kd37 hk
  have hc := chk_in h5 hk
  have bt : 0 ≤ (F d 16).toInt ∧ (F d 16).toInt ≤ 6 := H.nr.bd 2 (by decide)
  unfold e_Reader_readStep_78 d_tellStep_134
  rw [R.nz, cond_false]
  refine p2_next K R X (k' := 27) (by decide) (fun hm => ?_) (fun _ => ?_)
  · rw [cz_10, cond_false, cond_false]
    refine p2_goes (k' := 27) K R X (by decide) (by decide) hm (fun F1 Fm1 U1 => ?_) (fun F1 Fm1 fc fm E => ?_)
    · have H1 := U1.v.h hd H
      have e1 := U1.dg hd 16
      dsimp only
      rw [cz_10, cond_false]
      have fin : ∀ {hi : Int32}, (0 ≤ v.toInt ∧ v.toInt < (F d 16).toInt ∨ v = -1) → P2 ((e_Reader_takeNumber P F1 A J 0 hi).bind fun (v48, P49, F50, A51, J52) => e_Reader_readStep_107 n P49 F50 A51 J52 v y2 y3 y4 y5 y6 v48) (d_tellStep_169 m Fm1 Am Jm v x4 x5 x6 x7 x8 x9 0 hi) (RS T d P) := by
        intro hi hv
        unfold d_tellStep_169
        refine p2_num K U1.rt X (fun F2 Fm2 V2 _ => ?_) (fun v2 F2 Fm2 fc fm E => ?_)
        · exact qs_end K V2.rt X (V2.h hd H1) ((W.v H.s0 hd U1.c U1.m).v H1.s0 hd V2.fc V2.fm) h6 (by (try dsimp only); rw [V2.fm 19 (by decide) (by decide) (by decide) (by decide) (by decide), U1.fm 19 (by decide)]; exact hw) q5 q6 q7 q8 q9 (.inl rfl) h5 hk (by rw [V2.dg hd 16, e1]; exact hv)
        · exact p2_ff E (c_se_ff E.c) (d_se_ff E)
      rcases hv with ⟨v0, v1, rfl⟩ | rfl
      · rw [i_ge.mpr (by rw [i_0]; exact v0), cond_true, sn_pos h5 hk v0 (by omega)]
        exact fin (.inl ⟨v0, v1⟩)
      · rw [i_nge.mpr (by decide), cond_false, sn_neg (by decide)]
        exact fin (.inr rfl)
    · refine p2_ff E ?_ ?_
      · dsimp only
        rw [cz_00, cond_true]
        exact c_se_ff E.c
      · dsimp only
        unfold d_tellStep_169
        refine po_cond (fun _ => ?_) (fun _ => ?_)
        · rw [d_num_ff E.gg, Option.bind_some]
          exact d_se_ff E
        · rw [d_num_ff E.gg, Option.bind_some]
          exact d_se_ff E
  · rw [cz_00, cond_true, cond_true]
    exact qs_end K R X H W h6 hw q5 q6 q7 q8 q9 (.inr ⟨by decide, by rw [q10]; decide⟩) h5 hk (hv.imp (fun h => ⟨h.1, h.2.1⟩) id)
theorem c_s78_ff {y1 y2 y3 y4 y5 y6 : Int32} (h : (F 37 10).toInt ≠ 0) : po (e_Reader_readStep_78 n P F A J y1 y2 y3 y4 y5 y6) (fun a => a.2.2.1 37 10 = F 37 10) := by
  unfold e_Reader_readStep_78
  rw [e_next_ff h, Option.bind_some, cz_00, cond_true]
  exact c_se_ff h
theorem d_s134_ff {x2 x4 x5 x6 x7 x8 x9 x10 : Int32} (E : FE F Fm) : po (d_tellStep_134 m Fm Am Jm x2 x3 x4 x5 x6 x7 x8 x9 x10) (fun b => b.2.1 13 = Fm 13) := by
  unfold d_tellStep_134
  rw [E.nz, cond_true]
  exact d_se_ff E
theorem d_s59_ff {x2 s0 s1 s2 : Int32} (E : FE F Fm) : po (d_tellStep_59 m Fm Am Jm x2 x3 s0 s1 s2) (fun b => b.2.1 13 = Fm 13) := by
  unfold d_tellStep_59
  rw [d_num_ff E.gg, Option.bind_some]
  dsimp only
  rw [d_num_ff E.gg, Option.bind_some]
  dsimp only
  rw [d_num_ff E.gg, Option.bind_some]
  dsimp only
  rw [d_num_ff E.gg, Option.bind_some]
  dsimp only
  rw [E.nz, cond_true]
  exact d_s134_ff E
/-- the class's step, behind its task -/
def gstep (n : Nat) (P : Nat → Nat → Nat) (F : Nat → Nat → Int32) (A : Nat → Nat → Nat → Int32) (J : Nat → Nat → Nat → Int64) (v1 : Int32) : Option (Unit × (Nat → Nat → Nat) × (Nat → Nat → Int32) × (Nat → Nat → Nat → Int32) × (Nat → Nat → Nat → Int64)) :=
  (e_Reader_takeNumber P F A J 1 120).bind fun (v6, P7, F8, A9, J10) =>
  (e_Reader_takeNumber P7 F8 A9 J10 0 99).bind fun (v11, P12, F13, A14, J15) =>
  (e_Reader_takeNumber P12 F13 A14 J15 0 99).bind fun (v16, P17, F18, A19, J20) =>
  (e_Reader_takeNumber P17 F18 A19 J20 0 99).bind fun (v21, P22, F23, A24, J25) =>
  (e_Reader_isNext P22 F23 A24 J25 9).bind fun v26 =>
  cond (g_cnd .eq v26 0)
  (e_Reader_readStep_78 n P22 F23 A24 J25 v1 v6 v11 v16 v21 ((-2)))
  ((e_Reader_take P22 F23 A24 J25 9).bind fun (v28, P29, F30, A31, J32) =>
  cond (g_cnd .eq v28 0)
  (e_Reader_readStep_78 n P29 F30 A31 J32 v1 v6 v11 v16 v21 ((-2)))
  ((c_chk 6 (P29 37 5)).bind fun q34 =>
  (e_Reader_takeKnownName_v2 n P29 F30 A31 J32 (F30 q34 15)).bind fun (v35, P36, F37, A38, J39) =>
  e_Reader_readStep_78 n P36 F37 A38 J39 v1 v6 v11 v16 v21 v35))
theorem gstep_ff {y1 : Int32} (h : (F 37 10).toInt ≠ 0) : po (gstep n P F A J y1) (fun a => a.2.2.1 37 10 = F 37 10) := by
  unfold gstep
  rw [e_num_ff h, Option.bind_some]
  dsimp only
  rw [e_num_ff h, Option.bind_some]
  dsimp only
  rw [e_num_ff h, Option.bind_some]
  dsimp only
  rw [e_num_ff h, Option.bind_some]
  dsimp only
  rw [e_next_ff h, Option.bind_some, cz_00, cond_true]
  exact c_s78_ff h
theorem qs_tail {s0 s1 s2 : Int32} (K : TKs T) (R : RT T F Fm) (X : RX T A J Am Jm) (H : RH d F A J Fm Am Jm) (W : RW d F A Fm Am) (h6 : ∀ t, 0 ≤ t → ci A d 5 t ≤ 6) (hw : 0 ≤ ci A d 5 v.toInt ∧ ci A d 5 v.toInt < 6 ∧ ((s0 * (s1 + s2)) + x3).toInt = 6 * (6 * (Fm 19).toInt + v.toInt) + ci A d 5 v.toInt ∨ v = -1) (h5 : P 37 5 = d) (hk : c_kind d = 6) (hv : 0 ≤ v.toInt ∧ v.toInt < (F d 16).toInt ∧ A d 5 v.toInt.toNat = x3 ∨ v = -1) : P2 (gstep n P F A J v) (d_tellStep_59 m Fm Am Jm v x3 s0 s1 s2) (RS T d P) := by
  have hd := kd37 hk
  have hc := chk_in h5 hk
  unfold gstep d_tellStep_59
  have ff : ∀ {w : Int32} {F1 Fm1 y6 y11 y16 y21 y26 x4 x5 x6 x7 x8 x9 x10 x11}, FE F1 Fm1 → P2 (e_Reader_readStep_78 n P F1 A J y6 y11 y16 y21 y26 w) (d_tellStep_134 m Fm1 Am Jm x4 x5 x6 x7 x8 x9 x10 x11 w) (RS T d P) := fun E => p2_ff E (c_s78_ff E.c) (d_s134_ff E)
  refine p2_num K R X (fun F1 Fm1 V1 _ => ?_) (fun v1 F1 Fm1 fc fm E => ?_)
  · dsimp only
    refine p2_num K V1.rt X (fun F2 Fm2 V2 _ => ?_) (fun v2 F2 Fm2 fc fm E => ?_)
    · dsimp only
      refine p2_num K V2.rt X (fun F3 Fm3 V3 _ => ?_) (fun v3 F3 Fm3 fc fm E => ?_)
      · dsimp only
        refine p2_num K V3.rt X (fun F4 Fm4 V4 _ => ?_) (fun v4 F4 Fm4 fc fm E => ?_)
        · dsimp only
          have H4 := V4.h hd (V3.h hd (V2.h hd (V1.h hd H)))
          have e4 : F4 d 16 = F d 16 := by rw [V4.dg hd, V3.dg hd, V2.dg hd, V1.dg hd]
          have W4 : RW d F4 A Fm4 Am := (((W.v H.s0 hd V1.fc V1.fm).v (V1.h hd H).s0 hd V2.fc V2.fm).v (V2.h hd (V1.h hd H)).s0 hd V3.fc V3.fm).v (V3.h hd (V2.h hd (V1.h hd H))).s0 hd V4.fc V4.fm
          have e419 : Fm4 19 = Fm 19 := by rw [V4.fm 19 (by decide) (by decide) (by decide) (by decide) (by decide), V3.fm 19 (by decide) (by decide) (by decide) (by decide) (by decide), V2.fm 19 (by decide) (by decide) (by decide) (by decide) (by decide), V1.fm 19 (by decide) (by decide) (by decide) (by decide) (by decide)]
          rw [← e419] at hw
          rw [V4.rt.nz, cond_false]
          refine p2_next K V4.rt X (k' := 26) (by decide) (fun hm => ?_) (fun _ => ?_)
          · rw [cz_10, cond_false, cond_false]
            refine p2_goes (k' := 26) K V4.rt X (by decide) (by decide) hm (fun F5 Fm5 U5 => ?_) (fun F5 Fm5 fc fm E => ?_)
            · have H5 := U5.v.h hd H4
              dsimp only
              rw [cz_10, cond_false, hc, Option.bind_some, known_1]
              refine p2_known (q := 1) (by decide) (by decide) K U5.rt X H5.nr (fun w F6 Fm6 V6 _ _ => ?_) (fun F6 Fm6 fc fm E _ => ?_)
              · exact qs_78 K V6.rt X (V6.h hd H5) ((W4.v H4.s0 hd U5.c U5.m).v H5.s0 hd V6.fc V6.fm) h6 (by dsimp only; rw [V6.fm 19 (by decide) (by decide) (by decide) (by decide) (by decide), U5.fm 19 (by decide)]; exact hw) rfl rfl rfl rfl (.inl rfl) rfl h5 hk (by dsimp only; rw [V6.dg hd, U5.dg hd, e4]; exact hv)
              · exact p2_ff E (c_s78_ff E.c) (d_s134_ff E)
            · refine p2_ff E ?_ ?_
              · dsimp only
                rw [cz_00, cond_true]
                exact c_s78_ff E.c
              · dsimp only
                rw [d_known_ff E.gg, Option.bind_some]
                exact d_s134_ff E
          · rw [cz_00, cond_true, cond_true]
            exact qs_78 K V4.rt X H4 W4 h6 hw rfl rfl rfl rfl (.inr ⟨by decide, by decide⟩) rfl h5 hk (by rw [e4]; exact hv)
        · refine p2_ff E ?_ ?_
          · dsimp only
            rw [e_next_ff E.c, Option.bind_some, cz_00, cond_true]
            exact c_s78_ff E.c
          · dsimp only
            rw [E.nz, cond_true]
            exact d_s134_ff E
      · refine p2_ff E ?_ ?_
        · dsimp only
          rw [e_num_ff E.c, Option.bind_some]
          dsimp only
          rw [e_next_ff E.c, Option.bind_some, cz_00, cond_true]
          exact c_s78_ff E.c
        · dsimp only
          rw [d_num_ff E.gg, Option.bind_some]
          dsimp only
          rw [E.nz, cond_true]
          exact d_s134_ff E
    · refine p2_ff E ?_ ?_
      · dsimp only
        rw [e_num_ff E.c, Option.bind_some]
        dsimp only
        rw [e_num_ff E.c, Option.bind_some]
        dsimp only
        rw [e_next_ff E.c, Option.bind_some, cz_00, cond_true]
        exact c_s78_ff E.c
      · dsimp only
        rw [d_num_ff E.gg, Option.bind_some]
        dsimp only
        rw [d_num_ff E.gg, Option.bind_some]
        dsimp only
        rw [E.nz, cond_true]
        exact d_s134_ff E
  · refine p2_ff E ?_ ?_
    · dsimp only
      rw [e_num_ff E.c, Option.bind_some]
      dsimp only
      rw [e_num_ff E.c, Option.bind_some]
      dsimp only
      rw [e_num_ff E.c, Option.bind_some]
      dsimp only
      rw [e_next_ff E.c, Option.bind_some, cz_00, cond_true]
      exact c_s78_ff E.c
    · dsimp only
      rw [d_num_ff E.gg, Option.bind_some]
      dsimp only
      rw [d_num_ff E.gg, Option.bind_some]
      dsimp only
      rw [d_num_ff E.gg, Option.bind_some]
      dsimp only
      rw [E.nz, cond_true]
      exact d_s134_ff E
end B1
