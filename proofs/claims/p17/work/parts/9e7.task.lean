section A7
variable {T : TS} {d n m q : Nat} {P : Nat → Nat → Nat} {F F' : Nat → Nat → Int32} {A A' : Nat → Nat → Nat → Int32} {J J' : Nat → Nat → Nat → Int64} {Fm Fm' : Nat → Int32} {Am Am' : Nat → Nat → Int32} {Jm Jm' : Nat → Nat → Int64} {k k' x2 : Int32}
theorem RV.h {o : Int} (V : RV T F F' Fm Fm') (hd : d ≠ 37) (H : RHo o d F A J Fm Am Jm) : RHo o d F' A J Fm' Am Jm := H.v hd V.fc V.fm
theorem RV.dg (V : RV T F F' Fm Fm') (hd : d ≠ 37) (k : Nat) : F' d k = F d k := V.fc d k (fun e => hd e.1)
theorem RU.dg (V : RU T F F' Fm Fm') (hd : d ≠ 37) (k : Nat) : F' d k = F d k := V.fc d k (fun e => hd e.1)
theorem RT.nz (R : RT T F Fm) : g_cnd .ne (Fm 13) 0 = false := i_nne.mpr (by rw [R.g0]; rfl)
theorem RT.le (R : RT T F Fm) : g_cnd .le (Fm 13) 0 = true := i_le.mpr (by rw [R.g0, i_0]; decide)
theorem RT.gt (R : RT T F Fm) : g_cnd .gt (Fm 13) 0 = false := i_ngt.mpr (by rw [R.g0, i_0]; decide)
/-- a tool is told -/
theorem q_tool (K : TKs T) (R : RT T F Fm) (X : RX T A J Am Jm) (H : RH d F A J Fm Am Jm) (W : RW d F A Fm Am) (h5 : P 37 5 = d) (h6 : P 37 6 = 3) (hk : c_kind d = 6) (hm : (Am 3 (Fm 11).toInt.toNat).toInt = (23 : Int32).toInt) : P2 (e_Reader_readTool n P F A J) ((d_roomFor Fm Am Jm (Am 17 (Fm 19).toInt.toNat) 6).bind fun (_, F5, A6, J7) => cond (g_cnd .ne (F5 13) 0) (some ((), F5, A6, J7)) ((d_tellTool m F5 A6 J7).bind fun (_, F10, A11, J12) => some ((), F10, A11, J12))) (RS T d P) := by
  have hd := kd37 hk
  have hd3 := kd3 hk
  have hc := chk_in h5 hk
  have l6 : (6 : Int32).toInt = 6 := by decide
  have bd : 0 ≤ (F d 15).toInt ∧ (F d 15).toInt ≤ 6 := H.nr.bd 1 (by decide)
  have rm : F d 15 = Am 17 (Fm 19).toInt.toNat := H.cn 1 (by decide)
  unfold e_Reader_readTool
  rw [hc, Option.bind_some, ← rm]
  refine p2_first (k' := 23) K R X (by decide) (by decide) hm (by omega) (fun F1 Fm1 U1 hx => ?_) (fun F1 Fm1 fc fm E => ?_)
  · have R1 := U1.rt
    have H1 := U1.v.h hd H
    have e1 := U1.dg hd 15
    dsimp only
    rw [hc, Option.bind_some, R1.nz, cond_false, new_1]
    refine p2_eta ?_
    unfold d_tellTool
    refine p2_new (q := 1) (by decide) h5 (show (F1 d 15).toInt < 6 by rw [e1]; omega) K R1 X H1.nr (fun F2 J2 Fm2 V2 tn ju => ?_) (fun F2 Fm2 fc fm E => ?_)
    · have X2 := X.j ju
      have H2 := V2.h hd (H1.j ju)
      have e2 := V2.dg hd 15
      dsimp only
      rw [hc, Option.bind_some, known_0]
      refine p2_br (fun v5 e5 => ?_)
      refine p2_known (q := 0) (by decide) (by decide) K V2.rt X2 H2.nr (fun v F3 Fm3 V3 _ hv => ?_) (fun F3 Fm3 fc fm E _ => ?_)
      · have H3 := V3.h hd H2
        have e3 := V3.dg hd 15
        dsimp only
        refine p2_br (fun Am4 e4 => ?_)
        have a4 := gg_st e4
        have X4 := X2.a (Am' := Am4) (fun q hq => a4.2.2.1 q (by omega))
        have H4 := H3.a (Am' := Am4) (fun q hq => a4.2.2.1 q (by omega))
        have s0 := H3.s0
        have W3 : RW d F3 A Fm3 Am := ((W.v H.s0 hd U1.c U1.m).v H1.s0 hd V2.fc V2.fm).v H2.s0 hd V3.fc V3.fm
        have v5e : v5 = F1 d 15 := by rw [(gg_ld e5).2.2, ← e2]; exact (H2.cn 1 (by decide)).symm
        have ix : (6 * Fm2 19 + v5).toInt = 6 * (Fm3 19).toInt + (F3 d 15).toInt := by
          rw [H2.ix6 (v := v5) (by rw [v5e, e1]; omega) (by rw [v5e, e1]; omega), V3.fm 19 (by decide) (by decide) (by decide) (by decide) (by decide), e3, e2, v5e]
        have W4 : RW d F3 A Fm3 Am4 := RWc.st W3 s0 a4.2.2.1 a4.2.2.2.2 (fun i h => by have h := RLg.cs h; rw [ix]; omega)
        refine p2_take K V3.rt X4 (by decide) (by decide) (fun F5 Fm5 U5 _ => ?_) (fun F5 Fm5 fc fm E _ => ?_)
        · have H5 := U5.v.h hd H4
          have e5 := U5.dg hd 15
          have W5 : RW d F5 A Fm5 Am4 := W4.v s0 hd U5.c U5.m
          dsimp only
          rw [cz_10, cond_false, U5.rt.le, cond_true]
          refine p2_bl (fun q25 e25 => ?_)
          obtain ⟨-, rfl⟩ := gg_chk e25
          rw [hc, Option.bind_some, h6]
          refine p2_bl (fun A6 e6 => ?_)
          have a6 := (gg_cst e6).2.2
          rw [Option.bind_some]
          have X6 := X4.ca (A' := A6) (fun o => a6.2.2 37 o (fun e => absurd e.1 (by decide)))
          have H6 : RH d F5 A6 J2 Fm5 Am4 Jm := H5.fr (fun _ _ _ => rfl) rfl (a6.2.2 d 5 (fun e => hd3 e.1)) (fun _ _ => rfl) rfl rfl rfl (fun _ _ => rfl) rfl
          have e15 : F5 d 15 = F1 d 15 := by rw [e5, e3, e2]
          obtain ⟨w1, w2, w3, w4, w5, w6, w7⟩ := W5
          have l3 : ∀ o, A6 d o = A d o := fun o => a6.2.2 d o (fun e => hd3 e.1)
          have t3 : ∀ o, o ≠ 4 → A6 3 o = A 3 o := fun o ho => a6.2.2 3 o (fun e => ho e.2)
          have e519 : Fm5 19 = Fm3 19 := U5.fm 19 (by decide)
          refine q_tail (q := 1) (by decide) (by decide) hd U5.rt X6 H6 (show J2 37 8 (F5 d 15).toInt.toNat = _ by rw [e15]; exact ju.1) tn (show (F5 d 15).toInt < 6 by rw [e15, e1]; omega) (fun h => absurd h (by decide)) ⟨w1.ca (fun o _ _ => l3 o), w2.add (fun k k0 _ kn => a6.2.1 k k0 kn) (by rw [e15, e1]; omega) ?_ (by rw [e15, e1]; omega), w3.ca (l3 4) (t3 2 (by decide)), w4.ca (fun o _ _ => l3 o), w5.ca (l3 12) (t3 3 (by decide)), w6.ca (fun o ho => t3 o (by omega)), w7⟩
          rw [a6.1, e519, e5, ← ix, a4.2.2.2.1]
        · refine p2_ff E ?_ ?_
          · (simp only [hc, new_0, new_1, new_2, new_3, known_0, known_1, known_2, known_3, gnew_ff E.c, gknown_ff E.c, e_num_ff E.c, e_take_ff E.c, e_next_ff E.c, Option.bind_some, cz_00, cond_true]; exact po_some rfl)
          · ((try dsimp only); repeat' (first | exact po_some rfl | rw [FE.nz E, cond_true] | rw [FE.le E, cond_false] | rw [FE.gt E, cond_true] | rw [d_must_ff (FE.gg E), Option.bind_some] | rw [d_known_ff (FE.gg E), Option.bind_some] | rw [d_num_ff (FE.gg E), Option.bind_some] | rw [d_is_ff (FE.gg E), Option.bind_some] | (refine po_call (d_named_ff (FE.gg E)) ?_; rintro _ rfl; try dsimp only) | refine po_cond (fun _ => ?_) (fun _ => ?_) | refine po_bl (fun _ _ => ?_)))
      · refine p2_ff E ?_ ?_
        · (simp only [hc, new_0, new_1, new_2, new_3, known_0, known_1, known_2, known_3, gnew_ff E.c, gknown_ff E.c, e_num_ff E.c, e_take_ff E.c, e_next_ff E.c, Option.bind_some, cz_00, cond_true]; exact po_some rfl)
        · ((try dsimp only); repeat' (first | exact po_some rfl | rw [FE.nz E, cond_true] | rw [FE.le E, cond_false] | rw [FE.gt E, cond_true] | rw [d_must_ff (FE.gg E), Option.bind_some] | rw [d_known_ff (FE.gg E), Option.bind_some] | rw [d_num_ff (FE.gg E), Option.bind_some] | rw [d_is_ff (FE.gg E), Option.bind_some] | (refine po_call (d_named_ff (FE.gg E)) ?_; rintro _ rfl; try dsimp only) | refine po_cond (fun _ => ?_) (fun _ => ?_) | refine po_bl (fun _ _ => ?_)))
    · refine p2_ff E ?_ ?_
      · (simp only [hc, new_0, new_1, new_2, new_3, known_0, known_1, known_2, known_3, gnew_ff E.c, gknown_ff E.c, e_num_ff E.c, e_take_ff E.c, e_next_ff E.c, Option.bind_some, cz_00, cond_true]; exact po_some rfl)
      · ((try dsimp only); repeat' (first | exact po_some rfl | rw [FE.nz E, cond_true] | rw [FE.le E, cond_false] | rw [FE.gt E, cond_true] | rw [d_must_ff (FE.gg E), Option.bind_some] | rw [d_known_ff (FE.gg E), Option.bind_some] | rw [d_num_ff (FE.gg E), Option.bind_some] | rw [d_is_ff (FE.gg E), Option.bind_some] | (refine po_call (d_named_ff (FE.gg E)) ?_; rintro _ rfl; try dsimp only) | refine po_cond (fun _ => ?_) (fun _ => ?_) | refine po_bl (fun _ _ => ?_)))
  · refine p2_ff E ?_ ?_
    · (simp only [hc, new_0, new_1, new_2, new_3, known_0, known_1, known_2, known_3, gnew_ff E.c, gknown_ff E.c, e_num_ff E.c, e_take_ff E.c, e_next_ff E.c, Option.bind_some, cz_00, cond_true]; exact po_some rfl)
    · (dsimp only; rw [FE.nz E, cond_true]; exact po_some rfl)
/-- a task is told -/
theorem q_task (K : TKs T) (R : RT T F Fm) (X : RX T A J Am Jm) (H : RH d F A J Fm Am Jm) (W : RW d F A Fm Am) (h5 : P 37 5 = d) (h6 : P 37 6 = 3) (hk : c_kind d = 6) (hz : ∀ t, cf F d 16 ≤ t → t < 6 → ci A d 5 t = 0) (hm : (Am 3 (Fm 11).toInt.toNat).toInt = (24 : Int32).toInt) : P2 (e_Reader_readTask n P F A J) ((d_roomFor Fm Am Jm (Am 19 (Fm 19).toInt.toNat) 6).bind fun (_, F5, A6, J7) => cond (g_cnd .ne (F5 13) 0) (some ((), F5, A6, J7)) ((d_tellTask m F5 A6 J7).bind fun (_, F10, A11, J12) => some ((), F10, A11, J12))) (RS T d P) := by
  have hd := kd37 hk
  have hd3 := kd3 hk
  have hc := chk_in h5 hk
  have l6 : (6 : Int32).toInt = 6 := by decide
  have bd : 0 ≤ (F d 16).toInt ∧ (F d 16).toInt ≤ 6 := H.nr.bd 2 (by decide)
  have rm : F d 16 = Am 19 (Fm 19).toInt.toNat := H.cn 2 (by decide)
  unfold e_Reader_readTask
  rw [hc, Option.bind_some, ← rm]
  refine p2_first (k' := 24) K R X (by decide) (by decide) hm (by omega) (fun F1 Fm1 U1 hx => ?_) (fun F1 Fm1 fc fm E => ?_)
  · have R1 := U1.rt
    have H1 := U1.v.h hd H
    have e1 := U1.dg hd 16
    dsimp only
    rw [hc, Option.bind_some, R1.nz, cond_false, new_2]
    refine p2_eta ?_
    unfold d_tellTask
    have s0 := H1.s0
    have s1 := H1.s1
    refine p2_br (fun v1 ev1 => ?_)
    have av1 := gg_ld ev1
    have v1e : v1 = F1 d 16 := by rw [av1.2.2]; exact (H1.cn 2 (by decide)).symm
    refine p2_new (q := 2) (by decide) h5 (show (F1 d 16).toInt < 6 by rw [e1]; omega) K R1 X H1.nr (fun F2 J2 Fm2 V2 tn ju => ?_) (fun F2 Fm2 fc fm E => ?_)
    · have X2 := X.j ju
      have H2 := V2.h hd (H1.j ju)
      have e2 := V2.dg hd 16
      dsimp only
      rw [hc, Option.bind_some, known_0]
      refine p2_known (q := 0) (by decide) (by decide) K V2.rt X2 H2.nr (fun v F3 Fm3 V3 _ hv => ?_) (fun F3 Fm3 fc fm E _ => ?_)
      · have H3 := V3.h hd H2
        have e3 := V3.dg hd 16
        dsimp only
        refine p2_br (fun Am4 e4 => ?_)
        have a4 := gg_st e4
        have X4 := X2.a (Am' := Am4) (fun q hq => a4.2.2.1 q (by omega))
        have H4 := H3.a (Am' := Am4) (fun q hq => a4.2.2.1 q (by omega))
        refine p2_num K V3.rt X4 (fun F5 Fm5 V5 _ => ?_) (fun v5 F5 Fm5 fc fm E => ?_)
        · have H5 := V5.h hd H4
          have e5 := V5.dg hd 16
          dsimp only
          refine p2_br (fun Am6 e6 => ?_)
          have a6 := gg_st e6
          refine p2_br (fun Am7 e7 => ?_)
          have a7 := gg_st e7
          have X7 := X4.a (Am' := Am7) (fun q hq => by rw [a7.2.2.1 q (by omega), a6.2.2.1 q (by omega)])
          have e16 : F5 d 16 = F1 d 16 := by rw [e5, e3, e2]
          have e19 : Fm5 19 = Fm1 19 := by
            rw [V5.fm 19 (by decide) (by decide) (by decide) (by decide) (by decide), V3.fm 19 (by decide) (by decide) (by decide) (by decide) (by decide), V2.fm 19 (by decide) (by decide) (by decide) (by decide) (by decide)]
          have em := i_mulL (c := 6) (k := 6) (x := Fm1 19) (by decide) (by omega) (by omega)
          have ei := i_add (x := 6 * Fm1 19) (y := v1) (by rw [v1e, e1]; omega) (by rw [v1e, e1]; omega)
          have ix : (6 * Fm1 19 + v1).toInt = 6 * (Fm5 19).toInt + (F5 d 16).toInt := by rw [ei, em, e19, e16, v1e]
          have e319 : Fm3 19 = Fm1 19 := by rw [V3.fm 19 (by decide) (by decide) (by decide) (by decide) (by decide), V2.fm 19 (by decide) (by decide) (by decide) (by decide) (by decide)]
          have e316 : F3 d 16 = F1 d 16 := by rw [e3, e2]
          have W3 : RW d F3 A Fm3 Am := ((W.v H.s0 hd U1.c U1.m).v H1.s0 hd V2.fc V2.fm).v H2.s0 hd V3.fc V3.fm
          have W4 : RW d F3 A Fm3 Am4 := RWc.st W3 H3.s0 a4.2.2.1 a4.2.2.2.2 (fun i h => by have h := RLg.cs h; rw [ix, e19, e16, ← e319, ← e316]; have := H3.s0; omega)
          have W5 : RW d F5 A Fm5 Am4 := W4.v H3.s0 hd V5.fc V5.fm
          have W6 : RW d F5 A Fm5 Am6 := RWc.st W5 H5.s0 a6.2.2.1 a6.2.2.2.2 (fun i h => by have h := RLg.cs h; rw [ix]; have := H5.s0; omega)
          have W7 : RW d F5 A Fm5 Am7 := RWc.st W6 H5.s0 a7.2.2.1 a7.2.2.2.2 (fun i h => by have h := RLg.cs h; omega)
          have o7 : ∀ q, q ≠ 21 → q ≠ 22 → Am7 q = Am4 q := fun q h1 h2 => by rw [a7.2.2.1 q h2, a6.2.2.1 q h1]
          have H7 : RH d F5 A J2 Fm5 Am7 Jm := by
            refine ⟨H5.s0, H5.s1, fun q hq => ?_, ?_, ?_, fun k k0 k1 => ?_, H5.nr.fr (fun _ _ => rfl) (fun _ _ => rfl) rfl (o7 9 (by decide) (by decide)) (o7 10 (by decide) (by decide)) rfl, H5.op⟩
            · rw [o7 (rq q) (by have := rq_in q; omega) (by have := rq_in q; omega)]; exact H5.cn q hq
            · rw [o7 12 (by decide) (by decide)]; exact H5.dr
            · rw [o7 33 (by decide) (by decide)]; exact H5.lw
            · rw [a7.2.2.2.2 _ (by rw [e19]; omega) (by rw [ix]; omega), ai_fr (a6.2.2.1 22 (by decide))]
              exact H5.sc k k0 k1
          refine p2_take K V5.rt X7 (by decide) (by decide) (fun F8 Fm8 U8 _ => ?_) (fun F8 Fm8 fc fm E _ => ?_)
          · have H8 := U8.v.h hd H7
            have e8 := U8.dg hd 16
            have e819 : Fm8 19 = Fm5 19 := U8.fm 19 (by decide)
            dsimp only
            rw [cz_10, cond_false, U8.rt.le, cond_true, hc, Option.bind_some, Option.bind_some]
            refine p2_bl (fun A9 e9 => ?_)
            have a9 := (gg_cst e9).2.2
            refine p2_bl (fun q25 e25 => ?_)
            obtain ⟨-, rfl⟩ := gg_chk e25
            rw [Option.bind_some, h6]
            refine p2_bl (fun A10 e10 => ?_)
            have a10 := (gg_cst e10).2.2
            rw [Option.bind_some]
            have o37 : ∀ o, A10 37 o = A 37 o := fun o => by rw [a10.2.2 37 o (fun e => absurd e.1 (by decide)), a9.2.2 37 o (fun e => hd e.1.symm)]
            have o5 : A10 d 5 = A d 5 := by rw [a10.2.2 d 5 (fun e => hd3 e.1), a9.2.2 d 5 (fun e => absurd e.2 (by decide))]
            have X10 := X7.ca (A' := A10) o37
            have H10 : RH d F8 A10 J2 Fm8 Am7 Jm := H8.fr (fun _ _ _ => rfl) rfl o5 (fun _ _ => rfl) rfl rfl rfl (fun _ _ => rfl) rfl
            have e816 : F8 d 16 = F1 d 16 := by rw [e8, e16]
            have W8 : RW d F8 A Fm8 Am7 := W7.v H5.s0 hd U8.c U8.m
            obtain ⟨w1, w2, w3, w4, w5, w6, w7⟩ := W8
            have l9 : ∀ o, o ≠ 4 → A10 d o = A d o := fun o ho => by rw [a10.2.2 d o (fun e => hd3 e.1), a9.2.2 d o (fun e => ho e.2)]
            have t9 : ∀ o, o ≠ 2 → A10 3 o = A 3 o := fun o ho => by rw [a10.2.2 3 o (fun e => ho e.2), a9.2.2 3 o (fun e => hd3 e.1.symm)]
            have r4 : A10 d 4 = A9 d 4 := a10.2.2 d 4 (fun e => hd3 e.1)
            have r2 : A9 3 2 = A 3 2 := a9.2.2 3 2 (fun e => hd3 e.1.symm)
            refine q_tail (q := 2) (by decide) (by decide) hd U8.rt X10 H10 (show J2 37 9 (F8 d 16).toInt.toNat = _ by rw [e816]; exact ju.1) tn (show (F8 d 16).toInt < 6 by rw [e816, e1]; omega) (fun _ => ?_) ⟨w1.ca (fun o _ _ => l9 o (by omega)), w2.ca (t9 4 (by decide)), w3.add (fun k k0 _ kn => ⟨by rw [ci_fr r4]; exact a9.2.1 k k0 kn, by rw [a10.2.1 k k0 kn, ci_fr r2]⟩) (by rw [e816, e1]; omega) ?_ ?_ (by rw [e816, e1]; omega), w4.add (fun o _ _ => l9 o (by omega)) (hz _ (by rw [e816, e1]; exact Int.le_refl _) (by rw [e816, e1]; omega)), w5.ca (l9 12 (by decide)) (t9 3 (by decide)), w6.ca (fun o ho => t9 o (by omega)), w7⟩
            · rw [ci_fr o5, e819, e8, ← ix, a7.2.2.2.1, e16, e1]
              exact hz _ (Int.le_refl _) (by omega)
            · rw [ci_fr r4, a9.1, e819, e8, ← ix, ai_fr (o7 20 (by decide) (by decide)), a4.2.2.2.1]
            · rw [a10.1, e819, e8, ← ix, ai_fr (a7.2.2.1 21 (by decide)), a6.2.2.2.1]
          · refine p2_ff E ?_ ?_
            · (simp only [hc, new_0, new_1, new_2, new_3, known_0, known_1, known_2, known_3, gnew_ff E.c, gknown_ff E.c, e_num_ff E.c, e_take_ff E.c, e_next_ff E.c, Option.bind_some, cz_00, cond_true]; exact po_some rfl)
            · ((try dsimp only); repeat' (first | exact po_some rfl | rw [FE.nz E, cond_true] | rw [FE.le E, cond_false] | rw [FE.gt E, cond_true] | rw [d_must_ff (FE.gg E), Option.bind_some] | rw [d_known_ff (FE.gg E), Option.bind_some] | rw [d_num_ff (FE.gg E), Option.bind_some] | rw [d_is_ff (FE.gg E), Option.bind_some] | (refine po_call (d_named_ff (FE.gg E)) ?_; rintro _ rfl; try dsimp only) | refine po_cond (fun _ => ?_) (fun _ => ?_) | refine po_bl (fun _ _ => ?_)))
        · refine p2_ff E ?_ ?_
          · (simp only [hc, new_0, new_1, new_2, new_3, known_0, known_1, known_2, known_3, gnew_ff E.c, gknown_ff E.c, e_num_ff E.c, e_take_ff E.c, e_next_ff E.c, Option.bind_some, cz_00, cond_true]; exact po_some rfl)
          · ((try dsimp only); repeat' (first | exact po_some rfl | rw [FE.nz E, cond_true] | rw [FE.le E, cond_false] | rw [FE.gt E, cond_true] | rw [d_must_ff (FE.gg E), Option.bind_some] | rw [d_known_ff (FE.gg E), Option.bind_some] | rw [d_num_ff (FE.gg E), Option.bind_some] | rw [d_is_ff (FE.gg E), Option.bind_some] | (refine po_call (d_named_ff (FE.gg E)) ?_; rintro _ rfl; try dsimp only) | refine po_cond (fun _ => ?_) (fun _ => ?_) | refine po_bl (fun _ _ => ?_)))
      · refine p2_ff E ?_ ?_
        · (simp only [hc, new_0, new_1, new_2, new_3, known_0, known_1, known_2, known_3, gnew_ff E.c, gknown_ff E.c, e_num_ff E.c, e_take_ff E.c, e_next_ff E.c, Option.bind_some, cz_00, cond_true]; exact po_some rfl)
        · ((try dsimp only); repeat' (first | exact po_some rfl | rw [FE.nz E, cond_true] | rw [FE.le E, cond_false] | rw [FE.gt E, cond_true] | rw [d_must_ff (FE.gg E), Option.bind_some] | rw [d_known_ff (FE.gg E), Option.bind_some] | rw [d_num_ff (FE.gg E), Option.bind_some] | rw [d_is_ff (FE.gg E), Option.bind_some] | (refine po_call (d_named_ff (FE.gg E)) ?_; rintro _ rfl; try dsimp only) | refine po_cond (fun _ => ?_) (fun _ => ?_) | refine po_bl (fun _ _ => ?_)))
    · refine p2_ff E ?_ ?_
      · (simp only [hc, new_0, new_1, new_2, new_3, known_0, known_1, known_2, known_3, gnew_ff E.c, gknown_ff E.c, e_num_ff E.c, e_take_ff E.c, e_next_ff E.c, Option.bind_some, cz_00, cond_true]; exact po_some rfl)
      · ((try dsimp only); repeat' (first | exact po_some rfl | rw [FE.nz E, cond_true] | rw [FE.le E, cond_false] | rw [FE.gt E, cond_true] | rw [d_must_ff (FE.gg E), Option.bind_some] | rw [d_known_ff (FE.gg E), Option.bind_some] | rw [d_num_ff (FE.gg E), Option.bind_some] | rw [d_is_ff (FE.gg E), Option.bind_some] | (refine po_call (d_named_ff (FE.gg E)) ?_; rintro _ rfl; try dsimp only) | refine po_cond (fun _ => ?_) (fun _ => ?_) | refine po_bl (fun _ _ => ?_)))
  · refine p2_ff E ?_ ?_
    · (simp only [hc, new_0, new_1, new_2, new_3, known_0, known_1, known_2, known_3, gnew_ff E.c, gknown_ff E.c, e_num_ff E.c, e_take_ff E.c, e_next_ff E.c, Option.bind_some, cz_00, cond_true]; exact po_some rfl)
    · (dsimp only; rw [FE.nz E, cond_true]; exact po_some rfl)
end A7
