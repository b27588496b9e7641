section A9
variable {T : TS} {d n m q : Nat} {P : Nat → Nat → Nat} {F F' : Nat → Nat → Int32} {A A' : Nat → Nat → Nat → Int32} {J J' : Nat → Nat → Nat → Int64} {Fm Fm' : Nat → Int32} {Am Am' : Nat → Nat → Int32} {Jm Jm' : Nat → Nat → Int64} {k k' x1 x2 x3 s0 v : Int32}
theorem o_eta {α : Type} {o : Option (α × (Nat → Nat → Nat) × (Nat → Nat → Int32) × (Nat → Nat → Nat → Int32) × (Nat → Nat → Nat → Int64))} : (o.bind fun (v4, P5, F6, A7, J8) => some (v4, P5, F6, A7, J8)) = o := by
  cases o with
  | none => rfl
  | some r => rfl
theorem sn_neg (h : v.toInt < 0) : e_Reader_takeStepNumber P F A J v = e_Reader_takeNumber P F A J 0 9999 := by
  unfold e_Reader_takeStepNumber
  rw [i_nge.mpr (by rw [i_0]; exact h), cond_false]
  exact o_eta
theorem sn_pos (h5 : P 37 5 = d) (hk : c_kind d = 6) (h0 : 0 ≤ v.toInt) (h1 : v.toInt < 6) : e_Reader_takeStepNumber P F A J v = e_Reader_takeNumber P F A J 0 (A d 5 v.toInt.toNat - 1) := by
  unfold e_Reader_takeStepNumber
  rw [i_ge.mpr (by rw [i_0]; exact h0), cond_true, chk_in h5 hk, Option.bind_some, m_ld_in h0 (by omega), Option.bind_some]
  exact o_eta
theorem sn_ff (h5 : P 37 5 = d) (hk : c_kind d = 6) (h : (F 37 10).toInt ≠ 0) : po (e_Reader_takeStepNumber P F A J v) (fun r => ∃ w, r = (w, P, F, A, J)) := by
  unfold e_Reader_takeStepNumber
  refine po_cond (fun _ => ?_) (fun _ => ?_)
  · refine po_bl (fun _ _ => po_bl (fun _ _ => ?_))
    unfold e_Reader_takeStepNumber_23
    rw [e_num_ff h, Option.bind_some]
    exact po_some ⟨_, rfl⟩
  · unfold e_Reader_takeStepNumber_23
    rw [e_num_ff h, Option.bind_some]
    exact po_some ⟨_, rfl⟩
/-- the number of steps, on both sides -/
theorem RHo.sc' {o : Int} (H : RHo o d F A J Fm Am Jm) {ix : Int32} (h0 : 0 ≤ v.toInt) (h1 : v.toInt < (F d 16).toInt) (hi : ix.toInt = 6 * (Fm 19).toInt + v.toInt) : A d 5 v.toInt.toNat = Am 22 ix.toInt.toNat := by
  have := H.sc v.toInt h0 h1
  unfold ci ai at this
  rw [← hi] at this
  exact i_ext this
theorem RHo.ix {o : Int} (H : RHo o d F A J Fm Am Jm) (h0 : 0 ≤ v.toInt) (h1 : v.toInt ≤ 12) : (6 * Fm 19 + v).toInt = 6 * (Fm 19).toInt + v.toInt := by
  have s0 := H.s0
  have s1 := H.s1
  have em := i_mulL (c := 6) (k := 6) (x := Fm 19) (by decide) (by omega) (by omega)
  rw [i_add (by omega) (by omega), em]
/-- the end of a man's sentence -/
theorem qm_end {tok : Int32} (K : TKs T) (R : RT T F Fm) (X : RX T A J Am Jm) (H : RH d F A J Fm Am Jm) (W : RW d F A Fm Am) (z1 : ai Am 30 (6 * (Fm 19).toInt + (F d 17).toInt) = x1.toInt) (z2 : LFx x2 (Am 31 (6 * (Fm 19).toInt + (F d 17).toInt).toNat) (Am 32 (6 * (Fm 19).toInt + (F d 17).toInt).toNat)) (h5 : P 37 5 = d) (h6 : P 37 6 = 3) (hk : c_kind d = 6) {x : Int64} (hx : J 37 10 (F d 17).toInt.toNat = x) (tn : TNi x.toInt (T.jr tok.toInt.toNat).toInt) (hl : (F d 17).toInt < 6) : P2 (e_Reader_readMan_92 n P F A J x1 x2) (d_tellMan_118 m Fm Am Jm tok) (RS T d P) := by
  have hd := kd37 hk
  have hd3 := kd3 hk
  have hc := chk_in h5 hk
  unfold e_Reader_readMan_92 d_tellMan_118
  refine p2_take K R X (by decide) (by decide) (fun F1 Fm1 U1 _ => ?_) (fun F1 Fm1 fc fm E _ => ?_)
  · have H1 := U1.v.h hd H
    have e1 := U1.dg hd 17
    dsimp only
    rw [cz_10, cond_false, U1.rt.le, cond_true, hc, Option.bind_some, Option.bind_some]
    refine p2_bl (fun A2 e2 => ?_)
    have a2 := (gg_cst e2).2.2
    refine p2_bl (fun q5 e5 => ?_)
    obtain ⟨-, rfl⟩ := gg_chk e5
    rw [Option.bind_some, h6]
    refine p2_bl (fun A3 e3 => ?_)
    have a3 := (gg_cst e3).2.2
    rw [Option.bind_some]
    have o37 : ∀ o, A3 37 o = A 37 o := fun o => by rw [a3.2.2 37 o (fun e => absurd e.1 (by decide)), a2.2.2 37 o (fun e => hd e.1.symm)]
    have o5 : A3 d 5 = A d 5 := by rw [a3.2.2 d 5 (fun e => hd3 e.1), a2.2.2 d 5 (fun e => absurd e.2 (by decide))]
    have X4 := X.ca (A' := A3) o37
    have H4 : RH d F1 A3 J Fm1 Am Jm := H1.fr (fun _ _ _ => rfl) rfl o5 (fun _ _ => rfl) rfl rfl rfl (fun _ _ => rfl) rfl
    have W1 : RW d F1 A Fm1 Am := W.v H.s0 hd U1.c U1.m
    have bm : 0 ≤ (F d 17).toInt ∧ (F d 17).toInt ≤ 6 := H.nr.bd 3 (by decide)
    have e19 : Fm1 19 = Fm 19 := U1.fm 19 (by decide)
    obtain ⟨w1, w2, w3, w4, w5, w6, w7⟩ := W1
    have l9 : ∀ o, o ≠ 12 → A3 d o = A d o := fun o ho => by rw [a3.2.2 d o (fun e => hd3 e.1), a2.2.2 d o (fun e => ho e.2)]
    have t9 : ∀ o, o ≠ 3 → A3 3 o = A 3 o := fun o ho => by rw [a3.2.2 3 o (fun e => ho e.2), a2.2.2 3 o (fun e => hd3 e.1.symm)]
    have r12 : A3 d 12 = A2 d 12 := a3.2.2 d 12 (fun e => hd3 e.1)
    have r3 : A2 3 3 = A 3 3 := a2.2.2 3 3 (fun e => hd3 e.1.symm)
    have n3 : A3 3 3 (F1 d 17).toInt.toNat = x2 := i_ext a3.1
    refine q_tail (q := 3) (by decide) (by decide) hd U1.rt X4 H4 (show J 37 10 (F1 d 17).toInt.toNat = _ by rw [e1]; exact hx) tn (show (F1 d 17).toInt < 6 by rw [e1]; exact hl) (fun h => absurd h (by decide)) ⟨w1.ca (fun o _ _ => l9 o (by omega)), w2.ca (t9 4 (by decide)), w3.ca (l9 4 (by decide)) (t9 2 (by decide)), w4.ca (fun o _ _ => l9 o (by omega)), w5.add (fun k k0 _ kn => ⟨by rw [ci_fr r12]; exact a2.2.1 k k0 kn, by rw [a3.2.1 k k0 kn, ci_fr r3]⟩) (by rw [e1]; exact hl) ?_ ?_ (by rw [e1]; exact bm.1), w6.ca (fun o ho => t9 o (by omega)), w7⟩
    · rw [ci_fr r12, a2.1, e19, e1]
      exact z1.symm
    · rw [n3, e19, e1]
      exact z2
  · refine p2_ff E ?_ ?_
    · (simp only [hc, new_0, new_1, new_2, new_3, known_0, known_1, known_2, known_3, gnew_ff E.c, gknown_ff E.c, e_num_ff E.c, e_take_ff E.c, e_next_ff E.c, Option.bind_some, cz_00, cond_true]; exact po_some rfl)
    · ((try dsimp only); repeat' (first | exact po_some rfl | rw [FE.nz E, cond_true] | rw [FE.le E, cond_false] | rw [FE.gt E, cond_true] | rw [d_must_ff (FE.gg E), Option.bind_some] | rw [d_known_ff (FE.gg E), Option.bind_some] | rw [d_num_ff (FE.gg E), Option.bind_some] | rw [d_is_ff (FE.gg E), Option.bind_some] | (refine po_call (d_named_ff (FE.gg E)) ?_; rintro _ rfl; try dsimp only) | refine po_cond (fun _ => ?_) (fun _ => ?_) | refine po_bl (fun _ _ => ?_)))
theorem c_man_ff {y1 y2 : Int32} (h : (F 37 10).toInt ≠ 0) : po (e_Reader_readMan_92 n P F A J y1 y2) (fun a => a.2.2.1 37 10 = F 37 10) := by
  unfold e_Reader_readMan_92
  rw [e_take_ff h, Option.bind_some]
  dsimp only
  rw [cz_00, cond_true]
  exact po_some rfl
theorem d_man_ff {tok : Int32} (E : FE F Fm) : po (d_tellMan_118 m Fm Am Jm tok) (fun b => b.2.1 13 = Fm 13) := by
  unfold d_tellMan_118
  ((try dsimp only); repeat' (first | exact po_some rfl | rw [FE.nz E, cond_true] | rw [FE.le E, cond_false] | rw [FE.gt E, cond_true] | rw [d_must_ff (FE.gg E), Option.bind_some] | rw [d_known_ff (FE.gg E), Option.bind_some] | rw [d_num_ff (FE.gg E), Option.bind_some] | rw [d_is_ff (FE.gg E), Option.bind_some] | (refine po_call (d_named_ff (FE.gg E)) ?_; rintro _ rfl; try dsimp only) | refine po_cond (fun _ => ?_) (fun _ => ?_) | refine po_bl (fun _ _ => ?_)))
/-- a man is told -/
theorem q_man (K : TKs T) (R : RT T F Fm) (X : RX T A J Am Jm) (H : RH d F A J Fm Am Jm) (W : RW d F A Fm Am) (h5 : P 37 5 = d) (h6 : P 37 6 = 3) (hk : c_kind d = 6) (hm : (Am 3 (Fm 11).toInt.toNat).toInt = (28 : Int32).toInt) : P2 (e_Reader_readMan n P F A J) ((d_roomFor Fm Am Jm (Am 29 (Fm 19).toInt.toNat) 6).bind fun (_, F5, A6, J7) => cond (g_cnd .ne (F5 13) 0) (some ((), F5, A6, J7)) ((d_tellMan m F5 A6 J7).bind fun (_, F10, A11, J12) => some ((), F10, A11, J12))) (RS T d P) := by
  have hd := kd37 hk
  have hc := chk_in h5 hk
  have l6 : (6 : Int32).toInt = 6 := by decide
  have bd : 0 ≤ (F d 17).toInt ∧ (F d 17).toInt ≤ 6 := H.nr.bd 3 (by decide)
  have bt : 0 ≤ (F d 16).toInt ∧ (F d 16).toInt ≤ 6 := H.nr.bd 2 (by decide)
  have rm : F d 17 = Am 29 (Fm 19).toInt.toNat := H.cn 3 (by decide)
  unfold e_Reader_readMan
  rw [hc, Option.bind_some, ← rm]
  refine p2_first (k' := 28) K R X (by decide) (by decide) hm (by omega) (fun F1 Fm1 U1 hx => ?_) (fun F1 Fm1 fc fm E => ?_)
  · have R1 := U1.rt
    have H1 := U1.v.h hd H
    have e1 := U1.dg hd 17
    dsimp only
    rw [hc, Option.bind_some, R1.nz, cond_false, new_3]
    refine p2_eta ?_
    unfold d_tellMan
    refine p2_br (fun v1 ev1 => ?_)
    refine p2_new (q := 3) (by decide) h5 (show (F1 d 17).toInt < 6 by rw [e1]; omega) K R1 X H1.nr (fun F2 J2 Fm2 V2 tn ju => ?_) (fun F2 Fm2 fc fm E => ?_)
    · have X2 := X.j ju
      have H2 := V2.h hd (H1.j ju)
      have e2 := V2.dg hd 17
      dsimp only
      rw [hc, Option.bind_some, known_0]
      refine p2_known (q := 0) (by decide) (by decide) K V2.rt X2 H2.nr (fun v F3 Fm3 V3 _ hv => ?_) (fun F3 Fm3 fc fm E _ => ?_)
      · have H3 := V3.h hd H2
        have e3 := V3.dg hd 17
        dsimp only
        refine p2_br (fun Am4 e4 => ?_)
        have a4 := gg_st e4
        refine p2_br (fun Am5 e5 => ?_)
        have a5 := gg_st e5
        refine p2_br (fun Am6 e6 => ?_)
        have a6 := gg_st e6
        have o6 : ∀ q, q ≠ 30 → q ≠ 31 → q ≠ 32 → Am6 q = Am q := fun q h1 h2 h3 => by rw [a6.2.2.1 q h3, a5.2.2.1 q h2, a4.2.2.1 q h1]
        have X6 := X2.a (Am' := Am6) (fun q hq => o6 q (by omega) (by omega) (by omega))
        have H6 := H3.a (Am' := Am6) (fun q hq => o6 q (by omega) (by omega) (by omega))
        have e317 : F3 d 17 = F1 d 17 := by rw [e3, e2]
        have s0 := H3.s0
        have v1e : v1 = F1 d 17 := by rw [(gg_ld ev1).2.2]; exact (H1.cn 3 (by decide)).symm
        have ix3 : (6 * Fm1 19 + v1).toInt = 6 * (Fm3 19).toInt + (F3 d 17).toInt := by
          rw [H1.ix6 (v := v1) (by rw [v1e, e1]; omega) (by rw [v1e, e1]; omega), V3.fm 19 (by decide) (by decide) (by decide) (by decide) (by decide), V2.fm 19 (by decide) (by decide) (by decide) (by decide) (by decide), e317, v1e]
        have W3 : RW d F3 A Fm3 Am := ((W.v H.s0 hd U1.c U1.m).v H1.s0 hd V2.fc V2.fm).v H2.s0 hd V3.fc V3.fm
        have W4 : RW d F3 A Fm3 Am4 := RWc.st W3 s0 a4.2.2.1 a4.2.2.2.2 (fun i h => by have h := RLg.cs h; rw [ix3]; omega)
        have W5 : RW d F3 A Fm3 Am5 := RWc.st W4 s0 a5.2.2.1 a5.2.2.2.2 (fun i h => by have h := RLg.cs h; rw [ix3]; omega)
        have W6 : RW d F3 A Fm3 Am6 := RWc.st W5 s0 a6.2.2.1 a6.2.2.2.2 (fun i h => by have h := RLg.cs h; rw [ix3]; omega)
        have z30 : ai Am6 30 (6 * Fm1 19 + v1).toInt = v.toInt := by rw [ai_fr (a6.2.2.1 30 (by decide)), ai_fr (a5.2.2.1 30 (by decide))]; exact a4.2.2.2.1
        have z31 : ai Am6 31 (6 * Fm1 19 + v1).toInt = (-1 : Int32).toInt := by rw [ai_fr (a6.2.2.1 31 (by decide))]; exact a5.2.2.2.1
        have z32 := a6.2.2.2.1
        rw [V3.rt.nz, cond_false]
        refine p2_next K V3.rt X6 (k' := 29) (by decide) (fun hm => ?_) (fun _ => ?_)
        · rw [cz_10, cond_false, cond_false]
          refine p2_goes (k' := 29) K V3.rt X6 (by decide) (by decide) hm (fun F7 Fm7 U7 => ?_) (fun F7 Fm7 fc fm E => ?_)
          · have H7 := U7.v.h hd H6
            have e7 := U7.dg hd 17
            dsimp only
            rw [cz_10, cond_false, hc, Option.bind_some, known_2]
            refine p2_known (q := 2) (by decide) (by decide) K U7.rt X6 H7.nr (fun w F8 Fm8 V8 _ hw => ?_) (fun F8 Fm8 fc fm E _ => ?_)
            · have H8 := V8.h hd H7
              have e8 := V8.dg hd 17
              have t8 : F8 d 16 = F d 16 := by rw [V8.dg hd 16, U7.dg hd 16, V3.dg hd 16, V2.dg hd 16, U1.dg hd 16]
              have e817 : F8 d 17 = F1 d 17 := by rw [e8, e7, e317]
              dsimp only
              refine p2_br (fun Am9 e9 => ?_)
              have a9 := gg_st e9
              have X9 := X6.a (Am' := Am9) (fun q hq => a9.2.2.1 q (by omega))
              have H9 := H8.a (Am' := Am9) (fun q hq => a9.2.2.1 q (by omega))
              have ix8 : (6 * Fm1 19 + v1).toInt = 6 * (Fm8 19).toInt + (F8 d 17).toInt := by rw [V8.fm 19 (by decide) (by decide) (by decide) (by decide) (by decide), U7.fm 19 (by decide), e8, e7]; exact ix3
              have W9 : RW d F8 A Fm8 Am9 := RWc.st ((W6.v s0 hd U7.c U7.m).v H7.s0 hd V8.fc V8.fm) H8.s0 a9.2.2.1 a9.2.2.2.2 (fun i h => by have h := RLg.cs h; rw [ix8]; have := H8.s0; omega)
              have fin : ∀ {hi : Int32}, P2 ((e_Reader_takeNumber P F8 A J2 0 hi).bind fun (v33, P34, F35, A36, J37) => e_Reader_readMan_92 n P34 F35 A36 J37 v ((w * 6) + v33)) (d_tellMan_114 m Fm8 Am9 Jm (Fm1 11) ((6 * (Fm1 19)) + v1) 0 hi) (RS T d P) := by
                intro hi
                unfold d_tellMan_114
                refine p2_num K V8.rt X9 (fun F10 Fm10 V10 _ => ?_) (fun v10 F10 Fm10 fc fm E => ?_)
                · have H10 := V10.h hd H9
                  have e10 := V10.dg hd 17
                  dsimp only
                  refine p2_br (fun Am11 e11 => ?_)
                  have a11 := gg_st e11
                  have X11 := X9.a (Am' := Am11) (fun q hq => a11.2.2.1 q (by omega))
                  have H11 := H10.a (Am' := Am11) (fun q hq => a11.2.2.1 q (by omega))
                  have e1017 : F10 d 17 = F1 d 17 := by rw [e10, e817]
                  have ix10 : (6 * Fm1 19 + v1).toInt = 6 * (Fm10 19).toInt + (F10 d 17).toInt := by rw [V10.fm 19 (by decide) (by decide) (by decide) (by decide) (by decide), e10]; exact ix8
                  have W11 : RW d F10 A Fm10 Am11 := RWc.st (W9.v H9.s0 hd V10.fc V10.fm) H10.s0 a11.2.2.1 a11.2.2.2.2 (fun i h => by have h := RLg.cs h; rw [ix10]; have := H10.s0; omega)
                  have y30 : ai Am11 30 (6 * Fm1 19 + v1).toInt = v.toInt := by rw [ai_fr (a11.2.2.1 30 (by decide)), ai_fr (a9.2.2.1 30 (by decide))]; exact z30
                  have y31 : Am11 31 (6 * Fm1 19 + v1).toInt.toNat = w := i_ext (by rw [show Am11 31 = Am9 31 from a11.2.2.1 31 (by decide)]; exact a9.2.2.2.1)
                  have y32 := i_ext a11.2.2.2.1
                  rw [ix10] at y30 y31 y32
                  exact qm_end (m := m) K V10.rt X11 H11 W11 y30 (.inr (by rw [y31, y32])) h5 h6 hk (show J2 37 10 (F10 d 17).toInt.toNat = _ by rw [e1017]; exact ju.1) tn (by rw [e1017, e1]; omega)
                · refine p2_ff E ?_ ?_
                  · exact c_man_ff E.c
                  · dsimp only
                    exact po_bl (fun Am11 e11 => d_man_ff (m := m) E)
              rcases hw with ⟨w0, w1, -⟩ | ⟨rfl, -⟩
              · have w1 : w.toInt < (F7 d 16).toInt := w1
                have e716 : F7 d 16 = F8 d 16 := (V8.dg hd 16).symm
                rw [i_ge.mpr (by rw [i_0]; exact w0), cond_true, sn_pos h5 hk w0 (by rw [e716, t8] at w1; omega)]
                refine p2_br (fun v26 e26 => ?_)
                have a26 := gg_ld e26
                rw [a26.2.2, ← H9.sc' w0 (by rw [← e716]; exact w1) (H9.ix w0 (by rw [e716, t8] at w1; omega))]
                exact fin
              · rw [i_nge.mpr (by decide), cond_false, sn_neg (by decide)]
                exact fin
            · refine p2_ff E ?_ ?_
              · dsimp only
                refine po_call (sn_ff h5 hk E.c) ?_
                rintro _ ⟨w, rfl⟩
                exact c_man_ff E.c
              · dsimp only
                refine po_bl (fun Am9 e9 => ?_)
                rw [i_nge.mpr (by decide), cond_false]
                unfold d_tellMan_114
                rw [d_num_ff E.gg, Option.bind_some]
                dsimp only
                exact po_bl (fun Am11 e11 => d_man_ff (m := m) E)
          · refine p2_ff E ?_ ?_
            · dsimp only
              rw [cz_00, cond_true]
              exact c_man_ff E.c
            · dsimp only
              rw [d_known_ff E.gg, Option.bind_some]
              dsimp only
              refine po_bl (fun Am9 e9 => ?_)
              rw [i_nge.mpr (by decide), cond_false]
              unfold d_tellMan_114
              rw [d_num_ff E.gg, Option.bind_some]
              dsimp only
              exact po_bl (fun Am11 e11 => d_man_ff (m := m) E)
        · rw [cz_00, cond_true, cond_true]
          rw [ix3] at z30 z31 z32
          exact qm_end K V3.rt X6 H6 W6 z30 (.inl ⟨rfl, i_ext z31, i_ext z32⟩) h5 h6 hk (show J2 37 10 (F3 d 17).toInt.toNat = _ by rw [e317]; exact ju.1) tn (by rw [e317, e1]; omega)
      · refine p2_ff E ?_ ?_
        · dsimp only
          rw [e_next_ff E.c, Option.bind_some, cz_00, cond_true]
          exact c_man_ff E.c
        · dsimp only
          refine po_bl (fun _ _ => po_bl (fun _ _ => po_bl (fun _ _ => ?_)))
          rw [E.nz, cond_true]
          exact d_man_ff E
    · refine p2_ff E ?_ ?_
      · dsimp only
        rw [hc, Option.bind_some, known_0, gknown_ff E.c, Option.bind_some]
        dsimp only
        rw [e_next_ff E.c, Option.bind_some, cz_00, cond_true]
        exact c_man_ff E.c
      · dsimp only
        rw [d_known_ff E.gg, Option.bind_some]
        dsimp only
        refine po_bl (fun _ _ => po_bl (fun _ _ => po_bl (fun _ _ => ?_)))
        rw [E.nz, cond_true]
        exact d_man_ff E
  · refine p2_ff E ?_ ?_
    · dsimp only
      rw [hc, Option.bind_some, new_3, gnew_ff E.c, Option.bind_some]
      dsimp only
      rw [hc, Option.bind_some, known_0, gknown_ff E.c, Option.bind_some]
      dsimp only
      rw [e_next_ff E.c, Option.bind_some, cz_00, cond_true]
      exact c_man_ff E.c
    · (dsimp only; rw [FE.nz E, cond_true]; exact po_some rfl)
end A9
