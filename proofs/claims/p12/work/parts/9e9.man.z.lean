section Qz103
section A9
variable {T : TS} {d n m q : Nat} {P : Nat → Nat → Nat} {F F' : Nat → Nat → Int32} {A A' : Nat → Nat → Nat → Int32} {J J' : Nat → Nat → Nat → Int64} {Fm Fm' : Nat → Int32} {Am Am' : Nat → Nat → Int32} {Jm Jm' : Nat → Nat → Int64} {k k' x1 x2 x3 s0 v : Int32}
theorem o_eta {α : Type} {o : Option (α × (Nat → Nat → Nat) × (Nat → Nat → Int32) × (Nat → Nat → Nat → Int32) × (Nat → Nat → Nat → Int64))} : (o.bind fun (v4, P5, F6, A7, J8) => some (v4, P5, F6, A7, J8)) = o := by
  cases o with
  | none => rfl
  | some r => rfl
theorem sn_neg (h : v.toInt < 0) : e_Reader_takeStepNumber P F A J v = e_Reader_takeNumber P F A J 0 9999 := by
  unfold e_Reader_takeStepNumber
  rw [i_nge.mpr (by rw [i_0]; exact h), cond_false]
  exact o_eta
theorem sn_pos (h5 : P 37 5 = d) (hk : c_kind d = 6) (h0 : 0 ≤ v.toInt) (h1 : v.toInt < 6) : e_Reader_takeStepNumber P F A J v = e_Reader_takeNumber P F A J 0 (A d 5 v.toInt.toNat - 1) := by
  unfold e_Reader_takeStepNumber
  rw [i_ge.mpr (by rw [i_0]; exact h0), cond_true, chk_in h5 hk, Option.bind_some, m_ld_in h0 (by omega), Option.bind_some]
  exact o_eta
theorem sn_ff (h5 : P 37 5 = d) (hk : c_kind d = 6) (h : (F 37 10).toInt ≠ 0) : po (e_Reader_takeStepNumber P F A J v) (fun r => ∃ w, r = (w, P, F, A, J)) := by
  unfold e_Reader_takeStepNumber
  refine po_cond (fun _ => ?_) (fun _ => ?_)
  · refine po_bl (fun _ _ => po_bl (fun _ _ => ?_))
    unfold e_Reader_takeStepNumber_23
    rw [e_num_ff h, Option.bind_some]
    exact po_some ⟨_, rfl⟩
  · unfold e_Reader_takeStepNumber_23
    rw [e_num_ff h, Option.bind_some]
    exact po_some ⟨_, rfl⟩
/-- the number of steps, on both sides -/
theorem RHo.sc' {o : Int} (H : RHo o d F A J Fm Am Jm) {ix : Int32} (h0 : 0 ≤ v.toInt) (h1 : v.toInt < (F d 16).toInt) (hi : ix.toInt = 6 * (Fm 19).toInt + v.toInt) : A d 5 v.toInt.toNat = Am 22 ix.toInt.toNat := by
  have := H.sc v.toInt h0 h1
  unfold ci ai at this
  rw [← hi] at this
  exact i_ext this
theorem RHo.ix {o : Int} (H : RHo o d F A J Fm Am Jm) (h0 : 0 ≤ v.toInt) (h1 : v.toInt ≤ 12) : (6 * Fm 19 + v).toInt = 6 * (Fm 19).toInt + v.toInt := by
  have s0 := H.s0
  have s1 := H.s1
  have em := i_mulL (c := 6) (k := 6) (x := Fm 19) (by decide) (by omega) (by omega)
  rw [i_add (by omega) (by omega), em]
/-- the end of a man's sentence -/
theorem qm_end {tok : Int32} (K : TKs T) (R : RT T F Fm) (X : RX T A J Am Jm) (H : RH d F A J Fm Am Jm) (W : RW d F A Fm Am) (z1 : ai Am 30 (6 * (Fm 19).toInt + (F d 17).toInt) = x1.toInt) (z2 : LFx x2 (Am 31 (6 * (Fm 19).toInt + (F d 17).toInt).toNat) (Am 32 (6 * (Fm 19).toInt + (F d 17).toInt).toNat)) (h5 : P 37 5 = d) (h6 : P 37 6 = 3) (hk : c_kind d = 6) {x : Int64} (hx : J 37 10 (F d 17).toInt.toNat = x) (tn : TNi x.toInt (T.jr tok.toInt.toNat).toInt) (hl : (F d 17).toInt < 6) : P2 (e_Reader_readMan_92 n P F A J x1 x2) (d_tellMan_118 m Fm Am Jm tok) (RS T d P) := by
  have hd := kd37 hk
  have hd3 := kd3 hk
  have hc := chk_in h5 hk
  unfold e_Reader_readMan_92 d_tellMan_118
  refine p2_take K R X (by decide) (by decide) (fun F1 Fm1 U1 _ => ?_) (fun F1 Fm1 fc fm E _ => ?_)
  · have H1 := U1.v.h hd H
    have e1 := U1.dg hd 17
    dsimp only
    rw [cz_10, cond_false, U1.rt.le, cond_true, hc, Option.bind_some, Option.bind_some]
    refine p2_bl (fun A2 e2 => ?_)
    have a2 := (gg_cst e2).2.2
    refine p2_bl (fun q5 e5 => ?_)
    obtain ⟨-, rfl⟩ := gg_chk e5
    rw [Option.bind_some, h6]
    refine p2_bl (fun A3 e3 => ?_)
    have a3 := (gg_cst e3).2.2
    rw [Option.bind_some]
    have o37 : ∀ o, A3 37 o = A 37 o := fun o => by rw [a3.2.2 37 o (fun e => absurd e.1 (by decide)), a2.2.2 37 o (fun e => hd e.1.symm)]
    have o5 : A3 d 5 = A d 5 := by rw [a3.2.2 d 5 (fun e => hd3 e.1), a2.2.2 d 5 (fun e => absurd e.2 (by decide))]
    have X4 := X.ca (A' := A3) o37
    have H4 : RH d F1 A3 J Fm1 Am Jm := H1.fr (fun _ _ _ => rfl) rfl o5 (fun _ _ => rfl) rfl rfl rfl (fun _ _ => rfl) rfl
    have W1 : RW d F1 A Fm1 Am := W.v H.s0 hd U1.c U1.m
    have bm : 0 ≤ (F d 17).toInt ∧ (F d 17).toInt ≤ 6 := H.nr.bd 3 (by decide)
    have e19 : Fm1 19 = Fm 19 := U1.fm 19 (by decide)
    obtain ⟨w1, w2, w3, w4, w5, w6, w7⟩ := W1
    have l9 : ∀ o, o ≠ 12 → A3 d o = A d o := fun o ho => by rw [a3.2.2 d o (fun e => hd3 e.1), a2.2.2 d o (fun e => ho e.2)]
    have t9 : ∀ o, o ≠ 3 → A3 3 o = A 3 o := fun o ho => by rw [a3.2.2 3 o (fun e => ho e.2), a2.2.2 3 o (fun e => hd3 e.1.symm)]
    have r12 : A3 d 12 = A2 d 12 := a3.2.2 d 12 (fun e => hd3 e.1)
    have r3 : A2 3 3 = A 3 3 := a2.2.2 3 3 (fun e => hd3 e.1.symm)
    have n3 : A3 3 3 (F1 d 17).toInt.toNat = x2 := i_ext a3.1
    refine q_tail (q := 3) (by decide) (by decide) hd U1.rt X4 H4 (show J 37 10 (F1 d 17).toInt.toNat = _ by rw [e1]; exact hx) tn (show (F1 d 17).toInt < 6 by rw [e1]; exact hl) (fun h => absurd h (by decide)) ⟨w1.ca (fun o _ _ => l9 o (by omega)), w2.ca (t9 4 (by decide)), w3.ca (l9 4 (by decide)) (t9 2 (by decide)), w4.ca (fun o _ _ => l9 o (by omega)), w5.add (fun k k0 _ kn => ⟨by rw [ci_fr r12]; exact a2.2.1 k k0 kn, by rw [a3.2.1 k k0 kn, ci_fr r3]⟩) (by rw [e1]; exact hl) ?_ ?_ (by rw [e1]; exact bm.1), w6.ca (fun o ho => t9 o (by omega)), w7⟩
    · rw [ci_fr r12, a2.1, e19, e1]
      exact z1.symm
    · rw [n3, e19, e1]
      exact z2
  · refine p2_ff E ?_ ?_
    · (simp only [hc, new_0, new_1, new_2, new_3, known_0, known_1, known_2, known_3, gnew_ff E.c, gknown_ff E.c, e_num_ff E.c, e_take_ff E.c, e_next_ff E.c, Option.bind_some, cz_00, cond_true]; exact po_some rfl)
    · ((try dsimp only); repeat' (first | exact po_some rfl | rw [FE.nz E, cond_true] | rw [FE.le E, cond_false] | rw [FE.gt E, cond_true] | rw [d_must_ff (FE.gg E), Option.bind_some] | rw [d_known_ff (FE.gg E), Option.bind_some] | rw [d_num_ff (FE.gg E), Option.bind_some] | rw [d_is_ff (FE.gg E), Option.bind_some] | (refine po_call (d_named_ff (FE.gg E)) ?_; rintro _ rfl; try dsimp only) | refine po_cond (fun _ => ?_) (fun _ => ?_) | refine po_bl (fun _ _ => ?_)))
theorem c_man_ff {y1 y2 : Int32} (h : (F 37 10).toInt ≠ 0) : po (e_Reader_readMan_92 n P F A J y1 y2) (fun a => a.2.2.1 37 10 = F 37 10) := by
  unfold e_Reader_readMan_92
  rw [e_take_ff h, Option.bind_some]
  dsimp only
  rw [cz_00, cond_true]
  exact po_some rfl
theorem d_man_ff {tok : Int32} (E : FE F Fm) : po (d_tellMan_118 m Fm Am Jm tok) (fun b => b.2.1 13 = Fm 13) := by
  unfold d_tellMan_118
  ((try dsimp only); repeat' (first | exact po_some rfl | rw [FE.nz E, cond_true] | rw [FE.le E, cond_false] | rw [FE.gt E, cond_true] | rw [d_must_ff (FE.gg E), Option.bind_some] | rw [d_known_ff (FE.gg E), Option.bind_some] | rw [d_num_ff (FE.gg E), Option.bind_some] | rw [d_is_ff (FE.gg E), Option.bind_some] | (refine po_call (d_named_ff (FE.gg E)) ?_; rintro _ rfl; try dsimp only) | refine po_cond (fun _ => ?_) (fun _ => ?_) | refine po_bl (fun _ _ => ?_)))
/-- a man is told -/
theorem q_man (K : TKs T) (R : RT T F Fm) (X : RX T A J Am Jm) (H : RH d F A J Fm Am Jm) (W : RW d F A Fm Am) (h5 : P 37 5 = d) (h6 : P 37 6 = 3) (hk : c_kind d = 6) (hm : (Am 3 (Fm 11).toInt.toNat).toInt = (28 : Int32).toInt) : P2 (e_Reader_readMan n P F A J) ((d_roomFor Fm Am Jm (Am 29 (Fm 19).toInt.toNat) 6).bind fun (_, F5, A6, J7) => cond (g_cnd .ne (F5 13) 0) (some ((), F5, A6, J7)) ((d_tellMan m F5 A6 J7).bind fun (_, F10, A11, J12) => some ((), F10, A11, J12))) (RS T d P) := by
  have hd := kd37 hk
  have hc := chk_in h5 hk
  have l6 : (6 : Int32).toInt = 6 := by decide
  have bd : 0 ≤ (F d 17).toInt ∧ (F d 17).toInt ≤ 6 := H.nr.bd 3 (by decide)
  have bt : 0 ≤ (F d 16).toInt ∧ (F d 16).toInt ≤ 6 := H.nr.bd 2 (by decide)
  have rm : F d 17 = Am 29 (Fm 19).toInt.toNat := H.cn 3 (by decide)
  unfold e_Reader_readMan
  rw [hc, Option.bind_some, ← rm]
  refine p2_first (k' := 28) K R X (by decide) (by decide) hm (by omega) (fun F1 Fm1 U1 hx => ?_) (fun F1 Fm1 fc fm E => ?_)
  · have R1 := U1.rt
    have H1 := U1.v.h hd H
    have e1 := U1.dg hd 17
    dsimp only
    rw [hc, Option.bind_some, R1.nz, cond_false, new_3]
    refine p2_eta ?_
    unfold d_tellMan
    refine p2_br (fun v1 ev1 => ?_)
    refine p2_new (q := 3) (by decide) h5 (show (F1 d 17).toInt < 6 by rw [e1]; omega) K R1 X H1.nr (fun F2 J2 Fm2 V2 tn ju => ?_) (fun F2 Fm2 fc fm E => ?_)
    · have X2 := X.j ju
      have H2 := V2.h hd (H1.j ju)
      have e2 := V2.dg hd 17
      dsimp only
      rw [hc, Option.bind_some, known_0]
      refine p2_known (q := 0) (by decide) (by decide) K V2.rt X2 H2.nr (fun v F3 Fm3 V3 _ hv => ?_) (fun F3 Fm3 fc fm E _ => ?_)
      · have H3 := V3.h hd H2
        have e3 := V3.dg hd 17
        dsimp only
        refine p2_br (fun Am4 e4 => ?_)
        have a4 := gg_st e4
        refine p2_br (fun Am5 e5 => ?_)
        have a5 := gg_st e5
        refine p2_br (fun Am6 e6 => ?_)
        have a6 := gg_st e6
        have o6 : ∀ q, q ≠ 30 → q ≠ 31 → q ≠ 32 → Am6 q = Am q := fun q h1 h2 h3 => by rw [a6.2.2.1 q h3, a5.2.2.1 q h2, a4.2.2.1 q h1]
        have X6 := X2.a (Am' := Am6) (fun q hq => o6 q (by omega) (by omega) (by omega))
        have H6 := H3.a (Am' := Am6) (fun q hq => o6 q (by omega) (by omega) (by omega))
        have e317 : F3 d 17 = F1 d 17 := by rw [e3, e2]
        have s0 := H3.s0
        have v1e : v1 = F1 d 17 := by rw [(gg_ld ev1).2.2]; exact (H1.cn 3 (by decide)).symm
        have ix3 : (6 * Fm1 19 + v1).toInt = 6 * (Fm3 19).toInt + (F3 d 17).toInt := by
          rw [H1.ix6 (v := v1) (by rw [v1e, e1]; omega) (by rw [v1e, e1]; omega), V3.fm 19 (by decide) (by decide) (by decide) (by decide) (by decide), V2.fm 19 (by decide) (by decide) (by decide) (by decide) (by decide), e317, v1e]
        have W3 : RW d F3 A Fm3 Am := ((W.v H.s0 hd U1.c U1.m).v H1.s0 hd V2.fc V2.fm).v H2.s0 hd V3.fc V3.fm
        have W4 : RW d F3 A Fm3 Am4 := RWc.st W3 s0 a4.2.2.1 a4.2.2.2.2 (fun i h => by have h := RLg.cs h; rw [ix3]; omega)
        have W5 : RW d F3 A Fm3 Am5 := RWc.st W4 s0 a5.2.2.1 a5.2.2.2.2 (fun i h => by have h := RLg.cs h; rw [ix3]; omega)
        have W6 : RW d F3 A Fm3 Am6 := RWc.st W5 s0 a6.2.2.1 a6.2.2.2.2 (fun i h => by have h := RLg.cs h; rw [ix3]; omega)
        have z30 : ai Am6 30 (6 * Fm1 19 + v1).toInt = v.toInt := by rw [ai_fr (a6.2.2.1 30 (by decide)), ai_fr (a5.2.2.1 30 (by decide))]; exact a4.2.2.2.1
        have z31 : ai Am6 31 (6 * Fm1 19 + v1).toInt = (-1 : Int32).toInt := by rw [ai_fr (a6.2.2.1 31 (by decide))]; exact a5.2.2.2.1
        have z32 := a6.2.2.2.1
        rw [V3.rt.nz, cond_false]
        refine p2_next K V3.rt X6 (k' := 29) (by decide) (fun hm => ?_) (fun _ => ?_)
        · rw [cz_10, cond_false, cond_false]
          refine p2_goes (k' := 29) K V3.rt X6 (by decide) (by decide) hm (fun F7 Fm7 U7 => ?_) (fun F7 Fm7 fc fm E => ?_)
          · have H7 := U7.v.h hd H6
            have e7 := U7.dg hd 17
            dsimp only
            rw [cz_10, cond_false, hc, Option.bind_some, known_2]
            refine p2_known (q := 2) (by decide) (by decide) K U7.rt X6 H7.nr (fun w F8 Fm8 V8 _ hw => ?_) (fun F8 Fm8 fc fm E _ => ?_)
            · have H8 := V8.h hd H7
              have e8 := V8.dg hd 17
              have t8 : F8 d 16 = F d 16 := by rw [V8.dg hd 16, U7.dg hd 16, V3.dg hd 16, V2.dg hd 16, U1.dg hd 16]
              have e817 : F8 d 17 = F1 d 17 := by rw [e8, e7, e317]
              dsimp only
              refine p2_br (fun Am9 e9 => ?_)
              have a9 := gg_st e9
              have X9 := X6.a (Am' := Am9) (fun q hq => a9.2.2.1 q (by omega))
              have H9 := H8.a (Am' := Am9) (fun q hq => a9.2.2.1 q (by omega))
              have ix8 : (6 * Fm1 19 + v1).toInt = 6 * (Fm8 19).toInt + (F8 d 17).toInt := by rw [V8.fm 19 (by decide) (by decide) (by decide) (by decide) (by decide), U7.fm 19 (by decide), e8, e7]; exact ix3
              have W9 : RW d F8 A Fm8 Am9 := RWc.st ((W6.v s0 hd U7.c U7.m).v H7.s0 hd V8.fc V8.fm) H8.s0 a9.2.2.1 a9.2.2.2.2 (fun i h => by have h := RLg.cs h; rw [ix8]; have := H8.s0; omega)
              have fin : ∀ {hi : Int32}, P2 ((e_Reader_takeNumber P F8 A J2 0 hi).bind fun (v33, P34, F35, A36, J37) => e_Reader_readMan_92 n P34 F35 A36 J37 v ((w * 6) + v33)) (d_tellMan_114 m Fm8 Am9 Jm (Fm1 11) ((6 * (Fm1 19)) + v1) 0 hi) (RS T d P) := by
                intro hi
                unfold d_tellMan_114
                refine p2_num K V8.rt X9 (fun F10 Fm10 V10 _ => ?_) (fun v10 F10 Fm10 fc fm E => ?_)
                · have H10 := V10.h hd H9
                  have e10 := V10.dg hd 17
                  dsimp only
                  refine p2_br (fun Am11 e11 => ?_)
                  have a11 := gg_st e11
                  have X11 := X9.a (Am' := Am11) (fun q hq => a11.2.2.1 q (by omega))
                  have H11 := H10.a (Am' := Am11) (fun q hq => a11.2.2.1 q (by omega))
                  have e1017 : F10 d 17 = F1 d 17 := by rw [e10, e817]
                  have ix10 : (6 * Fm1 19 + v1).toInt = 6 * (Fm10 19).toInt + (F10 d 17).toInt := by rw [V10.fm 19 (by decide) (by decide) (by decide) (by decide) (by decide), e10]; exact ix8
                  have W11 : RW d F10 A Fm10 Am11 := RWc.st (W9.v H9.s0 hd V10.fc V10.fm) H10.s0 a11.2.2.1 a11.2.2.2.2 (fun i h => by have h := RLg.cs h; rw [ix10]; have := H10.s0; omega)
                  have y30 : ai Am11 30 (6 * Fm1 19 + v1).toInt = v.toInt := by rw [ai_fr (a11.2.2.1 30 (by decide)), ai_fr (a9.2.2.1 30 (by decide))]; exact z30
                  have y31 : Am11 31 (6 * Fm1 19 + v1).toInt.toNat = w := i_ext (by rw [show Am11 31 = Am9 31 from a11.2.2.1 31 (by decide)]; exact a9.2.2.2.1)
                  have y32 := i_ext a11.2.2.2.1
                  rw [ix10] at y30 y31 y32
                  exact qm_end (m := m) K V10.rt X11 H11 W11 y30 (.inr (by rw [y31, y32])) h5 h6 hk (show J2 37 10 (F10 d 17).toInt.toNat = _ by rw [e1017]; exact ju.1) tn (by rw [e1017, e1]; omega)
                · refine p2_ff E ?_ ?_
                  · exact c_man_ff E.c
                  · dsimp only
                    exact po_bl (fun Am11 e11 => d_man_ff (m := m) E)
              rcases hw with ⟨w0, w1, -⟩ | ⟨rfl, -⟩
              · have w1 : w.toInt < (F7 d 16).toInt := w1
                have e716 : F7 d 16 = F8 d 16 := (V8.dg hd 16).symm
                rw [i_ge.mpr (by rw [i_0]; exact w0), cond_true, sn_pos h5 hk w0 (by rw [e716, t8] at w1; omega)]
                refine p2_br (fun v26 e26 => ?_)
                have a26 := gg_ld e26
                rw [a26.2.2, ← H9.sc' w0 (by rw [← e716]; exact w1) (H9.ix w0 (by rw [e716, t8] at w1; omega))]
                exact fin
              · rw [i_nge.mpr (by decide), cond_false, sn_neg (by decide)]
                exact fin
            · refine p2_ff E ?_ ?_
              · dsimp only
                refine po_call (sn_ff h5 hk E.c) ?_
                rintro _ ⟨w, rfl⟩
                exact c_man_ff E.c
              · dsimp only
                refine po_bl (fun Am9 e9 => ?_)
                rw [i_nge.mpr (by decide), cond_false]
                unfold d_tellMan_114
                rw [d_num_ff E.gg, Option.bind_some]
                dsimp only
                exact po_bl (fun Am11 e11 => d_man_ff (m := m) E)
          · refine p2_ff E ?_ ?_
            · dsimp only
              rw [cz_00, cond_true]
              exact c_man_ff E.c
            · dsimp only
              rw [d_known_ff E.gg, Option.bind_some]
              dsimp only
              refine po_bl (fun Am9 e9 => ?_)
              rw [i_nge.mpr (by decide), cond_false]
              unfold d_tellMan_114
              rw [d_num_ff E.gg, Option.bind_some]
              dsimp only
              exact po_bl (fun Am11 e11 => d_man_ff (m := m) E)
        · rw [cz_00, cond_true, cond_true]
          rw [ix3] at z30 z31 z32
          exact qm_end K V3.rt X6 H6 W6 z30 (.inl ⟨rfl, i_ext z31, i_ext z32⟩) h5 h6 hk (show J2 37 10 (F3 d 17).toInt.toNat = _ by rw [e317]; exact ju.1) tn (by rw [e317, e1]; omega)
      · refine p2_ff E ?_ ?_
        · dsimp only
          rw [e_next_ff E.c, Option.bind_some, cz_00, cond_true]
          exact c_man_ff E.c
        · dsimp only
          refine po_bl (fun _ _ => po_bl (fun _ _ => po_bl (fun _ _ => ?_)))
          rw [E.nz, cond_true]
          exact d_man_ff E
    · refine p2_ff E ?_ ?_
      · dsimp only
        rw [hc, Option.bind_some, known_0, gknown_ff E.c, Option.bind_some]
        dsimp only
        rw [e_next_ff E.c, Option.bind_some, cz_00, cond_true]
        exact c_man_ff E.c
      · dsimp only
        rw [d_known_ff E.gg, Option.bind_some]
        dsimp only
        refine po_bl (fun _ _ => po_bl (fun _ _ => po_bl (fun _ _ => ?_)))
        rw [E.nz, cond_true]
        exact d_man_ff E
  · refine p2_ff E ?_ ?_
    · dsimp only
      rw [hc, Option.bind_some, new_3, gnew_ff E.c, Option.bind_some]
      dsimp only
      rw [hc, Option.bind_some, known_0, gknown_ff E.c, Option.bind_some]
      dsimp only
      rw [e_next_ff E.c, Option.bind_some, cz_00, cond_true]
      exact c_man_ff E.c
    · (dsimp only; rw [FE.nz E, cond_true]; exact po_some rfl)
end A9
end Qz103
section Qz104
section B1
variable {T : TS} {d n m q : Nat} {P : Nat → Nat → Nat} {F F' : Nat → Nat → Int32} {A A' : Nat → Nat → Nat → Int32} {J J' : Nat → Nat → Nat → Int64} {Fm Fm' : Nat → Int32} {Am Am' : Nat → Nat → Int32} {Jm Jm' : Nat → Nat → Int64} {k k' v x3 : Int32}
/-- the end of a step's sentence -/
theorem qs_end {y2 y3 y4 y5 y6 y7 x4 x5 x6 x7 x8 x9 x10 : Int32} (K : TKs T) (R : RT T F Fm) (X : RX T A J Am Jm) (H : RH d F A J Fm Am Jm) (W : RW d F A Fm Am) (h6 : ∀ t, 0 ≤ t → ci A d 5 t ≤ 6) (hw : 0 ≤ ci A d 5 v.toInt ∧ ci A d 5 v.toInt < 6 ∧ x4.toInt = 6 * (6 * (Fm 19).toInt + v.toInt) + ci A d 5 v.toInt ∨ v = -1) (q5 : y2 = x5) (q6 : y3 = x6) (q7 : y4 = x7) (q8 : y5 = x8) (q9 : NNx y6.toInt x9.toInt) (q10 : NNx y7.toInt x10.toInt) (h5 : P 37 5 = d) (hk : c_kind d = 6) (hv : 0 ≤ v.toInt ∧ v.toInt < (F d 16).toInt ∨ v = -1) : P2 (e_Reader_readStep_107 n P F A J v y2 y3 y4 y5 y6 y7) (d_tellStep_174 m Fm Am Jm v x4 x5 x6 x7 x8 x9 x10) (RS T d P) := by
  have hd := kd37 hk
  have hc := chk_in h5 hk
  have bt : 0 ≤ (F d 16).toInt ∧ (F d 16).toInt ≤ 6 := H.nr.bd 2 (by decide)
  unfold e_Reader_readStep_107 d_tellStep_174
  refine p2_take K R X (by decide) (by decide) (fun F1 Fm1 U1 _ => ?_) (fun F1 Fm1 fc fm E _ => ?_)
  · have H1 := U1.v.h hd H
    have e1 := U1.dg hd 16
    dsimp only
    rw [cz_10, cond_false, U1.rt.gt, cond_false]
    rcases hv with ⟨v0, v1⟩ | rfl
    · rw [i_nlt.mpr (by rw [i_0]; exact v0), cond_false, i_ge.mpr (by rw [i_0]; exact v0), cond_true, hc, Option.bind_some, m_ld_in v0 (by omega), Option.bind_some, Option.bind_some]
      refine p2_bl (fun A2 e2 => ?_)
      have a2 := (gg_cst e2).2.2
      rw [Option.bind_some]
      refine p2_bl (fun A3 e3 => ?_)
      have a3 := (gg_cst e3).2.2
      rw [Option.bind_some]
      refine p2_bl (fun A4 e4 => ?_)
      have a4 := (gg_cst e4).2.2
      rw [Option.bind_some]
      refine p2_bl (fun A5 e5 => ?_)
      have a5 := (gg_cst e5).2.2
      rw [Option.bind_some]
      refine p2_bl (fun A6 e6 => ?_)
      have a6 := (gg_cst e6).2.2
      rw [Option.bind_some]
      refine p2_bl (fun A7 e7 => ?_)
      have a7 := (gg_cst e7).2.2
      rw [Option.bind_some]
      have o37 : ∀ o, A7 37 o = A 37 o := fun o => by rw [a7.2.2 37 o (fun e => hd e.1.symm), a6.2.2 37 o (fun e => hd e.1.symm), a5.2.2 37 o (fun e => hd e.1.symm), a4.2.2 37 o (fun e => hd e.1.symm), a3.2.2 37 o (fun e => hd e.1.symm), a2.2.2 37 o (fun e => hd e.1.symm)]
      have o5 : A7 d 5 = A d 5 := by rw [a7.2.2 d 5 (fun e => absurd e.2 (by decide)), a6.2.2 d 5 (fun e => absurd e.2 (by decide)), a5.2.2 d 5 (fun e => absurd e.2 (by decide)), a4.2.2 d 5 (fun e => absurd e.2 (by decide)), a3.2.2 d 5 (fun e => absurd e.2 (by decide)), a2.2.2 d 5 (fun e => absurd e.2 (by decide))]
      refine p2_bl (fun w8 e8 => ?_)
      have a8 := gg_ld e8
      refine p2_bl (fun A9 e9 => ?_)
      have a9 := (gg_cst e9).2.2
      refine p2_br (fun B2 f2 => ?_)
      have b2 := gg_st f2
      refine p2_br (fun B3 f3 => ?_)
      have b3 := gg_st f3
      refine p2_br (fun B4 f4 => ?_)
      have b4 := gg_st f4
      refine p2_br (fun B5 f5 => ?_)
      have b5 := gg_st f5
      refine p2_br (fun B6 f6 => ?_)
      have b6 := gg_st f6
      refine p2_br (fun B7 f7 => ?_)
      have b7 := gg_st f7
      have p7 : ∀ q, (q < 23 ∨ 28 < q) → B7 q = Am q := fun q hq => by rw [b7.2.2.1 q (by omega), b6.2.2.1 q (by omega), b5.2.2.1 q (by omega), b4.2.2.1 q (by omega), b3.2.2.1 q (by omega), b2.2.2.1 q (by omega)]
      refine p2_br (fun u8 f8 => ?_)
      have b8 := gg_ld f8
      refine p2_br (fun B9 f9 => ?_)
      have b9 := gg_st f9
      have ix := H1.ix v0 (show v.toInt ≤ 12 by omega)
      have s0 := H1.s0
      have same : A d 5 v.toInt.toNat = Am 22 (6 * Fm1 19 + v).toInt.toNat := H1.sc' v0 (by rw [e1]; exact v1) ix
      have p9 : ∀ q, (q < 22 ∨ 28 < q) → B9 q = Am q := fun q hq => by rw [b9.2.2.1 q (by omega), p7 q (by omega)]
      have X9 : RX T A9 J B9 Jm := (X.ca (A' := A9) (fun o => by rw [a9.2.2 37 o (fun e => hd e.1.symm), o37])).a (fun q hq => p9 q (by omega))
      have H9 : RH d F1 A9 J Fm1 B9 Jm := by
        refine ⟨H1.s0, H1.s1, fun q hq => ?_, ?_, ?_, fun k k0 k1 => ?_, H1.nr.fr (fun _ _ => rfl) (fun _ _ => rfl) rfl (p9 9 (by omega)) (p9 10 (by omega)) rfl, H1.op⟩
        · rw [p9 (rq q) (by have := rq_in q; omega)]; exact H1.cn q hq
        · rw [p9 12 (by omega)]; exact H1.dr
        · rw [p9 33 (by omega)]; exact H1.lw
        · by_cases e : k = v.toInt
          · rw [e, a9.1, ← ix, b9.2.2.2.1, a8.2.2, b8.2.2, o5, p7 22 (by omega), same]
          · rw [a9.2.1 k k0 e, b9.2.2.2.2 _ (by omega) (by rw [ix]; omega), ci_fr o5, ai_fr (p7 22 (by omega))]
            exact H1.sc k k0 k1
      have hw := hw.resolve_right (fun e => by rw [e] at v0; exact absurd v0 (by decide))
      have W1 : RW d F1 A Fm1 Am := W.v H.s0 hd U1.c U1.m
      have e19 : Fm1 19 = Fm 19 := U1.fm 19 (by decide)
      have hd3 := kd3 hk
      obtain ⟨w1, w2, w3, w4, w5, w6, w7⟩ := W1
      have cnt : (A d 5 v.toInt.toNat).toInt = ci A d 5 v.toInt := rfl
      have em := i_mulR (c := 6) (k := 6) (x := v) (by decide) (by omega) (by omega)
      have ei := i_add (x := v * 6) (y := A d 5 v.toInt.toNat) (by omega) (by omega)
      have ixc : (v * 6 + A d 5 v.toInt.toNat).toInt = v.toInt * 6 + ci A d 5 v.toInt := by rw [ei, em, cnt]
      have ixm : x4.toInt = 6 * (6 * (Fm1 19).toInt + v.toInt) + ci A d 5 v.toInt := by rw [e19]; exact hw.2.2
      rw [ixc] at a2 a3 a4 a5 a6 a7
      rw [ixm] at b2 b3 b4 b5 b6 b7
      have t9 : ∀ o, A9 3 o = A 3 o := fun o => by rw [a9.2.2 3 o (fun e => hd3 e.1.symm), a7.2.2 3 o (fun e => hd3 e.1.symm), a6.2.2 3 o (fun e => hd3 e.1.symm), a5.2.2 3 o (fun e => hd3 e.1.symm), a4.2.2 3 o (fun e => hd3 e.1.symm), a3.2.2 3 o (fun e => hd3 e.1.symm), a2.2.2 3 o (fun e => hd3 e.1.symm)]
      have l9 : ∀ o, (o < 5 ∨ 11 < o) → A9 d o = A d o := fun o ho => by rw [a9.2.2 d o (fun e => by omega), a7.2.2 d o (fun e => by omega), a6.2.2 d o (fun e => by omega), a5.2.2 d o (fun e => by omega), a4.2.2 d o (fun e => by omega), a3.2.2 d o (fun e => by omega), a2.2.2 d o (fun e => by omega)]
      have r6 : A9 d 6 = A2 d 6 := by rw [a9.2.2 d 6 (fun e => by omega), a7.2.2 d 6 (fun e => by omega), a6.2.2 d 6 (fun e => by omega), a5.2.2 d 6 (fun e => by omega), a4.2.2 d 6 (fun e => by omega), a3.2.2 d 6 (fun e => by omega)]
      have r7 : A9 d 7 = A3 d 7 := by rw [a9.2.2 d 7 (fun e => by omega), a7.2.2 d 7 (fun e => by omega), a6.2.2 d 7 (fun e => by omega), a5.2.2 d 7 (fun e => by omega), a4.2.2 d 7 (fun e => by omega)]
      have r8 : A9 d 8 = A4 d 8 := by rw [a9.2.2 d 8 (fun e => by omega), a7.2.2 d 8 (fun e => by omega), a6.2.2 d 8 (fun e => by omega), a5.2.2 d 8 (fun e => by omega)]
      have r9 : A9 d 9 = A5 d 9 := by rw [a9.2.2 d 9 (fun e => by omega), a7.2.2 d 9 (fun e => by omega), a6.2.2 d 9 (fun e => by omega)]
      have r10 : A9 d 10 = A6 d 10 := by rw [a9.2.2 d 10 (fun e => by omega), a7.2.2 d 10 (fun e => by omega)]
      have r11 : A9 d 11 = A7 d 11 := by rw [a9.2.2 d 11 (fun e => by omega)]
      have p7 : A2 d 7 = A d 7 := a2.2.2 d 7 (fun e => by omega)
      have p8 : A3 d 8 = A d 8 := by rw [a3.2.2 d 8 (fun e => by omega), a2.2.2 d 8 (fun e => by omega)]
      have p9' : A4 d 9 = A d 9 := by rw [a4.2.2 d 9 (fun e => by omega), a3.2.2 d 9 (fun e => by omega), a2.2.2 d 9 (fun e => by omega)]
      have p10 : A5 d 10 = A d 10 := by rw [a5.2.2 d 10 (fun e => by omega), a4.2.2 d 10 (fun e => by omega), a3.2.2 d 10 (fun e => by omega), a2.2.2 d 10 (fun e => by omega)]
      have p11 : A6 d 11 = A d 11 := by rw [a6.2.2 d 11 (fun e => by omega), a5.2.2 d 11 (fun e => by omega), a4.2.2 d 11 (fun e => by omega), a3.2.2 d 11 (fun e => by omega), a2.2.2 d 11 (fun e => by omega)]
      have g23 : B9 23 = B2 23 := by rw [b9.2.2.1 23 (by decide), b7.2.2.1 23 (by decide), b6.2.2.1 23 (by decide), b5.2.2.1 23 (by decide), b4.2.2.1 23 (by decide), b3.2.2.1 23 (by decide)]
      have g24 : B9 24 = B3 24 := by rw [b9.2.2.1 24 (by decide), b7.2.2.1 24 (by decide), b6.2.2.1 24 (by decide), b5.2.2.1 24 (by decide), b4.2.2.1 24 (by decide)]
      have g25 : B9 25 = B4 25 := by rw [b9.2.2.1 25 (by decide), b7.2.2.1 25 (by decide), b6.2.2.1 25 (by decide), b5.2.2.1 25 (by decide)]
      have g26 : B9 26 = B5 26 := by rw [b9.2.2.1 26 (by decide), b7.2.2.1 26 (by decide), b6.2.2.1 26 (by decide)]
      have g27 : B9 27 = B6 27 := by rw [b9.2.2.1 27 (by decide), b7.2.2.1 27 (by decide)]
      have g28 : B9 28 = B7 28 := by rw [b9.2.2.1 28 (by decide)]
      have o24 : B2 24 = Am 24 := b2.2.2.1 24 (by decide)
      have o25 : B3 25 = Am 25 := by rw [b3.2.2.1 25 (by decide), b2.2.2.1 25 (by decide)]
      have o26 : B4 26 = Am 26 := by rw [b4.2.2.1 26 (by decide), b3.2.2.1 26 (by decide), b2.2.2.1 26 (by decide)]
      have o27 : B5 27 = Am 27 := by rw [b5.2.2.1 27 (by decide), b4.2.2.1 27 (by decide), b3.2.2.1 27 (by decide), b2.2.2.1 27 (by decide)]
      have o28 : B6 28 = Am 28 := by rw [b6.2.2.1 28 (by decide), b5.2.2.1 28 (by decide), b4.2.2.1 28 (by decide), b3.2.2.1 28 (by decide), b2.2.2.1 28 (by decide)]
      have ra : ∀ o, 6 ≤ o → o ≤ 11 → ∀ i, 0 ≤ i → i ≠ v.toInt * 6 + ci A d 5 v.toInt → ci A9 d o i = ci A d o i := by
        intro o h1 h2 i i0 hn
        have ho : o = 6 ∨ o = 7 ∨ o = 8 ∨ o = 9 ∨ o = 10 ∨ o = 11 := by omega
        rcases ho with rfl | rfl | rfl | rfl | rfl | rfl
        · rw [ci_fr r6]; exact a2.2.1 i i0 hn
        · rw [ci_fr r7, a3.2.1 i i0 hn, ci_fr p7]
        · rw [ci_fr r8, a4.2.1 i i0 hn, ci_fr p8]
        · rw [ci_fr r9, a5.2.1 i i0 hn, ci_fr p9']
        · rw [ci_fr r10, a6.2.1 i i0 hn, ci_fr p10]
        · rw [ci_fr r11, a7.2.1 i i0 hn, ci_fr p11]
      have rm : ∀ j, 23 ≤ j → j ≤ 28 → ∀ i, 0 ≤ i → i ≠ 6 * (6 * (Fm1 19).toInt + v.toInt) + ci A d 5 v.toInt → ai B9 j i = ai Am j i := by
        intro j h1 h2 i i0 hn
        have hj : j = 23 ∨ j = 24 ∨ j = 25 ∨ j = 26 ∨ j = 27 ∨ j = 28 := by omega
        rcases hj with rfl | rfl | rfl | rfl | rfl | rfl
        · rw [ai_fr g23]; exact b2.2.2.2.2 i i0 hn
        · rw [ai_fr g24, b3.2.2.2.2 i i0 hn, ai_fr o24]
        · rw [ai_fr g25, b4.2.2.2.2 i i0 hn, ai_fr o25]
        · rw [ai_fr g26, b5.2.2.2.2 i i0 hn, ai_fr o26]
        · rw [ai_fr g27, b6.2.2.2.2 i i0 hn, ai_fr o27]
        · rw [ai_fr g28, b7.2.2.2.2 i i0 hn, ai_fr o28]
      have w8e : w8.toInt = ci A d 5 v.toInt := by rw [a8.2.2, o5]; rfl
      have W9 : RW d F1 A9 Fm1 B9 := by
        have m9 : ∀ q, (q < 22 ∨ 28 < q) → B9 q = Am q := p9
        refine ⟨?_, ?_, ?_, ?_, ?_, w6.ca (fun o _ => t9 o), ?_⟩
        · have z := w1.ca (A' := A9) (fun o _ _ => l9 o (by omega))
          unfold RWd at z ⊢
          rw [ai_fr (m9 13 (by omega)), ai_fr (m9 14 (by omega)), ai_fr (m9 15 (by omega)), ai_fr (m9 16 (by omega))]
          exact z
        · have z := w2.ca (A' := A9) (t9 4)
          unfold RWt at z ⊢
          rw [ai_fr (m9 18 (by omega))]
          exact z
        · have z := w3.ca (A' := A9) (l9 4 (by omega)) (t9 2)
          unfold RWk at z ⊢
          rw [ai_fr (m9 20 (by omega)), ai_fr (m9 21 (by omega))]
          exact z
        · refine w4.put H1.s0 v0 hw.1 hw.2.1 rfl h6 (by rw [a9.1, i_add (by rw [i_1]; omega) (by rw [i_1]; omega), i_1, w8e]) (fun t t0 tn => by rw [a9.2.1 t t0 tn, ci_fr o5]) ra rm ?_ ?_ ?_ ?_ ?_ ?_
          · rw [ci_fr r6, ai_fr g23, a2.1, b2.2.2.2.1, q5]
          · rw [ci_fr r7, ai_fr g24, a3.1, b3.2.2.2.1, q6]
          · rw [ci_fr r8, ai_fr g25, a4.1, b4.2.2.2.1, q7]
          · rw [ci_fr r9, ai_fr g26, a5.1, b5.2.2.2.1, q8]
          · rw [ci_fr r10, ai_fr g27, a6.1, b6.2.2.2.1]; exact q9
          · rw [ci_fr r11, ai_fr g28, a7.1, b7.2.2.2.1]; exact q10
        · have z := w5.ca (A' := A9) (l9 12 (by omega)) (t9 3)
          unfold RWm at z ⊢
          rw [ai_fr (m9 30 (by omega)), m9 31 (by omega), m9 32 (by omega)]
          exact z
        · unfold RWn at w7 ⊢
          rw [m9 41 (by omega)]
          exact w7
      exact p2_some (.inr ⟨U1.rt, X9, H9, W9⟩)
    · rw [i_lt.mpr (by decide), cond_true, i_nge.mpr (by decide), cond_false]
      exact p2_some (.inr ⟨U1.rt, X, H1, W.v H.s0 hd U1.c U1.m⟩)
  · refine p2_ff E ?_ ?_
    · (simp only [hc, new_0, new_1, new_2, new_3, known_0, known_1, known_2, known_3, gnew_ff E.c, gknown_ff E.c, e_num_ff E.c, e_take_ff E.c, e_next_ff E.c, Option.bind_some, cz_00, cond_true]; exact po_some rfl)
    · ((try dsimp only); repeat' (first | exact po_some rfl | rw [FE.nz E, cond_true] | rw [FE.le E, cond_false] | rw [FE.gt E, cond_true] | rw [d_must_ff (FE.gg E), Option.bind_some] | rw [d_known_ff (FE.gg E), Option.bind_some] | rw [d_num_ff (FE.gg E), Option.bind_some] | rw [d_is_ff (FE.gg E), Option.bind_some] | (refine po_call (d_named_ff (FE.gg E)) ?_; rintro _ rfl; try dsimp only) | refine po_cond (fun _ => ?_) (fun _ => ?_) | refine po_bl (fun _ _ => ?_)))
theorem c_se_ff {y1 y2 y3 y4 y5 y6 y7 : Int32} (h : (F 37 10).toInt ≠ 0) : po (e_Reader_readStep_107 n P F A J y1 y2 y3 y4 y5 y6 y7) (fun a => a.2.2.1 37 10 = F 37 10) := by
  unfold e_Reader_readStep_107
  rw [e_take_ff h, Option.bind_some]
  dsimp only
  rw [cz_00, cond_true]
  exact po_some rfl
theorem d_se_ff {x2 x4 x5 x6 x7 x8 x9 x10 : Int32} (E : FE F Fm) : po (d_tellStep_174 m Fm Am Jm x2 x4 x5 x6 x7 x8 x9 x10) (fun b => b.2.1 13 = Fm 13) := by
  unfold d_tellStep_174
  ((try dsimp only); repeat' (first | exact po_some rfl | rw [FE.nz E, cond_true] | rw [FE.le E, cond_false] | rw [FE.gt E, cond_true] | rw [d_must_ff (FE.gg E), Option.bind_some] | rw [d_known_ff (FE.gg E), Option.bind_some] | rw [d_num_ff (FE.gg E), Option.bind_some] | rw [d_is_ff (FE.gg E), Option.bind_some] | (refine po_call (d_named_ff (FE.gg E)) ?_; rintro _ rfl; try dsimp only) | refine po_cond (fun _ => ?_) (fun _ => ?_) | refine po_bl (fun _ _ => ?_)))
/-- what a step undoes, and its end -/
theorem qs_78 {y2 y3 y4 y5 y6 x4 x5 x6 x7 x8 x9 x10 : Int32} (K : TKs T) (R : RT T F Fm) (X : RX T A J Am Jm) (H : RH d F A J Fm Am Jm) (W : RW d F A Fm Am) (h6 : ∀ t, 0 ≤ t → ci A d 5 t ≤ 6) (hw : 0 ≤ ci A d 5 v.toInt ∧ ci A d 5 v.toInt < 6 ∧ x4.toInt = 6 * (6 * (Fm 19).toInt + v.toInt) + ci A d 5 v.toInt ∨ v = -1) (q5 : y2 = x5) (q6 : y3 = x6) (q7 : y4 = x7) (q8 : y5 = x8) (q9 : NNx y6.toInt x9.toInt) (q10 : x10 = -1) (h5 : P 37 5 = d) (hk : c_kind d = 6) (hv : 0 ≤ v.toInt ∧ v.toInt < (F d 16).toInt ∧ A d 5 v.toInt.toNat = x3 ∨ v = -1) : P2 (e_Reader_readStep_78 n P F A J v y2 y3 y4 y5 y6) (d_tellStep_134 m Fm Am Jm v x3 x4 x5 x6 x7 x8 x9 x10) (RS T d P) := by
  have hd := kd37 hk
  have hc := chk_in h5 hk
  have bt : 0 ≤ (F d 16).toInt ∧ (F d 16).toInt ≤ 6 := H.nr.bd 2 (by decide)
  unfold e_Reader_readStep_78 d_tellStep_134
  rw [R.nz, cond_false]
  refine p2_next K R X (k' := 27) (by decide) (fun hm => ?_) (fun _ => ?_)
  · rw [cz_10, cond_false, cond_false]
    refine p2_goes (k' := 27) K R X (by decide) (by decide) hm (fun F1 Fm1 U1 => ?_) (fun F1 Fm1 fc fm E => ?_)
    · have H1 := U1.v.h hd H
      have e1 := U1.dg hd 16
      dsimp only
      rw [cz_10, cond_false]
      have fin : ∀ {hi : Int32}, (0 ≤ v.toInt ∧ v.toInt < (F d 16).toInt ∨ v = -1) → P2 ((e_Reader_takeNumber P F1 A J 0 hi).bind fun (v48, P49, F50, A51, J52) => e_Reader_readStep_107 n P49 F50 A51 J52 v y2 y3 y4 y5 y6 v48) (d_tellStep_169 m Fm1 Am Jm v x4 x5 x6 x7 x8 x9 0 hi) (RS T d P) := by
        intro hi hv
        unfold d_tellStep_169
        refine p2_num K U1.rt X (fun F2 Fm2 V2 _ => ?_) (fun v2 F2 Fm2 fc fm E => ?_)
        · exact qs_end K V2.rt X (V2.h hd H1) ((W.v H.s0 hd U1.c U1.m).v H1.s0 hd V2.fc V2.fm) h6 (by (try dsimp only); rw [V2.fm 19 (by decide) (by decide) (by decide) (by decide) (by decide), U1.fm 19 (by decide)]; exact hw) q5 q6 q7 q8 q9 (.inl rfl) h5 hk (by rw [V2.dg hd 16, e1]; exact hv)
        · exact p2_ff E (c_se_ff E.c) (d_se_ff E)
      rcases hv with ⟨v0, v1, rfl⟩ | rfl
      · rw [i_ge.mpr (by rw [i_0]; exact v0), cond_true, sn_pos h5 hk v0 (by omega)]
        exact fin (.inl ⟨v0, v1⟩)
      · rw [i_nge.mpr (by decide), cond_false, sn_neg (by decide)]
        exact fin (.inr rfl)
    · refine p2_ff E ?_ ?_
      · dsimp only
        rw [cz_00, cond_true]
        exact c_se_ff E.c
      · dsimp only
        unfold d_tellStep_169
        refine po_cond (fun _ => ?_) (fun _ => ?_)
        · rw [d_num_ff E.gg, Option.bind_some]
          exact d_se_ff E
        · rw [d_num_ff E.gg, Option.bind_some]
          exact d_se_ff E
  · rw [cz_00, cond_true, cond_true]
    exact qs_end K R X H W h6 hw q5 q6 q7 q8 q9 (.inr ⟨by decide, by rw [q10]; decide⟩) h5 hk (hv.imp (fun h => ⟨h.1, h.2.1⟩) id)
theorem c_s78_ff {y1 y2 y3 y4 y5 y6 : Int32} (h : (F 37 10).toInt ≠ 0) : po (e_Reader_readStep_78 n P F A J y1 y2 y3 y4 y5 y6) (fun a => a.2.2.1 37 10 = F 37 10) := by
  unfold e_Reader_readStep_78
  rw [e_next_ff h, Option.bind_some, cz_00, cond_true]
  exact c_se_ff h
theorem d_s134_ff {x2 x4 x5 x6 x7 x8 x9 x10 : Int32} (E : FE F Fm) : po (d_tellStep_134 m Fm Am Jm x2 x3 x4 x5 x6 x7 x8 x9 x10) (fun b => b.2.1 13 = Fm 13) := by
  unfold d_tellStep_134
  rw [E.nz, cond_true]
  exact d_se_ff E
theorem d_s59_ff {x2 s0 s1 s2 : Int32} (E : FE F Fm) : po (d_tellStep_59 m Fm Am Jm x2 x3 s0 s1 s2) (fun b => b.2.1 13 = Fm 13) := by
  unfold d_tellStep_59
  rw [d_num_ff E.gg, Option.bind_some]
  dsimp only
  rw [d_num_ff E.gg, Option.bind_some]
  dsimp only
  rw [d_num_ff E.gg, Option.bind_some]
  dsimp only
  rw [d_num_ff E.gg, Option.bind_some]
  dsimp only
  rw [E.nz, cond_true]
  exact d_s134_ff E
/-- the class's step, behind its task -/
def gstep (n : Nat) (P : Nat → Nat → Nat) (F : Nat → Nat → Int32) (A : Nat → Nat → Nat → Int32) (J : Nat → Nat → Nat → Int64) (v1 : Int32) : Option (Unit × (Nat → Nat → Nat) × (Nat → Nat → Int32) × (Nat → Nat → Nat → Int32) × (Nat → Nat → Nat → Int64)) :=
  (e_Reader_takeNumber P F A J 1 120).bind fun (v6, P7, F8, A9, J10) =>
  (e_Reader_takeNumber P7 F8 A9 J10 0 99).bind fun (v11, P12, F13, A14, J15) =>
  (e_Reader_takeNumber P12 F13 A14 J15 0 99).bind fun (v16, P17, F18, A19, J20) =>
  (e_Reader_takeNumber P17 F18 A19 J20 0 99).bind fun (v21, P22, F23, A24, J25) =>
  (e_Reader_isNext P22 F23 A24 J25 9).bind fun v26 =>
  cond (g_cnd .eq v26 0)
  (e_Reader_readStep_78 n P22 F23 A24 J25 v1 v6 v11 v16 v21 ((-2)))
  ((e_Reader_take P22 F23 A24 J25 9).bind fun (v28, P29, F30, A31, J32) =>
  cond (g_cnd .eq v28 0)
  (e_Reader_readStep_78 n P29 F30 A31 J32 v1 v6 v11 v16 v21 ((-2)))
  ((c_chk 6 (P29 37 5)).bind fun q34 =>
  (e_Reader_takeKnownName_v2 n P29 F30 A31 J32 (F30 q34 15)).bind fun (v35, P36, F37, A38, J39) =>
  e_Reader_readStep_78 n P36 F37 A38 J39 v1 v6 v11 v16 v21 v35))
theorem gstep_ff {y1 : Int32} (h : (F 37 10).toInt ≠ 0) : po (gstep n P F A J y1) (fun a => a.2.2.1 37 10 = F 37 10) := by
  unfold gstep
  rw [e_num_ff h, Option.bind_some]
  dsimp only
  rw [e_num_ff h, Option.bind_some]
  dsimp only
  rw [e_num_ff h, Option.bind_some]
  dsimp only
  rw [e_num_ff h, Option.bind_some]
  dsimp only
  rw [e_next_ff h, Option.bind_some, cz_00, cond_true]
  exact c_s78_ff h
theorem qs_tail {s0 s1 s2 : Int32} (K : TKs T) (R : RT T F Fm) (X : RX T A J Am Jm) (H : RH d F A J Fm Am Jm) (W : RW d F A Fm Am) (h6 : ∀ t, 0 ≤ t → ci A d 5 t ≤ 6) (hw : 0 ≤ ci A d 5 v.toInt ∧ ci A d 5 v.toInt < 6 ∧ ((s0 * (s1 + s2)) + x3).toInt = 6 * (6 * (Fm 19).toInt + v.toInt) + ci A d 5 v.toInt ∨ v = -1) (h5 : P 37 5 = d) (hk : c_kind d = 6) (hv : 0 ≤ v.toInt ∧ v.toInt < (F d 16).toInt ∧ A d 5 v.toInt.toNat = x3 ∨ v = -1) : P2 (gstep n P F A J v) (d_tellStep_59 m Fm Am Jm v x3 s0 s1 s2) (RS T d P) := by
  have hd := kd37 hk
  have hc := chk_in h5 hk
  unfold gstep d_tellStep_59
  have ff : ∀ {w : Int32} {F1 Fm1 y6 y11 y16 y21 y26 x4 x5 x6 x7 x8 x9 x10 x11}, FE F1 Fm1 → P2 (e_Reader_readStep_78 n P F1 A J y6 y11 y16 y21 y26 w) (d_tellStep_134 m Fm1 Am Jm x4 x5 x6 x7 x8 x9 x10 x11 w) (RS T d P) := fun E => p2_ff E (c_s78_ff E.c) (d_s134_ff E)
  refine p2_num K R X (fun F1 Fm1 V1 _ => ?_) (fun v1 F1 Fm1 fc fm E => ?_)
  · dsimp only
    refine p2_num K V1.rt X (fun F2 Fm2 V2 _ => ?_) (fun v2 F2 Fm2 fc fm E => ?_)
    · dsimp only
      refine p2_num K V2.rt X (fun F3 Fm3 V3 _ => ?_) (fun v3 F3 Fm3 fc fm E => ?_)
      · dsimp only
        refine p2_num K V3.rt X (fun F4 Fm4 V4 _ => ?_) (fun v4 F4 Fm4 fc fm E => ?_)
        · dsimp only
          have H4 := V4.h hd (V3.h hd (V2.h hd (V1.h hd H)))
          have e4 : F4 d 16 = F d 16 := by rw [V4.dg hd, V3.dg hd, V2.dg hd, V1.dg hd]
          have W4 : RW d F4 A Fm4 Am := (((W.v H.s0 hd V1.fc V1.fm).v (V1.h hd H).s0 hd V2.fc V2.fm).v (V2.h hd (V1.h hd H)).s0 hd V3.fc V3.fm).v (V3.h hd (V2.h hd (V1.h hd H))).s0 hd V4.fc V4.fm
          have e419 : Fm4 19 = Fm 19 := by rw [V4.fm 19 (by decide) (by decide) (by decide) (by decide) (by decide), V3.fm 19 (by decide) (by decide) (by decide) (by decide) (by decide), V2.fm 19 (by decide) (by decide) (by decide) (by decide) (by decide), V1.fm 19 (by decide) (by decide) (by decide) (by decide) (by decide)]
          rw [← e419] at hw
          rw [V4.rt.nz, cond_false]
          refine p2_next K V4.rt X (k' := 26) (by decide) (fun hm => ?_) (fun _ => ?_)
          · rw [cz_10, cond_false, cond_false]
            refine p2_goes (k' := 26) K V4.rt X (by decide) (by decide) hm (fun F5 Fm5 U5 => ?_) (fun F5 Fm5 fc fm E => ?_)
            · have H5 := U5.v.h hd H4
              dsimp only
              rw [cz_10, cond_false, hc, Option.bind_some, known_1]
              refine p2_known (q := 1) (by decide) (by decide) K U5.rt X H5.nr (fun w F6 Fm6 V6 _ _ => ?_) (fun F6 Fm6 fc fm E _ => ?_)
              · exact qs_78 K V6.rt X (V6.h hd H5) ((W4.v H4.s0 hd U5.c U5.m).v H5.s0 hd V6.fc V6.fm) h6 (by dsimp only; rw [V6.fm 19 (by decide) (by decide) (by decide) (by decide) (by decide), U5.fm 19 (by decide)]; exact hw) rfl rfl rfl rfl (.inl rfl) rfl h5 hk (by dsimp only; rw [V6.dg hd, U5.dg hd, e4]; exact hv)
              · exact p2_ff E (c_s78_ff E.c) (d_s134_ff E)
            · refine p2_ff E ?_ ?_
              · dsimp only
                rw [cz_00, cond_true]
                exact c_s78_ff E.c
              · dsimp only
                rw [d_known_ff E.gg, Option.bind_some]
                exact d_s134_ff E
          · rw [cz_00, cond_true, cond_true]
            exact qs_78 K V4.rt X H4 W4 h6 hw rfl rfl rfl rfl (.inr ⟨by decide, by decide⟩) rfl h5 hk (by rw [e4]; exact hv)
        · refine p2_ff E ?_ ?_
          · dsimp only
            rw [e_next_ff E.c, Option.bind_some, cz_00, cond_true]
            exact c_s78_ff E.c
          · dsimp only
            rw [E.nz, cond_true]
            exact d_s134_ff E
      · refine p2_ff E ?_ ?_
        · dsimp only
          rw [e_num_ff E.c, Option.bind_some]
          dsimp only
          rw [e_next_ff E.c, Option.bind_some, cz_00, cond_true]
          exact c_s78_ff E.c
        · dsimp only
          rw [d_num_ff E.gg, Option.bind_some]
          dsimp only
          rw [E.nz, cond_true]
          exact d_s134_ff E
    · refine p2_ff E ?_ ?_
      · dsimp only
        rw [e_num_ff E.c, Option.bind_some]
        dsimp only
        rw [e_num_ff E.c, Option.bind_some]
        dsimp only
        rw [e_next_ff E.c, Option.bind_some, cz_00, cond_true]
        exact c_s78_ff E.c
      · dsimp only
        rw [d_num_ff E.gg, Option.bind_some]
        dsimp only
        rw [d_num_ff E.gg, Option.bind_some]
        dsimp only
        rw [E.nz, cond_true]
        exact d_s134_ff E
  · refine p2_ff E ?_ ?_
    · dsimp only
      rw [e_num_ff E.c, Option.bind_some]
      dsimp only
      rw [e_num_ff E.c, Option.bind_some]
      dsimp only
      rw [e_num_ff E.c, Option.bind_some]
      dsimp only
      rw [e_next_ff E.c, Option.bind_some, cz_00, cond_true]
      exact c_s78_ff E.c
    · dsimp only
      rw [d_num_ff E.gg, Option.bind_some]
      dsimp only
      rw [d_num_ff E.gg, Option.bind_some]
      dsimp only
      rw [d_num_ff E.gg, Option.bind_some]
      dsimp only
      rw [E.nz, cond_true]
      exact d_s134_ff E
end B1
end Qz104
section Qz105
section B2
variable {T : TS} {d n m q : Nat} {P : Nat → Nat → Nat} {F F' : Nat → Nat → Int32} {A A' : Nat → Nat → Nat → Int32} {J J' : Nat → Nat → Nat → Int64} {Fm Fm' : Nat → Int32} {Am Am' : Nat → Nat → Int32} {Jm Jm' : Nat → Nat → Int64} {k k' v x2 x3 : Int32}
theorem gknown_0 (h : (F 37 10).toInt = 0) (t0 : 0 ≤ (F 37 7).toInt) (t1 : (F 37 7).toInt ≤ 400) (hk : (A 37 2 (F 37 7).toInt.toNat).toInt ≠ (100 : Int32).toInt) : ∃ F', gknown q n P F A J x2 = some (-1, P, F', A, J) ∧ F' 37 10 = 1 := by
  unfold gknown
  obtain ⟨F', e, h1, h2⟩ := e_take_0 (P := P) (J := J) h t0 t1 hk
  rw [e, Option.bind_some]
  dsimp only
  rw [i_nne.mpr rfl, cond_false]
  exact ⟨F', rfl, h1⟩
theorem d_known_0 (h : (Fm 13).toInt = 0) (t0 : 0 ≤ (Fm 11).toInt) (t1 : (Fm 11).toInt ≤ 400) (hk : (Am 3 (Fm 11).toInt.toNat).toInt ≠ (1 : Int32).toInt) : ∃ F', d_known m Fm Am Jm x2 = some (-1, F', Am, Jm) ∧ F' 13 = 1 := by
  unfold d_known
  obtain ⟨F', e, h1, h2⟩ := d_must_0 (J := Jm) h t0 t1 hk
  rw [e, Option.bind_some]
  dsimp only
  rw [i_nle.mpr (by rw [h1]; decide), cond_false]
  exact ⟨F', rfl, h1⟩
theorem d_failAt_0 {x : Int32} (h : (Fm 13).toInt = 0) (h0 : 0 ≤ x.toInt) (h1 : x.toInt < 403) : ∃ F', d_failAt Fm Am Jm k x = some ((), F', Am, Jm) ∧ F' 13 = k := by
  unfold d_failAt
  rw [i_le.mpr (by rw [i_0]; omega), cond_true]
  obtain ⟨F3, e3⟩ : ∃ F3, m_pf Fm 13 k = some F3 := ⟨_, rfl⟩
  have U3 := gg_pf e3
  rw [e3, Option.bind_some, m_ld_in h0 (by omega), Option.bind_some]
  obtain ⟨F4, e4⟩ : ∃ F4, m_pf F3 14 (Am 4 x.toInt.toNat) = some F4 := ⟨_, rfl⟩
  rw [e4, Option.bind_some]
  have U4 := gg_pf e4
  exact ⟨F4, rfl, by rw [U4.2 13 (by decide), U3.1]⟩
theorem d_failAt_ff {x : Int32} (h : 0 < (Fm 13).toInt) : d_failAt Fm Am Jm k x = some ((), Fm, Am, Jm) := by
  unfold d_failAt
  rw [i_nle.mpr (by rw [i_0]; exact h), cond_false]
theorem e_fail_2 {x : Int32} (h : (F 37 10).toInt = 2) : po (e_Reader_fail P F A J 2 x) (fun r => ∃ F', r = ((), P, F', A, J) ∧ (F' 37 10).toInt = 2) := by
  unfold e_Reader_fail
  rw [i_neq.mpr (by rw [h, i_0]; decide), cond_false]
  refine po_cond (fun _ => po_some ⟨F, rfl, h⟩) (fun _ => ?_)
  unfold e_Reader_fail_15
  refine po_bl (fun F3 e3 => po_bl (fun F4 e4 => po_some ⟨F4, rfl, ?_⟩))
  rw [(gg_cpf e4).2 37 10 (by decide), (gg_cpf e3).1]
  decide
theorem readStep_g : e_Reader_readStep n P F A J = (e_Reader_takeTaskOfStep n P F A J).bind fun (v1, P2, F3, A4, J5) => gstep n P2 F3 A4 J5 v1 := rfl
/-- a step is told -/
theorem qq_step (K : TKs T) (R : RT T F Fm) (X : RX T A J Am Jm) (H : RH d F A J Fm Am Jm) (W : RW d F A Fm Am) (Rr : Rc F A) (h5 : P 37 5 = d) (hk : c_kind d = 6) (hm : (Am 3 (Fm 11).toInt.toNat).toInt = (25 : Int32).toInt) : P2 (e_Reader_readStep n P F A J) ((d_goesOn Fm Am Jm).bind fun (_, F48, A49, J50) => (d_tellStep m F48 A49 J50 ((F48 11) - 1)).bind fun (_, F52, A53, J54) => some ((), F52, A53, J54)) (RS T d P) := by
  have hd := kd37 hk
  have hc := chk_in h5 hk
  have t0 := R.t0
  have t1 := R.t1
  have tk := R.tk
  have l1 := i_1
  have l6 : (6 : Int32).toInt = 6 := by decide
  have bt : 0 ≤ (F d 16).toInt ∧ (F d 16).toInt ≤ 6 := H.nr.bd 2 (by decide)
  rw [readStep_g]
  unfold e_Reader_takeTaskOfStep
  rw [m_ld_in (by rw [tk]; exact t0) (by rw [tk]; omega), Option.bind_some, Option.bind_assoc]
  generalize A 37 3 (F 37 7).toInt.toNat = place
  refine p2_goes (k' := 25) K R X (by decide) (by decide) hm (fun F1 Fm1 U1 => ?_) (fun F1 Fm1 fc fm E => ?_)
  · have R1 := U1.rt
    have H1 := U1.v.h hd H
    have e16 := U1.dg hd 16
    have u0 := R1.t0
    have u1 := R1.t1
    have x1e : ((Fm1 11) - 1).toInt = (Fm 11).toInt := by
      rw [i_sub (by omega) (by omega), i_1, U1.m1]; omega
    dsimp only
    refine p2_eta ?_
    rw [Option.bind_assoc]
    have iff := R1.kd (k := 100) (k' := 1) K X (by decide)
    by_cases hN : (Am 3 (Fm1 11).toInt.toNat).toInt = (1 : Int32).toInt
    · rw [e_next_1 R1.f0 (by rw [R1.tk]; exact u0) (by rw [R1.tk]; exact u1) (iff.mpr hN), Option.bind_some, cz_10, cond_false, m_ldJ_in (by rw [R1.tk]; exact u0) (by rw [R1.tk]; omega), Option.bind_some, hc, Option.bind_some, find2_q, X.j5, R1.tk]
      rw [Option.bind_assoc]
      refine p2_bl (fun v11 hf11 => ?_)
      unfold e_Reader_takeTaskOfStep_57 d_tellStep
      rw [hc, Option.bind_some, known_2, Option.bind_assoc]
      refine p2_known (q := 2) (by decide) (by decide) K R1 X H1.nr (fun v F2 Fm2 V2 hf hv => ?_) (fun F2 Fm2 fc fm E hz => ?_)
      · have ev : v11 = v := by
          have hf : findq 2 n J (T.jc (Fm1 11).toInt.toNat) (F1 d 16) = some v := hf
          rw [hf11] at hf
          exact Option.some.inj hf
        subst ev
        have H2 := V2.h hd H1
        have e216 : F2 d 16 = F d 16 := by rw [V2.dg hd, e16]
        have e219 : Fm2 19 = Fm1 19 := V2.fm 19 (by decide) (by decide) (by decide) (by decide) (by decide)
        have W2 : RW d F2 A Fm2 Am := (W.v H.s0 hd U1.c U1.m).v H1.s0 hd V2.fc V2.fm
        have h6 : ∀ t, 0 ≤ t → ci A d 5 t ≤ 6 := fun t t0 => by
          have := Rr.2 d 5 t t0
          rw [hk] at this
          have this : 0 ≤ ci A d 5 t ∧ ci A d 5 t ≤ 6 := this
          exact this.2
        dsimp only
        rcases hv with ⟨v0, v1, U2⟩ | ⟨rfl, _⟩
        · have v1 : v11.toInt < (F1 d 16).toInt := v1
          rw [e16] at v1
          rw [i_nlt.mpr (by rw [i_0]; exact v0), cond_false, hc, Option.bind_some, m_ld_in v0 (by omega), Option.bind_some, i_ge.mpr (by rw [i_0]; exact v0), cond_true]
          refine p2_br (fun w6 e6 => ?_)
          have a6 := gg_ld e6
          have same : A d 5 v11.toInt.toNat = w6 := by
            rw [a6.2.2]
            exact H2.sc' v0 (by rw [e216]; exact v1) (H2.ix v0 (by omega))
          rw [same]
          have rg : 0 ≤ w6.toInt ∧ w6.toInt ≤ 6 := by
            have := Rr.2 d 5 v11.toInt v0
            rw [hk] at this
            have this : 0 ≤ (A d 5 v11.toInt.toNat).toInt ∧ (A d 5 v11.toInt.toNat).toInt ≤ 6 := this
            rw [same] at this
            exact this
          by_cases c6 : w6.toInt < 6
          · rw [i_lt.mpr (by rw [l6]; exact c6), cond_true, Option.bind_some, i_ne.mpr (by rw [l6]; omega), cond_true]
            unfold d_tellStep_41
            rw [i_ge.mpr (by rw [i_0]; exact v0), cond_true]
            have em := H2.ix6 v0 (show v11.toInt ≤ 12 by omega)
            have s0 := H2.s0
            have s1 := H2.s1
            have ix : ((6 * (6 * (Fm2 19) + v11)) + w6).toInt = 6 * (6 * (Fm2 19).toInt + v11.toInt) + ci A d 5 v11.toInt := by
              have m2 := i_mulL (c := 6) (k := 6) (x := 6 * (Fm2 19) + v11) (by decide) (by omega) (by omega)
              rw [i_add (by omega) (by omega), m2, em]
              have : ci A d 5 v11.toInt = w6.toInt := by rw [← same]; rfl
              omega
            have cw : ci A d 5 v11.toInt = w6.toInt := by rw [← same]; rfl
            have cw0 : 0 ≤ ci A d 5 v11.toInt := by omega
            have cw6 : ci A d 5 v11.toInt < 6 := by omega
            exact qs_tail K V2.rt X H2 W2 h6 (.inl ⟨cw0, cw6, ix⟩) h5 hk (.inl ⟨v0, by show v11.toInt < (F2 d 16).toInt; rw [e216]; exact v1, same⟩)
          · rw [i_nlt.mpr (by rw [l6]; omega), cond_false, i_nne.mpr (by rw [l6]; omega), cond_false]
            obtain ⟨F3, f1, f2, -⟩ := e_fail_0 (P := P) (F := F2) (A := A) (J := J) (k := 2) (v := place) V2.rt.f0
            obtain ⟨Fm3, g1, g2⟩ := d_failAt_0 (Fm := Fm2) (Am := Am) (Jm := Jm) (k := 2) (x := (Fm1 11) - 1) V2.rt.g0 (by rw [x1e]; exact t0) (by rw [x1e]; omega)
            rw [f1, g1, Option.bind_some, Option.bind_some]
            have E : FE F3 Fm3 := ⟨by rw [f2, g2], by rw [g2]; decide⟩
            refine p2_ff E ?_ ?_
            · exact gstep_ff E.c
            · exact d_s59_ff E
        · rw [i_lt.mpr (by decide), cond_true, Option.bind_some, i_nge.mpr (by decide), cond_false]
          unfold d_tellStep_28
          rw [i_ne.mpr (by decide), cond_true]
          unfold d_tellStep_41
          rw [i_nge.mpr (by decide), cond_false]
          exact qs_tail K V2.rt X H2 W2 h6 (.inr rfl) h5 hk (.inr rfl)
      · have h2 := hz (by rw [← X.m3]; exact hN)
        have hF2 : (F2 37 10).toInt = 2 := by rw [E.1]; exact h2
        refine p2_ff E ?_ ?_
        · dsimp only
          refine po_bind_cond (fun _ => ?_) (fun _ => ?_)
          · rw [Option.bind_some]
            exact gstep_ff E.c
          · rw [hc, Option.bind_some]
            rw [Option.bind_assoc]
            refine po_bl (fun w20 _ => po_bind_cond (fun _ => ?_) (fun _ => ?_))
            · rw [Option.bind_some]
              exact gstep_ff E.c
            · rw [Option.bind_assoc]
              refine po_call (e_fail_2 hF2) ?_
              rintro _ ⟨F3, rfl, h3⟩
              dsimp only
              rw [Option.bind_some]
              refine po_mono (gstep_ff (by rw [h3]; decide)) (fun a ha => ?_)
              rw [ha]
              exact i_ext (by rw [h3, hF2])
        · dsimp only
          rw [i_nge.mpr (by decide), cond_false]
          unfold d_tellStep_28
          rw [i_ne.mpr (by decide), cond_true]
          unfold d_tellStep_41
          rw [i_nge.mpr (by decide), cond_false]
          exact d_s59_ff E
    · rw [e_next_0 R1.f0 (by rw [R1.tk]; exact u0) (by rw [R1.tk]; exact u1) (fun h => hN (iff.mp h)), Option.bind_some, cz_00, cond_true]
      unfold e_Reader_takeTaskOfStep_57 d_tellStep
      obtain ⟨F2, f1, f2⟩ := gknown_0 (q := 2) (n := n) (P := P) (J := J) (x2 := F1 d 16) R1.f0 (by rw [R1.tk]; exact u0) (by rw [R1.tk]; exact u1) (fun h => hN (iff.mp h))
      obtain ⟨Fm2, g1, g2⟩ := d_known_0 (m := m) (Jm := Jm) (x2 := 2) R1.g0 u0 u1 hN
      rw [hc, Option.bind_some, known_2, f1, Option.bind_some, g1, Option.bind_some]
      have E : FE F2 Fm2 := ⟨by rw [f2, g2], by rw [g2]; decide⟩
      dsimp only
      rw [i_lt.mpr (by decide), cond_true, Option.bind_some, i_nge.mpr (by decide), cond_false]
      unfold d_tellStep_28
      rw [i_ne.mpr (by decide), cond_true]
      unfold d_tellStep_41
      rw [i_nge.mpr (by decide), cond_false]
      exact p2_ff E (gstep_ff E.c) (d_s59_ff E)
  · refine p2_ff E ?_ ?_
    · dsimp only
      rw [e_next_ff E.c, Option.bind_some, cz_00, cond_true]
      unfold e_Reader_takeTaskOfStep_57
      rw [hc, Option.bind_some, known_2, gknown_ff E.c, Option.bind_some]
      dsimp only
      rw [i_lt.mpr (by decide), cond_true, Option.bind_some]
      exact gstep_ff E.c
    · dsimp only
      unfold d_tellStep
      rw [d_known_ff E.gg, Option.bind_some]
      dsimp only
      rw [i_nge.mpr (by decide), cond_false]
      unfold d_tellStep_28
      rw [i_ne.mpr (by decide), cond_true]
      unfold d_tellStep_41
      rw [i_nge.mpr (by decide), cond_false]
      refine po_call (d_s59_ff E) ?_
      rintro ⟨u, F9, A9, J9⟩ h
      exact po_some h
end B2
end Qz105
section Qz106
/-! terms of laws, side by side -/
/-- both sides stand within a law, o brackets deep -/
def SX (T : TS) (o : Int) (d : Nat) (J : Nat → Nat → Nat → Int64) (Jm : Nat → Nat → Int64) (F : Nat → Nat → Int32) (A : Nat → Nat → Nat → Int32) (Fm : Nat → Int32) (Am : Nat → Nat → Int32) : Prop := (RT T F Fm) ∧ (RX T A J Am Jm) ∧ (RHo o d F A J Fm Am Jm) ∧ (RW d F A Fm Am)
theorem SX.r {T : TS} {o : Int} {d : Nat} {J : Nat → Nat → Nat → Int64} {Jm : Nat → Nat → Int64} {F : Nat → Nat → Int32} {A : Nat → Nat → Nat → Int32} {Fm : Nat → Int32} {Am : Nat → Nat → Int32} (h_ : SX T o d J Jm F A Fm Am) : RT T F Fm := h_.1
theorem SX.x {T : TS} {o : Int} {d : Nat} {J : Nat → Nat → Nat → Int64} {Jm : Nat → Nat → Int64} {F : Nat → Nat → Int32} {A : Nat → Nat → Nat → Int32} {Fm : Nat → Int32} {Am : Nat → Nat → Int32} (h_ : SX T o d J Jm F A Fm Am) : RX T A J Am Jm := h_.2.1
theorem SX.h {T : TS} {o : Int} {d : Nat} {J : Nat → Nat → Nat → Int64} {Jm : Nat → Nat → Int64} {F : Nat → Nat → Int32} {A : Nat → Nat → Nat → Int32} {Fm : Nat → Int32} {Am : Nat → Nat → Int32} (h_ : SX T o d J Jm F A Fm Am) : RHo o d F A J Fm Am Jm := h_.2.2.1
theorem SX.e {T : TS} {o : Int} {d : Nat} {J : Nat → Nat → Nat → Int64} {Jm : Nat → Nat → Int64} {F : Nat → Nat → Int32} {A : Nat → Nat → Nat → Int32} {Fm : Nat → Int32} {Am : Nat → Nat → Int32} (h_ : SX T o d J Jm F A Fm Am) : RW d F A Fm Am := h_.2.2.2
section B3
variable {T : TS} {d n m N : Nat} {o : Int} {P : Nat → Nat → Nat} {F F' : Nat → Nat → Int32} {A A' : Nat → Nat → Nat → Int32} {J J' : Nat → Nat → Nat → Int64} {Fm Fm' : Nat → Int32} {Am Am' : Nat → Nat → Int32} {Jm Jm' : Nat → Nat → Int64} {k k' x1 x2 : Int32} {γ δ : Type} {Q : γ → δ → Prop}
/-- the class writes instructions -/
def FrL (d : Nat) (F F' : Nat → Nat → Int32) (A A' : Nat → Nat → Nat → Int32) : Prop := (∀ r k, ¬ (r = d ∧ k = 1304) → F' r k = F r k) ∧ (∀ r o, ¬ (r = d ∧ (o = 15 ∨ o = 16)) → A' r o = A r o)
theorem FrL.rfl' : FrL d F F A A := ⟨fun _ _ _ => rfl, fun _ _ _ => rfl⟩
theorem FrL.tr {F1 : Nat → Nat → Int32} {A1 : Nat → Nat → Nat → Int32} (a : FrL d F F1 A A1) (b : FrL d F1 F' A1 A') : FrL d F F' A A' := ⟨fun r k h => (b.1 r k h).trans (a.1 r k h), fun r k h => (b.2 r k h).trans (a.2 r k h)⟩
/-- the reference writes instructions -/
def FrN (F F' : Nat → Int32) (A A' : Nat → Nat → Int32) : Prop := (∀ q, q ≠ 56 → q ≠ 60 → F' q = F q) ∧ (∀ q, q ≠ 42 → q ≠ 43 → q ≠ 44 → A' q = A q)
theorem FrN.rfl' : FrN Fm Fm Am Am := ⟨fun _ _ _ => rfl, fun _ _ _ _ => rfl⟩
theorem FrN.tr {F1 : Nat → Int32} {A1 : Nat → Nat → Int32} (a : FrN Fm F1 Am A1) (b : FrN F1 Fm' A1 Am') : FrN Fm Fm' Am Am' := ⟨fun q h h' => (b.1 q h h').trans (a.1 q h h'), fun q h h' h'' => (b.2 q h h' h'').trans (a.2 q h h' h'')⟩
theorem SX.l (S : SX T o d J Jm F A Fm Am) (hd : d ≠ 37) (hd3 : d ≠ 3) (f : FrL d F F' A A') : SX T o d J Jm F' A' Fm Am :=
  ⟨S.r.cg (fun k _ => f.1 37 k (fun e => hd e.1.symm)) (fun _ _ => rfl), S.x.ca (fun o => f.2 37 o (fun e => hd e.1.symm)), S.h.fr (fun k h1 h2 => f.1 d k (fun e => by omega)) (f.1 37 9 (fun e => hd e.1.symm)) (f.2 d 5 (fun e => by omega)) (fun _ _ => rfl) rfl rfl rfl (fun _ _ => rfl) rfl, RW.fr S.e S.h.s0 (fun k h1 h2 => f.1 d k (fun e => by omega)) (f.1 3 7 (fun e => hd3 e.1.symm)) (f.1 3 8 (fun e => hd3 e.1.symm)) (fun o => f.2 3 o (fun e => hd3 e.1.symm)) (fun o h1 h2 => f.2 d o (fun e => by omega)) rfl (fun _ _ _ _ _ _ _ _ => rfl)⟩
theorem SX.nn (S : SX T o d J Jm F A Fm Am) (f : FrN Fm Fm' Am Am') : SX T o d J Jm F A Fm' Am' :=
  ⟨S.r.cg (fun _ _ => rfl) (fun q hq => f.1 q (by omega) (by omega)), S.x.a (fun q hq => f.2 q (by omega) (by omega) (by omega)), S.h.fr (fun _ _ _ => rfl) rfl rfl (fun _ _ => rfl) (f.1 19 (by decide) (by decide)) (f.1 20 (by decide) (by decide)) (f.1 12 (by decide) (by decide)) (fun q hq => f.2 q (by omega) (by omega) (by omega)) rfl, RW.fr S.e S.h.s0 (fun _ _ _ => rfl) rfl rfl (fun _ => rfl) (fun _ _ _ => rfl) (f.1 19 (by decide) (by decide)) (fun q _ _ h _ _ _ _ => f.2 q (by omega) (by omega) (by omega))⟩
theorem SX.v (S : SX T o d J Jm F A Fm Am) (hd : d ≠ 37) (V : RV T F F' Fm Fm') : SX T o d J Jm F' A Fm' Am := ⟨V.rt, S.x, V.h hd S.h, S.e.v S.h.s0 hd V.fc V.fm⟩
/-- brackets open and close -/
theorem SX.oo {o' : Int} (S : SX T o d J Jm F A Fm Am) (h12 : (Fm' 12).toInt = o') (f : ∀ q, q ≠ 12 → Fm' q = Fm q) : SX T o' d J Jm F A Fm' Am :=
  ⟨S.r.cg (fun _ _ => rfl) (fun q hq => f q (by omega)), S.x, ⟨by rw [f 19 (by decide)]; exact S.h.s0, by rw [f 19 (by decide)]; exact S.h.s1, by rw [f 19 (by decide)]; exact S.h.cn, by rw [f 19 (by decide)]; exact S.h.dr, by rw [f 19 (by decide)]; exact S.h.lw, by rw [f 19 (by decide)]; exact S.h.sc, S.h.nr.fr (fun _ _ => rfl) (fun _ _ => rfl) (f 20 (by decide)) rfl rfl rfl, h12⟩, RW.fr S.e S.h.s0 (fun _ _ _ => rfl) rfl rfl (fun _ => rfl) (fun _ _ _ => rfl) (f 19 (by decide)) (fun _ _ _ _ _ _ _ _ => rfl)⟩
theorem add_po : po (e_Laws_add P F A J d x1 x2) (fun r => ∃ v F' A', r = (v, P, F', A', J) ∧ FrL d F F' A A') := by
  unfold e_Laws_add
  refine po_cond (fun _ => po_some ⟨_, F, A, rfl, FrL.rfl'⟩) (fun _ => ?_)
  refine po_bl (fun A2 e2 => po_bl (fun A3 e3 => po_bl (fun F4 e4 => po_some ⟨_, F4, A3, rfl, ?_, ?_⟩)))
  · exact fun r k h => (gg_cpf e4).2 r k h
  · intro r o h
    rw [(gg_cst e3).2.2.2.2 r o (fun e => h ⟨e.1, .inr e.2⟩), (gg_cst e2).2.2.2.2 r o (fun e => h ⟨e.1, .inl e.2⟩)]
theorem aim_po : po (e_Laws_aimHere P F A J d x1) (fun r => ∃ A', r = ((), P, F, A', J) ∧ FrL d F F A A') := by
  unfold e_Laws_aimHere
  refine po_cond (fun _ => po_some ⟨A, rfl, FrL.rfl'⟩) (fun _ => po_cond (fun _ => po_some ⟨A, rfl, FrL.rfl'⟩) (fun _ => ?_))
  refine po_bl (fun A2 e2 => po_some ⟨A2, rfl, fun _ _ _ => rfl, ?_⟩)
  intro r o h
  rw [(gg_cst e2).2.2.2.2 r o (fun e => h ⟨e.1, .inr e.2⟩)]
theorem sign_po (hc : c_chk 6 (P 37 5) = some d) : po (e_Reader_addSign P F A J x1) (fun r => ∃ F' A', r = ((), P, F', A', J) ∧ FrL d F F' A A') := by
  unfold e_Reader_addSign
  refine po_cond (fun _ => po_some ⟨F, A, rfl, FrL.rfl'⟩) (fun _ => ?_)
  rw [hc, Option.bind_some]
  refine po_call add_po ?_
  rintro _ ⟨v, F', A', rfl, f⟩
  exact po_some ⟨F', A', rfl, f⟩
theorem emit_po : po (d_emit Fm Am Jm x1 x2) (fun r => ∃ F' A', r = ((), F', A', Jm) ∧ FrN Fm F' Am A') := by
  unfold d_emit
  refine po_bl (fun A2 e2 => po_bl (fun A3 e3 => po_bl (fun F4 e4 => po_some ⟨F4, A3, rfl, ?_, ?_⟩)))
  · exact fun q h _ => (gg_pf e4).2 q h
  · intro q h h' _
    rw [(gg_st e3).2.2.1 q h', (gg_st e2).2.2.1 q h]
theorem out_po0 : ∀ {n : Nat} {Fm : Nat → Int32} {Am : Nat → Nat → Int32}, po (d_comesOut_0 n Fm Am Jm x1) (fun r => ∃ F' A', r = ((), F', A', Jm) ∧ FrN Fm F' Am A') := by
  intro n
  induction n with
  | zero => intro Fm Am r hr; cases hr
  | succ n ih =>
    intro Fm Am
    have z : ∀ v, po (d_comesOut_42 (d_comesOut_0 n) n Fm Am Jm x1 v) (fun r => ∃ F' A', r = ((), F', A', Jm) ∧ FrN Fm F' Am A') := by
      intro v
      unfold d_comesOut_42
      refine po_bl (fun F7 e7 => ?_)
      have f7 : FrN Fm F7 Am Am := ⟨fun q _ h => (gg_pf e7).2 q h, fun _ _ _ _ => rfl⟩
      have w : ∀ s, po (d_comesOut_84 (d_comesOut_0 n) n F7 Am Jm x1 s) (fun r => ∃ F' A', r = ((), F', A', Jm) ∧ FrN Fm F' Am A') := by
        intro s
        unfold d_comesOut_84
        refine po_call emit_po ?_
        rintro _ ⟨F8, A8, rfl, f8⟩
        refine po_mono ih ?_
        rintro _ ⟨F9, A9, rfl, f9⟩
        exact ⟨F9, A9, rfl, (f7.tr f8).tr f9⟩
      exact po_cond (fun _ => po_cond (fun _ => po_cond (fun _ => w _) (fun _ => w _)) (fun _ => w _)) (fun _ => w _)
    have e : po (some ((), Fm, Am, Jm)) (fun r => ∃ F' A', r = ((), F', A', Jm) ∧ FrN Fm F' Am A') := po_some ⟨Fm, Am, rfl, FrN.rfl'⟩
    unfold d_comesOut_0
    refine po_cond (fun _ => e) (fun _ => po_bl (fun v _ => ?_))
    exact po_cond (fun _ => e) (fun _ => po_cond (fun _ => z _) (fun _ => po_cond (fun _ => e) (fun _ => po_cond (fun _ => z _) (fun _ => e))))
theorem out_po : po (d_comesOut n Fm Am Jm x1) (fun r => ∃ F' A', r = ((), F', A', Jm) ∧ FrN Fm F' Am A') := out_po0
/-! with a fault of form both come to their ends -/
theorem unit_ff (h : 0 < (Fm 13).toInt) : d_unit Fm Am Jm = some ((), Fm, Am, Jm) := by
  unfold d_unit d_unit_88
  rw [d_is_ff h, Option.bind_some, cz_00, cond_true, i_ne.mpr (by rw [i_0]; omega), cond_true, d_fail_ff h, Option.bind_some]
theorem dX_ff {K12} (h : 0 < (Fm 13).toInt) : po (d_expression_23 K12 n Fm Am Jm x1) (fun b => b.2.1 13 = Fm 13) := by
  cases n with
  | zero => intro r hr; cases hr
  | succ n =>
    unfold d_expression_23
    rw [d_is_ff h, Option.bind_some, cz_00, cond_true, unit_ff h, Option.bind_some]
    dsimp only
    rw [i_nle.mpr (by rw [i_0]; exact h), cond_false]
    exact po_some rfl
theorem dY_ff {K12} (h : 0 < (Fm 13).toInt) : po (d_expression_96 K12 n Fm Am Jm x1) (fun b => b.2.1 13 = Fm 13) := by
  cases n with
  | zero => intro r hr; cases hr
  | succ n =>
    unfold d_expression_96
    rw [d_is_ff h, Option.bind_some, cz_00, cond_true]
    unfold d_expression_145
    rw [d_is_ff h, Option.bind_some, i_nne.mpr rfl, cond_false, d_is_ff h, Option.bind_some, i_nne.mpr rfl, cond_false, d_is_ff h, Option.bind_some, i_nne.mpr rfl, cond_false, d_is_ff h, Option.bind_some, cz_00, cond_true]
    unfold d_expression_186
    rw [i_nne.mpr rfl, cond_false]
    have z : ∀ {F1 : Nat → Int32} {A1 J1}, F1 13 = Fm 13 → po ((d_comesOut n F1 A1 J1 0).bind fun (_, F62, A63, J64) => some ((), F62, A63, J64)) (fun b => b.2.1 13 = Fm 13) := by
      intro F1 A1 J1 e
      refine po_call out_po ?_
      rintro _ ⟨F2, A2, rfl, f⟩
      exact po_some (by show F2 13 = Fm 13; rw [f.1 13 (by decide) (by decide), e])
    refine po_cond (fun _ => ?_) (fun _ => ?_)
    · unfold d_expression_204
      exact z rfl
    · rw [d_fail_ff h, Option.bind_some]
      exact z rfl
theorem d12_ff (h : 0 < (Fm 13).toInt) : po (d_expression_12 N Fm Am Jm x1 x2) (fun b => b.2.1 13 = Fm 13) := by
  cases N with
  | zero => intro r hr; cases hr
  | succ N =>
    unfold d_expression_12
    rw [i_ne.mpr (by rw [i_0]; omega)]
    refine po_cond (fun _ => po_some rfl) (fun _ => ?_)
    rw [cond_true]
    exact po_some rfl
theorem dE_ff (h : 0 < (Fm 13).toInt) : po (d_expression n Fm Am Jm) (fun b => b.2.1 13 = Fm 13) := by
  unfold d_expression
  refine po_bl (fun F1 e1 => ?_)
  have e13 : F1 13 = Fm 13 := (gg_pf e1).2 13 (by decide)
  exact po_mono (d12_ff (by rw [e13]; exact h)) (fun b hb => hb.trans e13)
theorem e58_ff {KS} (h : (F 37 10).toInt ≠ 0) : ∀ {n : Nat} {x2 : Int32}, po (e_Reader_readUnit_58 KS n P F A J x2) (fun r => r = ((), P, F, A, J)) := by
  intro n
  induction n with
  | zero => intro x2 r hr; cases hr
  | succ n ih =>
    intro x2
    unfold e_Reader_readUnit_58
    refine po_cond (fun _ => ?_) (fun _ => ?_)
    · rw [e_take_ff h, Option.bind_some]
      dsimp only
      rw [cz_00, cond_true]
      exact po_some rfl
    · rw [e_next_ff h, Option.bind_some, cz_00, cond_true]
      unfold e_Reader_readUnit_97
      exact ih
theorem eU_ff {KS} (h : (F 37 10).toInt ≠ 0) : po (e_Reader_readUnit KS n P F A J x1) (fun r => r = ((), P, F, A, J)) := by
  unfold e_Reader_readUnit
  rw [e_next_ff h, Option.bind_some, cz_00, cond_true]
  exact e58_ff h
theorem eE_ff (h : (F 37 10).toInt ≠ 0) : e_Reader_takeEither P F A J x1 x2 = some (0, P, F, A, J) := by
  unfold e_Reader_takeEither e_Reader_takeEither_18
  rw [e_next_ff h, Option.bind_some, cz_00, cond_true, e_next_ff h, Option.bind_some, cz_00, cond_true]
theorem eS10_ff {KS} (hd : d ≠ 37) (hc : c_chk 6 (P 37 5) = some d) : ∀ {n : Nat} {F : Nat → Nat → Int32} {A : Nat → Nat → Nat → Int32} {x1 x2 x3 x4 x5 : Int32}, (F 37 10).toInt ≠ 0 → po (e_Reader_readSum_10 KS n P F A J x1 x2 x3 x4 x5) (fun r => ∃ F' A', r = ((), P, F', A', J) ∧ FrL d F F' A A') := by
  intro n
  induction n with
  | zero => intro F A x1 x2 x3 x4 x5 _ r hr; cases hr
  | succ n ih =>
    intro F A x1 x2 x3 x4 x5 h
    unfold e_Reader_readSum_10
    refine po_cond (fun _ => po_some ⟨F, A, rfl, FrL.rfl'⟩) (fun _ => po_cond (fun _ => po_some ⟨F, A, rfl, FrL.rfl'⟩) (fun _ => ?_))
    refine po_call (eU_ff h) ?_
    rintro _ rfl
    dsimp only
    refine po_call (sign_po hc) ?_
    rintro _ ⟨F1, A1, rfl, f1⟩
    dsimp only
    have h1 : (F1 37 10).toInt ≠ 0 := by rw [f1.1 37 10 (fun e => hd e.1.symm)]; exact h
    rw [eE_ff h1, Option.bind_some]
    dsimp only
    rw [i_nne.mpr rfl, cond_false]
    refine po_call (sign_po hc) ?_
    rintro _ ⟨F2, A2, rfl, f2⟩
    dsimp only
    have h2 : (F2 37 10).toInt ≠ 0 := by rw [f2.1 37 10 (fun e => hd e.1.symm)]; exact h1
    rw [eE_ff h2, Option.bind_some]
    dsimp only
    rw [cz_00, cond_true]
    unfold e_Reader_readSum_69 e_Reader_readSum_71
    refine po_mono (ih h2) ?_
    rintro _ ⟨F3, A3, rfl, f3⟩
    exact ⟨F3, A3, rfl, (f1.tr f2).tr f3⟩
theorem eS_ff (hd : d ≠ 37) (hc : c_chk 6 (P 37 5) = some d) (h : (F 37 10).toInt ≠ 0) : po (e_Reader_readSum m n P F A J x1) (fun r => ∃ F' A', r = ((), P, F', A', J) ∧ FrL d F F' A A') := by
  cases m with
  | zero => intro r hr; cases hr
  | succ m =>
    unfold e_Reader_readSum e_Reader_readSumB
    exact eS10_ff hd hc h
end B3
end Qz106
section Qz107
/-! what both sides write of a term: the class's instructions beside the reference's codes -/
section B3z
variable {d n : Nat} {p c h D sg pt st u i x o : Int} {w : Int → Int} {P : Nat → Nat → Nat} {F F' : Nat → Nat → Int32} {A A' A0 : Nat → Nat → Nat → Int32} {J : Nat → Nat → Nat → Int64} {Fm Fm' : Nat → Int32} {Am Am' Am0 : Nat → Nat → Int32} {Jm : Nat → Nat → Int64} {x1 x2 : Int32} {k49 : Int32 × Int32}
/-- the class's sign for the reference's -/
def chx (x : Int) : Int := if x = 8 then 43 else if x = 9 then 45 else if x = 10 then 42 else if x = 15 then 47 else 0
/-- the reference's code for its sign -/
def opx (x : Int) : Int := if x = 8 then 2 else if x = 9 then 3 else if x = 10 then 4 else 5
def ns (x : Int) : Int := if x = 0 then 0 else 1
theorem ns_0 : ns 0 = 0 := rfl
theorem ns_b (x : Int) : 0 ≤ ns x ∧ ns x ≤ 1 := by unfold ns; split <;> omega
theorem ns_1 (h : x ≠ 0) : ns x = 1 := if_neg h
/-- an instruction of the class beside a code of the reference -/
def CEq (a v k z : Int) : Prop := (a = 1 ∧ k = 0 ∧ v = z) ∨ (a = 2 ∧ k = 1 ∧ v = z) ∨ (a = 43 ∧ k = 2) ∨ (a = 45 ∧ k = 3) ∨ (a = 42 ∧ k = 4) ∨ (a = 47 ∧ k = 5)
theorem CEq.op {v z : Int} (hx : x = 8 ∨ x = 9 ∨ x = 10 ∨ x = 15) : CEq (chx x) v (opx x) z := by
  rcases hx with rfl | rfl | rfl | rfl
  · exact .inr (.inr (.inl ⟨rfl, rfl⟩))
  · exact .inr (.inr (.inr (.inl ⟨rfl, rfl⟩)))
  · exact .inr (.inr (.inr (.inr (.inl ⟨rfl, rfl⟩))))
  · exact .inr (.inr (.inr (.inr (.inr ⟨rfl, rfl⟩))))
/-- l instructions from p on beside l codes from c on -/
def SGx (d : Nat) (A : Nat → Nat → Nat → Int32) (Am : Nat → Nat → Int32) (p c l : Int) : Prop := 0 ≤ l ∧ (∀ i, 0 ≤ i → i < l → CEq (ci A d 15 (p + i)) (ci A d 16 (p + i)) (ai Am 42 (c + i)) (ai Am 43 (c + i)) ∧ (2 ≤ ai Am 42 (c + i) → 2 ≤ dpm Am c i.toNat)) ∧ (∀ i, 0 ≤ i → i ≤ l → dpm Am c i.toNat ≤ 16)
/-- what was there before -/
def CBx (p c : Int) (d : Nat) (A0 A : Nat → Nat → Nat → Int32) (Am0 Am : Nat → Nat → Int32) : Prop := (∀ i, 0 ≤ i → i < p → ci A d 15 i = ci A0 d 15 i ∧ ci A d 16 i = ci A0 d 16 i) ∧ (∀ i, 0 ≤ i → i < c → ai Am 42 i = ai Am0 42 i ∧ ai Am 43 i = ai Am0 43 i) ∧ (∀ q, 34 ≤ q → q ≤ 41 → Am q = Am0 q) ∧ A d 14 = A0 d 14
/-- both sides within a term: waiting signs sg and pt above h; st: how many of them the class has written; u: 1 behind a unit -/
def CR (A0 : Nat → Nat → Nat → Int32) (Am0 : Nat → Nat → Int32) (k49 : Int32 × Int32) (p c h D : Int) (w : Int → Int) (sg pt st u : Int) (d : Nat) (F : Nat → Nat → Int32) (A : Nat → Nat → Nat → Int32) (Fm : Nat → Int32) (Am : Nat → Nat → Int32) : Prop := (0 ≤ p ∧ 0 ≤ c ∧ 0 ≤ h ∧ 0 ≤ D ∧ D ≤ 14 ∧ 0 ≤ u ∧ u ≤ 1 ∧ D + ns sg + ns pt + u ≤ 16) ∧ ((sg = 0 ∨ sg = 8 ∨ sg = 9) ∧ (pt = 0 ∨ pt = 10 ∨ pt = 15)) ∧ ((Fm 60).toInt = h + ns sg + ns pt ∧ (∀ i, 0 ≤ i → i < h → ai Am 44 i = w i) ∧ (sg ≠ 0 → ai Am 44 h = sg) ∧ (pt ≠ 0 → ai Am 44 (h + ns sg) = pt)) ∧ SGx d A Am p c ((Fm 56).toInt - c) ∧ dpm Am c ((Fm 56).toInt - c).toNat = D + ns sg + ns pt + u ∧ ((F d 1304).toInt = p + ((Fm 56).toInt - c) + (if 1 ≤ st then ns pt else 0) + (if 2 ≤ st then ns sg else 0) ∧ (1 ≤ st → pt ≠ 0 → ci A d 15 (p + ((Fm 56).toInt - c)) = chx pt) ∧ (2 ≤ st → sg ≠ 0 → ci A d 15 (p + ((Fm 56).toInt - c) + ns pt) = chx sg) ∧ (F d 1304).toInt + (if 1 ≤ st then 0 else ns pt) + (if 2 ≤ st then 0 else ns sg) + D + 3 ≤ (Fm 11).toInt) ∧ CBx p c d A0 A Am0 Am ∧ (Fm 49, Fm 19) = k49
theorem CBx.rfl' : CBx p c d A A Am Am := ⟨fun _ _ _ => ⟨rfl, rfl⟩, fun _ _ _ => ⟨rfl, rfl⟩, fun _ _ _ => rfl, rfl⟩
theorem SGx.fr {l : Int} (S : SGx d A Am p c l) (h15 : ∀ i, p ≤ i → i < p + l → ci A' d 15 i = ci A d 15 i ∧ ci A' d 16 i = ci A d 16 i) (h42 : ∀ i, c ≤ i → i < c + l → ai Am' 42 i = ai Am 42 i ∧ ai Am' 43 i = ai Am 43 i) : SGx d A' Am' p c l := by
  have hd : ∀ k : Nat, c + k ≤ c + l → dpm Am' c k = dpm Am c k := dpm_rg (fun i a b => (h42 i a b).1)
  refine ⟨S.1, fun i i0 i1 => ?_, fun i i0 i1 => ?_⟩
  · rw [(h15 (p + i) (by omega) (by omega)).1, (h15 (p + i) (by omega) (by omega)).2, (h42 (c + i) (by omega) (by omega)).1, (h42 (c + i) (by omega) (by omega)).2, hd i.toNat (by omega)]
    exact S.2.1 i i0 i1
  · rw [hd i.toNat (by omega)]
    exact S.2.2 i i0 i1
/-- nothing that matters changes, tokens are taken -/
theorem CR.fr (C : CR A0 Am0 k49 p c h D w sg pt st u d F A Fm Am) (f : F' d 1304 = F d 1304) (a15 : A' d 15 = A d 15) (a16 : A' d 16 = A d 16) (a14 : A' d 14 = A d 14) (f60 : Fm' 60 = Fm 60) (f56 : Fm' 56 = Fm 56) (f49 : (Fm' 49, Fm' 19) = (Fm 49, Fm 19)) (f11 : (Fm 11).toInt ≤ (Fm' 11).toInt) (m : ∀ q, 34 ≤ q → q ≤ 44 → Am' q = Am q) : CR A0 Am0 k49 p c h D w sg pt st u d F' A' Fm' Am' := by
  obtain ⟨c1, c2, c3, c4, c5, ⟨c6, c7, c8, c9⟩, ⟨c10, c11, c12, c13⟩, c14⟩ := C
  unfold CR
  rw [f, f60, f56, f49, ai_fr (m 44 (by decide) (by decide)), ci_fr a15, dpm_fr (m 42 (by decide) (by decide))]
  refine ⟨c1, c2, c3, c4.fr (fun i _ _ => by rw [ci_fr a15, ci_fr a16]; exact ⟨rfl, rfl⟩) (fun i _ _ => by rw [ai_fr (m 42 (by decide) (by decide)), ai_fr (m 43 (by decide) (by decide))]; exact ⟨rfl, rfl⟩), c5, ⟨c6, c7, c8, by omega⟩, ⟨?_, ?_, fun q h1 h2 => (m q h1 (by omega)).trans (c12 q h1 h2), a14.trans c13⟩, c14⟩
  · rw [ci_fr a15, ci_fr a16]; exact c10
  · rw [ai_fr (m 42 (by decide) (by decide)), ai_fr (m 43 (by decide) (by decide))]; exact c11
theorem CR.v (C : CR A0 Am0 k49 p c h D w sg pt st u d F A Fm Am) (hd : d ≠ 37) (fc : FrC F F') (fm : FrM Fm Fm') (f11 : (Fm 11).toInt ≤ (Fm' 11).toInt) : CR A0 Am0 k49 p c h D w sg pt st u d F' A Fm' Am :=
  C.fr (fc d 1304 (fun e => hd e.1)) rfl rfl rfl (fm 60 (by decide) (by decide) (by decide) (by decide) (by decide)) (fm 56 (by decide) (by decide) (by decide) (by decide) (by decide)) (by rw [fm 49 (by decide) (by decide) (by decide) (by decide) (by decide), fm 19 (by decide) (by decide) (by decide) (by decide) (by decide)]) f11 (fun _ _ _ => rfl)
/-- one pair more -/
theorem SGx.add {l : Int} (S : SGx d A Am p c l) (h15 : ∀ i, p ≤ i → i < p + l → ci A' d 15 i = ci A d 15 i ∧ ci A' d 16 i = ci A d 16 i) (h42 : ∀ i, c ≤ i → i < c + l → ai Am' 42 i = ai Am 42 i ∧ ai Am' 43 i = ai Am 43 i) (e : CEq (ci A' d 15 (p + l)) (ci A' d 16 (p + l)) (ai Am' 42 (c + l)) (ai Am' 43 (c + l))) (h2 : 2 ≤ ai Am' 42 (c + l) → 2 ≤ dpm Am c l.toNat) (h16 : dpm Am c l.toNat ≤ 15 ∨ 2 ≤ ai Am' 42 (c + l)) : SGx d A' Am' p c (l + 1) ∧ dpm Am' c (l + 1).toNat = (if ai Am' 42 (c + l) < 2 then dpm Am c l.toNat + 1 else dpm Am c l.toNat - 1) := by
  have S2 := S.fr h15 h42
  have hd : ∀ k : Nat, c + k ≤ c + l → dpm Am' c k = dpm Am c k := dpm_rg (fun i a b => (h42 i a b).1)
  have l0 := S.1
  have s16 := S.2.2 l l0 (Int.le_refl _)
  have en : (l + 1).toNat = l.toNat + 1 := by omega
  have ec : c + ((l.toNat : Nat) : Int) = c + l := by omega
  have st : dpm Am' c (l + 1).toNat = (if ai Am' 42 (c + l) < 2 then dpm Am c l.toNat + 1 else dpm Am c l.toNat - 1) := by
    rw [en]
    show (if ai Am' 42 (c + ((l.toNat : Nat) : Int)) < 2 then dpm Am' c l.toNat + 1 else dpm Am' c l.toNat - 1) = _
    rw [ec, hd l.toNat (by omega)]
  refine ⟨⟨by omega, fun i i0 i1 => ?_, fun i i0 i1 => ?_⟩, st⟩
  · by_cases e2 : i = l
    · subst e2
      exact ⟨e, fun h => by rw [hd i.toNat (by omega)]; exact h2 h⟩
    · exact S2.2.1 i i0 (by omega)
  · by_cases e2 : i = l + 1
    · rw [e2, st]
      split
      · omega
      · omega
    · exact S2.2.2 i i0 (by omega)
/-- the class writes an instruction -/
theorem add_v (h0 : 0 ≤ (F d 1304).toInt) (h1 : (F d 1304).toInt < 400) : po (e_Laws_add P F A J d x1 x2) (fun r => ∃ v F' A', r = (v, P, F', A', J) ∧ FrL d F F' A A' ∧ v = F d 1304 ∧ (F' d 1304).toInt = (F d 1304).toInt + 1 ∧ ci A' d 15 (F d 1304).toInt = x1.toInt ∧ ci A' d 16 (F d 1304).toInt = x2.toInt ∧ (∀ i, 0 ≤ i → i ≠ (F d 1304).toInt → ci A' d 15 i = ci A d 15 i ∧ ci A' d 16 i = ci A d 16 i)) := by
  unfold e_Laws_add
  refine po_cond (fun c => ?_) (fun _ => ?_)
  · rw [i_ge, show (400 : Int32).toInt = 400 by decide] at c
    omega
  refine po_bl (fun A2 e2 => po_bl (fun A3 e3 => po_bl (fun F4 e4 => po_some ?_)))
  have a2 := (gg_cst e2).2.2
  have a3 := (gg_cst e3).2.2
  have u4 := gg_cpf e4
  have s4 : (F4 d 1304).toInt = (F d 1304).toInt + 1 := by rw [u4.1, i_add (by rw [i_1]; omega) (by rw [i_1]; omega), i_1]
  refine ⟨_, F4, A3, rfl, ⟨fun r k h => u4.2 r k h, fun r o h => by rw [a3.2.2 r o (fun e => h ⟨e.1, .inr e.2⟩), a2.2.2 r o (fun e => h ⟨e.1, .inl e.2⟩)]⟩, i_ext (by rw [i_sub (by rw [s4, i_1]; omega) (by rw [s4, i_1]; omega), s4, i_1]; omega), s4, ?_, a3.1, fun i i0 hi => ⟨?_, ?_⟩⟩
  · rw [ci_fr (a3.2.2 d 15 (fun e => absurd e.2 (by decide)))]; exact a2.1
  · rw [ci_fr (a3.2.2 d 15 (fun e => absurd e.2 (by decide)))]; exact a2.2.1 i i0 hi
  · rw [a3.2.1 i i0 hi, ci_fr (a2.2.2 d 16 (fun e => absurd e.2 (by decide)))]
/-- the reference writes a code -/
theorem emit_v : po (d_emit Fm Am Jm x1 x2) (fun r => ∃ F' A', r = ((), F', A', Jm) ∧ FrN Fm F' Am A' ∧ 0 ≤ (Fm 56).toInt ∧ (F' 56).toInt = (Fm 56).toInt + 1 ∧ F' 60 = Fm 60 ∧ A' 44 = Am 44 ∧ ai A' 42 (Fm 56).toInt = x1.toInt ∧ ai A' 43 (Fm 56).toInt = x2.toInt ∧ (∀ i, 0 ≤ i → i ≠ (Fm 56).toInt → ai A' 42 i = ai Am 42 i ∧ ai A' 43 i = ai Am 43 i)) := by
  unfold d_emit
  refine po_bl (fun A2 e2 => po_bl (fun A3 e3 => po_bl (fun F4 e4 => po_some ?_)))
  have a2 := gg_st e2
  have a3 := gg_st e3
  have u4 := gg_pf e4
  refine ⟨F4, A3, rfl, ⟨fun q h _ => u4.2 q h, fun q h h' _ => by rw [a3.2.2.1 q h', a2.2.2.1 q h]⟩, a2.1, by rw [u4.1, i_add (by rw [i_1]; omega) (by rw [i_1]; omega), i_1], u4.2 60 (by decide), by rw [a3.2.2.1 44 (by decide), a2.2.2.1 44 (by decide)], ?_, a3.2.2.2.1, fun i i0 hi => ⟨?_, ?_⟩⟩
  · rw [ai_fr (a3.2.2.1 42 (by decide))]; exact a2.2.2.2.1
  · rw [ai_fr (a3.2.2.1 42 (by decide))]; exact a2.2.2.2.2 i i0 hi
  · rw [a3.2.2.2.2 i i0 hi, ai_fr (a2.2.2.1 43 (by decide))]
/-- a unit: both have written -/
theorem CR.unit {v1 v2 y1 y2 : Int32} (C : CR A0 Am0 k49 p c h D w 0 0 st 0 d F A Fm Am) (fl : (F' d 1304).toInt = (F d 1304).toInt + 1) (l15 : ci A' d 15 (F d 1304).toInt = v1.toInt) (l16 : ci A' d 16 (F d 1304).toInt = v2.toInt) (lo : ∀ i, 0 ≤ i → i ≠ (F d 1304).toInt → ci A' d 15 i = ci A d 15 i ∧ ci A' d 16 i = ci A d 16 i) (l14 : A' d 14 = A d 14) (fn : (Fm' 56).toInt = (Fm 56).toInt + 1) (f60 : Fm' 60 = Fm 60) (f49 : (Fm' 49, Fm' 19) = (Fm 49, Fm 19)) (f11 : (Fm' 11).toInt = (Fm 11).toInt + 1) (n42 : ai Am' 42 (Fm 56).toInt = y1.toInt) (n43 : ai Am' 43 (Fm 56).toInt = y2.toInt) (no : ∀ i, 0 ≤ i → i ≠ (Fm 56).toInt → ai Am' 42 i = ai Am 42 i ∧ ai Am' 43 i = ai Am 43 i) (m44 : Am' 44 = Am 44) (m : ∀ q, 34 ≤ q → q ≤ 41 → Am' q = Am q) (e : (v1.toInt = 1 ∧ y1.toInt = 0 ∨ v1.toInt = 2 ∧ y1.toInt = 1) ∧ v2.toInt = y2.toInt) : CR A0 Am0 k49 p c h D w 0 0 2 1 d F' A' Fm' Am' := by
  obtain ⟨c1, c2, c3, c4, c5, ⟨c6, c7, c8, c9⟩, ⟨c10, c11, c12, c13⟩, c14⟩ := C
  have z0 := ns_0
  have ifz : ∀ {q : Prop} [Decidable q], (if q then ns 0 else 0) = 0 := by intro q _; split <;> rfl
  have ifz' : ∀ {q : Prop} [Decidable q], (if q then 0 else ns 0) = 0 := by intro q _; split <;> rfl
  rw [ifz, ifz] at c6
  rw [ifz', ifz'] at c9
  obtain ⟨l, hl⟩ : ∃ l, l = (Fm 56).toInt - c := ⟨_, rfl⟩
  rw [← hl] at c4 c5 c6
  have l0 := c4.1
  have e56 : (Fm 56).toInt = c + l := by omega
  have eL : (F d 1304).toInt = p + l := by omega
  rw [e56] at n42 n43 no fn
  rw [eL] at l15 l16 lo fl
  have el : (Fm' 56).toInt - c = l + 1 := by omega
  have add := c4.add (A' := A') (Am' := Am') (fun i a b => lo i (by omega) (by omega)) (fun i a b => no i (by omega) (by omega)) (by
    rw [l15, l16, n42, n43]
    rcases e.1 with h | h
    · exact .inl ⟨h.1, h.2, e.2⟩
    · exact .inr (.inl ⟨h.1, h.2, e.2⟩)) (fun h => by rw [n42] at h; omega) (.inl (by omega))
  have hd := add.2
  rw [n42, if_pos (by omega)] at hd
  unfold CR
  rw [f60, f49, el, ai_fr m44]
  refine ⟨by omega, c2, c3, add.1, by omega, ⟨?_, fun _ h => absurd rfl h, fun _ h => absurd rfl h, ?_⟩, ⟨fun i a b => ?_, fun i a b => ?_, fun q h1 h2 => (m q h1 h2).trans (c12 q h1 h2), l14.trans c13⟩, c14⟩
  · rw [ifz, ifz]; omega
  · rw [ifz', ifz']; omega
  · rw [(lo i a (by omega)).1, (lo i a (by omega)).2]; exact c10 i a b
  · rw [(no i a (by omega)).1, (no i a (by omega)).2]; exact c11 i a b
/-- the class writes the sign that waits for its second part -/
theorem CR.s1 (C : CR A0 Am0 k49 p c h D w sg pt 0 1 d F A Fm Am) (hp : pt ≠ 0) {v1 : Int32} (fl : (F' d 1304).toInt = (F d 1304).toInt + 1) (l15 : ci A' d 15 (F d 1304).toInt = v1.toInt) (lo : ∀ i, 0 ≤ i → i ≠ (F d 1304).toInt → ci A' d 15 i = ci A d 15 i ∧ ci A' d 16 i = ci A d 16 i) (l14 : A' d 14 = A d 14) (e : v1.toInt = chx pt) : CR A0 Am0 k49 p c h D w sg pt 1 1 d F' A' Fm Am := by
  obtain ⟨c1, c2, c3, c4, c5, ⟨c6, c7, c8, c9⟩, ⟨c10, c11, c12, c13⟩, c14⟩ := C
  rw [if_neg (by decide), if_neg (by decide)] at c6
  rw [if_neg (by decide), if_neg (by decide)] at c9
  have n1 := ns_1 hp
  have l0 := c4.1
  refine ⟨c1, c2, c3, c4.fr (fun i a b => lo i (by omega) (by omega)) (fun _ _ _ => ⟨rfl, rfl⟩), c5, ⟨?_, fun _ _ => ?_, fun h => absurd h (by decide), ?_⟩, ⟨fun i a b => ?_, c11, c12, l14.trans c13⟩, c14⟩
  · rw [if_pos (by decide), if_neg (by decide)]; omega
  · rw [← e, ← l15]
    congr 1
    omega
  · rw [if_pos (by decide), if_neg (by decide)]; omega
  · rw [(lo i a (by omega)).1, (lo i a (by omega)).2]; exact c10 i a b
theorem CR.s1z (C : CR A0 Am0 k49 p c h D w sg 0 0 1 d F A Fm Am) : CR A0 Am0 k49 p c h D w sg 0 1 1 d F A Fm Am := by
  obtain ⟨c1, c2, c3, c4, c5, ⟨c6, c7, c8, c9⟩, cb⟩ := C
  rw [if_neg (by decide), if_neg (by decide)] at c6
  rw [if_neg (by decide), if_neg (by decide)] at c9
  have z := ns_0
  refine ⟨c1, c2, c3, c4, c5, ⟨?_, fun _ h => absurd rfl h, fun h => absurd h (by decide), ?_⟩, cb⟩
  · rw [if_pos (by decide), if_neg (by decide)]; omega
  · rw [if_pos (by decide), if_neg (by decide)]; omega
theorem CR.s2 (C : CR A0 Am0 k49 p c h D w sg pt 1 1 d F A Fm Am) (hp : sg ≠ 0) {v1 : Int32} (fl : (F' d 1304).toInt = (F d 1304).toInt + 1) (l15 : ci A' d 15 (F d 1304).toInt = v1.toInt) (lo : ∀ i, 0 ≤ i → i ≠ (F d 1304).toInt → ci A' d 15 i = ci A d 15 i ∧ ci A' d 16 i = ci A d 16 i) (l14 : A' d 14 = A d 14) (e : v1.toInt = chx sg) : CR A0 Am0 k49 p c h D w sg pt 2 1 d F' A' Fm Am := by
  obtain ⟨c1, c2, c3, c4, c5, ⟨c6, c7, c8, c9⟩, ⟨c10, c11, c12, c13⟩, c14⟩ := C
  rw [if_pos (by decide), if_neg (by decide)] at c6
  rw [if_pos (by decide), if_neg (by decide)] at c9
  have n1 := ns_1 hp
  have np := ns_b pt
  have l0 := c4.1
  refine ⟨c1, c2, c3, c4.fr (fun i a b => lo i (by omega) (by omega)) (fun _ _ _ => ⟨rfl, rfl⟩), c5, ⟨?_, fun _ h => ?_, fun _ _ => ?_, ?_⟩, ⟨fun i a b => ?_, c11, c12, l14.trans c13⟩, c14⟩
  · rw [if_pos (by decide), if_pos (by decide)]; omega
  · rw [(lo _ (by omega) (by have := ns_1 h; omega)).1]; exact c7 (by decide) h
  · rw [← e, ← l15]
    congr 1
    omega
  · rw [if_pos (by decide), if_pos (by decide)]; omega
  · rw [(lo i a (by omega)).1, (lo i a (by omega)).2]; exact c10 i a b
theorem CR.s2z (C : CR A0 Am0 k49 p c h D w 0 pt 1 1 d F A Fm Am) : CR A0 Am0 k49 p c h D w 0 pt 2 1 d F A Fm Am := by
  obtain ⟨c1, c2, c3, c4, c5, ⟨c6, c7, c8, c9⟩, cb⟩ := C
  rw [if_pos (by decide), if_neg (by decide)] at c6
  rw [if_pos (by decide), if_neg (by decide)] at c9
  have z := ns_0
  refine ⟨c1, c2, c3, c4, c5, ⟨?_, fun _ h => c7 (by decide) h, fun _ h => absurd rfl h, ?_⟩, cb⟩
  · rw [if_pos (by decide), if_pos (by decide)]; omega
  · rw [if_pos (by decide), if_pos (by decide)]; omega
/-- the signs that wait, as what a unit stands on -/
def wx (h sg pt : Int) (w : Int → Int) : Int → Int := fun i => if i < h then w i else if sg ≠ 0 ∧ i = h then sg else pt
theorem CR.base (C : CR A0 Am0 k49 p c h D w sg pt 0 0 d F A Fm Am) (hD : D + ns sg + ns pt ≤ 14) : CR A0 Am0 k49 p c (h + ns sg + ns pt) (D + ns sg + ns pt) (wx h sg pt w) 0 0 0 0 d F A Fm Am := by
  obtain ⟨c1, c2, ⟨c3, w1, w2, w3⟩, c4, c5, ⟨c6, c7, c8, c9⟩, cb⟩ := C
  have z := ns_0
  have b1 := ns_b sg
  have b2 := ns_b pt
  rw [if_neg (by decide), if_neg (by decide)] at c6
  rw [if_neg (by decide), if_neg (by decide)] at c9
  refine ⟨by omega, ⟨.inl rfl, .inl rfl⟩, ⟨by omega, fun i i0 i1 => ?_, fun h => absurd rfl h, fun h => absurd rfl h⟩, c4, by omega, ⟨?_, fun h => absurd h (by decide), fun h => absurd h (by decide), ?_⟩, cb⟩
  · unfold wx
    by_cases e : i < h
    · rw [if_pos e]; exact w1 i i0 e
    · rw [if_neg e]
      by_cases e2 : sg ≠ 0 ∧ i = h
      · rw [if_pos e2, e2.2]; exact w2 e2.1
      · rw [if_neg e2]
        by_cases e3 : sg = 0
        · have n0 : ns sg = 0 := by rw [e3]; rfl
          have hp : pt ≠ 0 := fun e4 => absurd (show ns pt = 0 by rw [e4]; rfl) (by omega)
          have := w3 hp
          rw [show i = h + ns sg by omega]; exact this
        · have n1 := ns_1 e3
          have ne : i ≠ h := fun e4 => e2 ⟨e3, e4⟩
          have hp : pt ≠ 0 := fun e4 => absurd (show ns pt = 0 by rw [e4]; rfl) (by omega)
          have := w3 hp
          rw [show i = h + ns sg by omega]; exact this
  · rw [if_neg (by decide), if_neg (by decide)]; omega
  · rw [if_neg (by decide), if_neg (by decide)]; omega
theorem CR.unbase (C : CR A0 Am0 k49 p c (h + ns sg + ns pt) (D + ns sg + ns pt) (wx h sg pt w) 0 0 2 1 d F A Fm Am) (h0 : 0 ≤ h) (D0 : 0 ≤ D) (hs : (sg = 0 ∨ sg = 8 ∨ sg = 9) ∧ (pt = 0 ∨ pt = 10 ∨ pt = 15)) : CR A0 Am0 k49 p c h D w sg pt 0 1 d F A Fm Am := by
  obtain ⟨c1, c2, ⟨c3, w1, -, -⟩, c4, c5, ⟨c6, c7, c8, c9⟩, cb⟩ := C
  have z := ns_0
  have b1 := ns_b sg
  have b2 := ns_b pt
  have ifz : ∀ {q : Prop} [Decidable q], (if q then ns 0 else 0) = 0 := by intro q _; split <;> rfl
  have ifz' : ∀ {q : Prop} [Decidable q], (if q then 0 else ns 0) = 0 := by intro q _; split <;> rfl
  rw [ifz, ifz] at c6
  rw [ifz', ifz'] at c9
  refine ⟨by omega, hs, ⟨by omega, fun i i0 i1 => ?_, fun e => ?_, fun e => ?_⟩, c4, by omega, ⟨?_, fun h => absurd h (by decide), fun h => absurd h (by decide), ?_⟩, cb⟩
  · rw [w1 i i0 (by omega)]
    unfold wx
    exact if_pos i1
  · have n1 := ns_1 e
    rw [w1 h h0 (by omega)]
    unfold wx
    rw [if_neg (by omega)]
    exact if_pos ⟨e, rfl⟩
  · have n1 := ns_1 e
    rw [w1 (h + ns sg) (by omega) (by omega)]
    unfold wx
    rw [if_neg (by omega)]
    refine if_neg (fun e2 => ?_)
    have := ns_1 e2.1
    omega
  · rw [if_neg (by decide), if_neg (by decide)]; omega
  · rw [if_neg (by decide), if_neg (by decide)]; omega
/-- a bracket opens -/
theorem CR.opn (C : CR A0 Am0 k49 p c h D w 0 0 0 0 d F A Fm Am) (f60 : (Fm' 60).toInt = (Fm 60).toInt + 1) (f56 : Fm' 56 = Fm 56) (f49 : (Fm' 49, Fm' 19) = (Fm 49, Fm 19)) (f11 : (Fm 11).toInt ≤ (Fm' 11).toInt) (n44 : ai Am' 44 (Fm 60).toInt = 6) (no : ∀ i, 0 ≤ i → i ≠ (Fm 60).toInt → ai Am' 44 i = ai Am 44 i) (m : ∀ q, q ≠ 44 → Am' q = Am q) : CR A0 Am0 k49 p c (h + 1) D (fun i => if i = h then 6 else w i) 0 0 0 0 d F A Fm' Am' := by
  obtain ⟨c1, c2, ⟨c3, w1, -, -⟩, c4, c5, ⟨c6, c7, c8, c9⟩, ⟨c10, c11, c12, c13⟩, c14⟩ := C
  have z := ns_0
  rw [show (Fm 60).toInt = h by omega] at n44 no f60
  unfold CR
  rw [f56, f49, dpm_fr (m 42 (by decide))]
  refine ⟨by omega, c2, ⟨by omega, fun i i0 i1 => ?_, fun h => absurd rfl h, fun h => absurd rfl h⟩, c4.fr (fun _ _ _ => ⟨rfl, rfl⟩) (fun i _ _ => by rw [ai_fr (m 42 (by decide)), ai_fr (m 43 (by decide))]; exact ⟨rfl, rfl⟩), c5, ⟨c6, c7, c8, by omega⟩, ⟨c10, ?_, fun q h1 h2 => (m q (by omega)).trans (c12 q h1 h2), c13⟩, c14⟩
  · by_cases e : i = h
    · show ai Am' 44 i = if i = h then 6 else w i
      rw [if_pos e, e]; exact n44
    · show ai Am' 44 i = if i = h then 6 else w i
      rw [if_neg e, no i i0 e]; exact w1 i i0 (by omega)
  · rw [ai_fr (m 42 (by decide)), ai_fr (m 43 (by decide))]; exact c11
theorem CR.cls (C : CR A0 Am0 k49 p c (h + 1) D (fun i => if i = h then 6 else w i) 0 0 2 1 d F A Fm Am) (h0 : 0 ≤ h) (f60 : (Fm' 60).toInt = (Fm 60).toInt - 1) (f56 : Fm' 56 = Fm 56) (f49 : (Fm' 49, Fm' 19) = (Fm 49, Fm 19)) (f11 : (Fm 11).toInt ≤ (Fm' 11).toInt) : CR A0 Am0 k49 p c h D w 0 0 2 1 d F A Fm' Am := by
  obtain ⟨c1, c2, ⟨c3, w1, -, -⟩, c4, c5, ⟨c6, c7, c8, c9⟩, cb, c14⟩ := C
  have z := ns_0
  unfold CR
  rw [f56, f49]
  refine ⟨by omega, c2, ⟨by omega, fun i i0 i1 => ?_, fun h => absurd rfl h, fun h => absurd rfl h⟩, c4, c5, ⟨c6, c7, c8, by omega⟩, cb, c14⟩
  rw [w1 i i0 (by omega)]
  exact if_neg (by omega)
/-- a sign is pushed -/
theorem CR.psh {z : Int} (C : CR A0 Am0 k49 p c h D w sg 0 st 1 d F A Fm Am) (hz : (z = 10 ∨ z = 15) ∧ st = 1 ∨ (z = 8 ∨ z = 9) ∧ sg = 0) (f60 : (Fm' 60).toInt = (Fm 60).toInt + 1) (f56 : Fm' 56 = Fm 56) (f49 : (Fm' 49, Fm' 19) = (Fm 49, Fm 19)) (f11 : (Fm' 11).toInt = (Fm 11).toInt + 1) (n44 : ai Am' 44 (Fm 60).toInt = z) (no : ∀ i, 0 ≤ i → i ≠ (Fm 60).toInt → ai Am' 44 i = ai Am 44 i) (m : ∀ q, q ≠ 44 → Am' q = Am q) : CR A0 Am0 k49 p c h D w (if z = 10 ∨ z = 15 then sg else z) (if z = 10 ∨ z = 15 then z else 0) 0 0 d F A Fm' Am' := by
  obtain ⟨c1, c2, ⟨c3, w1, w2, -⟩, c4, c5, ⟨c6, c7, c8, c9⟩, ⟨c10, c11, c12, c13⟩, c14⟩ := C
  have zn := ns_0
  have b1 := ns_b sg
  have ifz : ∀ {q : Prop} [Decidable q], (if q then ns 0 else 0) = 0 := by intro q _; split <;> rfl
  have ifz' : ∀ {q : Prop} [Decidable q], (if q then 0 else ns 0) = 0 := by intro q _; split <;> rfl
  rw [ifz] at c6
  rw [ifz'] at c9
  rw [show (Fm 60).toInt = h + ns sg by omega] at n44 no f60
  have nz : ns z = 1 := ns_1 (by omega)
  have sgx : SGx d A Am' p c ((Fm' 56).toInt - c) := by
    rw [f56]
    exact c4.fr (fun _ _ _ => ⟨rfl, rfl⟩) (fun i _ _ => by rw [ai_fr (m 42 (by decide)), ai_fr (m 43 (by decide))]; exact ⟨rfl, rfl⟩)
  have cb : CBx p c d A0 A Am0 Am' := ⟨c10, by rw [ai_fr (m 42 (by decide)), ai_fr (m 43 (by decide))]; exact c11, fun q h1 h2 => (m q (by omega)).trans (c12 q h1 h2), c13⟩
  have dd : dpm Am' c ((Fm' 56).toInt - c).toNat = D + ns sg + ns 0 + 1 := by rw [f56, dpm_fr (m 42 (by decide))]; exact c5
  have r1 : ∀ i, 0 ≤ i → i < h → ai Am' 44 i = w i := fun i i0 i1 => by rw [no i i0 (by omega)]; exact w1 i i0 i1
  rcases hz with ⟨hz, hst⟩ | ⟨hz, hsg⟩
  · rw [if_pos hz, if_pos hz]
    subst hst
    rw [if_neg (by decide)] at c6
    rw [if_neg (by decide)] at c9
    refine ⟨by omega, ⟨c2.1, by omega⟩, ⟨by omega, r1, fun e => ?_, fun e => ?_⟩, sgx, by omega, ⟨?_, fun h => absurd h (by decide), fun h => absurd h (by decide), ?_⟩, cb, f49.trans c14⟩
    · have := ns_1 e
      rw [no h (by omega) (by omega)]; exact w2 e
    · exact n44
    · rw [if_neg (by decide), if_neg (by decide), f56]; omega
    · rw [if_neg (by decide), if_neg (by decide)]; omega
  · rw [if_neg (by omega), if_neg (by omega)]
    subst hsg
    rw [ifz] at c6
    rw [ifz'] at c9
    refine ⟨by omega, ⟨by omega, .inl rfl⟩, ⟨by omega, r1, fun e => ?_, fun e => absurd rfl e⟩, sgx, by omega, ⟨?_, fun h => absurd h (by decide), fun h => absurd h (by decide), ?_⟩, cb, f49.trans c14⟩
    · rw [← n44]; congr 1; omega
    · rw [if_neg (by decide), if_neg (by decide), f56]; omega
    · rw [if_neg (by decide), if_neg (by decide)]; omega
/-- what a term stands on: nothing, or a bracket -/
def GBx (h : Int) (w : Int → Int) : Prop := h = 0 ∨ w (h - 1) = 6
/-- the reference takes a sign down -/
theorem out_pop {Q : (Unit × (Nat → Int32) × (Nat → Nat → Int32) × (Nat → Nat → Int64)) → Prop} (h0 : 0 < (Fm 60).toInt) (hw : ai Am 44 ((Fm 60).toInt - 1) = x) (hx : x = 8 ∨ x = 9 ∨ x = 10 ∨ x = 15) (hs : x1.toInt = 0 ∨ (x = 10 ∨ x = 15)) (k : ∀ F' A', FrN Fm F' Am A' → 0 ≤ (Fm 56).toInt → (F' 56).toInt = (Fm 56).toInt + 1 → (F' 60).toInt = (Fm 60).toInt - 1 → A' 44 = Am 44 → ai A' 42 (Fm 56).toInt = opx x → (∀ i, 0 ≤ i → i ≠ (Fm 56).toInt → ai A' 42 i = ai Am 42 i ∧ ai A' 43 i = ai Am 43 i) → po (d_comesOut_0 n F' A' Jm x1) Q) : po (d_comesOut_0 (n + 1) Fm Am Jm x1) Q := by
  have l6 : (6 : Int32).toInt = 6 := by decide
  have l8 : (8 : Int32).toInt = 8 := by decide
  have l9 : (9 : Int32).toInt = 9 := by decide
  have l10 : (10 : Int32).toInt = 10 := by decide
  have e1 := i_sub (x := Fm 60) (y := 1) (by rw [i_1]; omega) (by rw [i_1]; have := i_rng (Fm 60); omega)
  rw [i_1] at e1
  unfold d_comesOut_0
  refine po_cond (fun c => ?_) (fun _ => ?_)
  · rw [i_le, i_0] at c; omega
  refine po_bl (fun v2 e2 => ?_)
  have v2e : v2.toInt = x := by rw [(gg_ld e2).2.2, e1]; exact hw
  have z : po (d_comesOut_42 (d_comesOut_0 n) n Fm Am Jm x1 v2) Q := by
    unfold d_comesOut_42
    refine po_bl (fun F7 e7 => ?_)
    have u7 := gg_pf e7
    have y : ∀ {s1 : Int32}, s1.toInt = opx x → po (d_comesOut_84 (d_comesOut_0 n) n F7 Am Jm x1 s1) Q := by
      intro s1 hs1
      unfold d_comesOut_84
      refine po_call emit_v ?_
      rintro _ ⟨F8, A8, rfl, f8, g0, g1, g2, g3, g4, g5, g6⟩
      dsimp only
      have e56 : F7 56 = Fm 56 := u7.2 56 (by decide)
      rw [e56] at g0 g1 g4 g6
      refine k F8 A8 ⟨fun q h h' => (f8.1 q h h').trans (u7.2 q h'), f8.2⟩ g0 g1 (by rw [g2, u7.1, e1]) g3 (g4.trans hs1) g6
    refine po_cond (fun c => ?_) (fun c => ?_)
    · rw [i_ne, l8, v2e] at c
      refine po_cond (fun c2 => ?_) (fun c2 => ?_)
      · rw [i_ne, l9, v2e] at c2
        refine po_cond (fun c3 => ?_) (fun c3 => ?_)
        · rw [i_ne, l10, v2e] at c3
          refine y ?_
          unfold opx
          rw [if_neg c, if_neg c2, if_neg c3]
          decide
        · rw [i_nne, l10, v2e] at c3
          refine y ?_
          rw [c3]; decide
      · rw [i_nne, l9, v2e] at c2
        refine y ?_
        rw [c2]; decide
    · rw [i_nne, l8, v2e] at c
      refine y ?_
      rw [c]; decide
  refine po_cond (fun c => ?_) (fun _ => ?_)
  · rw [i_eq, l6, v2e] at c; omega
  refine po_cond (fun _ => z) (fun c => ?_)
  rw [i_neq, i_0] at c
  refine po_cond (fun c2 => ?_) (fun _ => ?_)
  · rw [i_eq, l8, v2e] at c2; omega
  refine po_cond (fun _ => z) (fun c2 => ?_)
  rw [i_nne, l9, v2e] at c2
  omega
theorem out_stop {Q : (Unit × (Nat → Int32) × (Nat → Nat → Int32) × (Nat → Nat → Int64)) → Prop} (hs : (Fm 60).toInt ≤ 0 ∨ ai Am 44 ((Fm 60).toInt - 1) = 6 ∨ (x1.toInt ≠ 0 ∧ (ai Am 44 ((Fm 60).toInt - 1) = 8 ∨ ai Am 44 ((Fm 60).toInt - 1) = 9))) (k : Q ((), Fm, Am, Jm)) : po (d_comesOut_0 n Fm Am Jm x1) Q := by
  have l6 : (6 : Int32).toInt = 6 := by decide
  have l8 : (8 : Int32).toInt = 8 := by decide
  have l9 : (9 : Int32).toInt = 9 := by decide
  cases n with
  | zero => intro r hr; cases hr
  | succ n =>
    unfold d_comesOut_0
    refine po_cond (fun _ => po_some k) (fun c => ?_)
    rw [i_nle, i_0] at c
    have e1 := i_sub (x := Fm 60) (y := 1) (by rw [i_1]; omega) (by rw [i_1]; have := i_rng (Fm 60); omega)
    rw [i_1] at e1
    refine po_bl (fun v2 e2 => ?_)
    have v2e : v2.toInt = ai Am 44 ((Fm 60).toInt - 1) := by rw [(gg_ld e2).2.2, e1]; rfl
    refine po_cond (fun _ => po_some k) (fun c1 => ?_)
    rw [i_neq, l6, v2e] at c1
    refine po_cond (fun c2 => ?_) (fun c2 => ?_)
    · rw [i_eq, i_0] at c2; omega
    rw [i_neq, i_0] at c2
    refine po_cond (fun _ => po_some k) (fun c3 => ?_)
    rw [i_neq, l8, v2e] at c3
    refine po_cond (fun c4 => ?_) (fun _ => po_some k)
    rw [i_ne, l9, v2e] at c4
    omega
/-- a sign has been taken down -/
theorem CR.pop1 (C : CR A0 Am0 k49 p c h D w sg pt st 1 d F A Fm Am) (hst : 1 ≤ st) (hp : pt ≠ 0) (f : FrN Fm Fm' Am Am') (g1 : (Fm' 56).toInt = (Fm 56).toInt + 1) (g2 : (Fm' 60).toInt = (Fm 60).toInt - 1) (g3 : Am' 44 = Am 44) (g4 : ai Am' 42 (Fm 56).toInt = opx pt) (g6 : ∀ i, 0 ≤ i → i ≠ (Fm 56).toInt → ai Am' 42 i = ai Am 42 i ∧ ai Am' 43 i = ai Am 43 i) : CR A0 Am0 k49 p c h D w sg 0 st 1 d F A Fm' Am' := by
  obtain ⟨c1, c2, ⟨c3, w1, w2, w3⟩, c4, c5, ⟨c6, c7, c8, c9⟩, ⟨c10, c11, c12, c13⟩, c14⟩ := C
  have zn := ns_0
  have b1 := ns_b sg
  have n1 := ns_1 hp
  have ifz : ∀ {q : Prop} [Decidable q], (if q then ns 0 else 0) = 0 := by intro q _; split <;> rfl
  have ifz' : ∀ {q : Prop} [Decidable q], (if q then 0 else ns 0) = 0 := by intro q _; split <;> rfl
  rw [if_pos hst] at c6
  rw [if_pos hst] at c9
  obtain ⟨l, hl⟩ : ∃ l, l = (Fm 56).toInt - c := ⟨_, rfl⟩
  rw [← hl] at c4 c5 c6 c7 c8
  have l0 := c4.1
  have e56 : (Fm 56).toInt = c + l := by omega
  rw [e56] at g1 g4 g6
  have el : (Fm' 56).toInt - c = l + 1 := by omega
  have o2 : 2 ≤ opx pt := by
    unfold opx
    repeat' split
    all_goals omega
  have add := c4.add (A' := A) (Am' := Am') (fun _ _ _ => ⟨rfl, rfl⟩) (fun i a b => g6 i (by omega) (by omega)) (by
    rw [c7 hst hp, g4]
    exact CEq.op (by omega)) (fun _ => by omega) (.inr (by omega))
  have hd := add.2
  rw [g4, if_neg (by omega)] at hd
  unfold CR
  rw [el, ai_fr g3, f.1 49 (by decide) (by decide), f.1 19 (by decide) (by decide), f.1 11 (by decide) (by decide)]
  refine ⟨by omega, ⟨c2.1, .inl rfl⟩, ⟨by omega, w1, w2, fun h => absurd rfl h⟩, add.1, by omega, ⟨?_, fun _ h => absurd rfl h, fun a b => ?_, ?_⟩, ⟨c10, fun i a b => ?_, fun q h1 h2 => (f.2 q (by omega) (by omega) (by omega)).trans (c12 q h1 h2), c13⟩, c14⟩
  · rw [ifz]; omega
  · rw [← c8 a b]; congr 1; omega
  · rw [ifz']; omega
  · rw [(g6 i a (by omega)).1, (g6 i a (by omega)).2]; exact c11 i a b
theorem CR.pop2 (C : CR A0 Am0 k49 p c h D w sg 0 st 1 d F A Fm Am) (hst : 2 ≤ st) (hp : sg ≠ 0) (f : FrN Fm Fm' Am Am') (g1 : (Fm' 56).toInt = (Fm 56).toInt + 1) (g2 : (Fm' 60).toInt = (Fm 60).toInt - 1) (g3 : Am' 44 = Am 44) (g4 : ai Am' 42 (Fm 56).toInt = opx sg) (g6 : ∀ i, 0 ≤ i → i ≠ (Fm 56).toInt → ai Am' 42 i = ai Am 42 i ∧ ai Am' 43 i = ai Am 43 i) : CR A0 Am0 k49 p c h D w 0 0 st 1 d F A Fm' Am' := by
  obtain ⟨c1, c2, ⟨c3, w1, w2, w3⟩, c4, c5, ⟨c6, c7, c8, c9⟩, ⟨c10, c11, c12, c13⟩, c14⟩ := C
  have zn := ns_0
  have n1 := ns_1 hp
  have ifz : ∀ {q : Prop} [Decidable q], (if q then ns 0 else 0) = 0 := by intro q _; split <;> rfl
  have ifz' : ∀ {q : Prop} [Decidable q], (if q then 0 else ns 0) = 0 := by intro q _; split <;> rfl
  rw [ifz, if_pos hst] at c6
  rw [ifz', if_pos hst] at c9
  obtain ⟨l, hl⟩ : ∃ l, l = (Fm 56).toInt - c := ⟨_, rfl⟩
  rw [← hl] at c4 c5 c6 c7 c8
  have l0 := c4.1
  have e56 : (Fm 56).toInt = c + l := by omega
  rw [e56] at g1 g4 g6
  have el : (Fm' 56).toInt - c = l + 1 := by omega
  have o2 : 2 ≤ opx sg := by
    unfold opx
    repeat' split
    all_goals omega
  have c8' : ci A d 15 (p + l) = chx sg := by rw [← c8 hst hp]; congr 1; omega
  have add := c4.add (A' := A) (Am' := Am') (fun _ _ _ => ⟨rfl, rfl⟩) (fun i a b => g6 i (by omega) (by omega)) (by
    rw [c8', g4]
    exact CEq.op (by omega)) (fun _ => by omega) (.inr (by omega))
  have hd := add.2
  rw [g4, if_neg (by omega)] at hd
  unfold CR
  rw [el, ai_fr g3, f.1 49 (by decide) (by decide), f.1 19 (by decide) (by decide), f.1 11 (by decide) (by decide)]
  refine ⟨by omega, ⟨.inl rfl, .inl rfl⟩, ⟨by omega, w1, fun h => absurd rfl h, fun h => absurd rfl h⟩, add.1, by omega, ⟨?_, fun _ h => absurd rfl h, fun _ h => absurd rfl h, ?_⟩, ⟨c10, fun i a b => ?_, fun q h1 h2 => (f.2 q (by omega) (by omega) (by omega)).trans (c12 q h1 h2), c13⟩, c14⟩
  · rw [ifz, ifz]; omega
  · rw [ifz', ifz']; omega
  · rw [(g6 i a (by omega)).1, (g6 i a (by omega)).2]; exact c11 i a b
/-- what comes out ahead of '*' and '/' -/
theorem out_S (C : CR A0 Am0 k49 p c h D w sg pt 1 1 d F A Fm Am) (G : GBx h w) : po (d_comesOut n Fm Am Jm 1) (fun r => ∃ F' A', r = ((), F', A', Jm) ∧ FrN Fm F' Am A' ∧ CR A0 Am0 k49 p c h D w sg 0 1 1 d F A F' A') := by
  have zn := ns_0
  have l1 : ((1 : Int32)).toInt ≠ 0 := by decide
  have stop : ∀ {n : Nat} {Fm : Nat → Int32} {Am : Nat → Nat → Int32} {Q : (Unit × (Nat → Int32) × (Nat → Nat → Int32) × (Nat → Nat → Int64)) → Prop}, CR A0 Am0 k49 p c h D w sg 0 1 1 d F A Fm Am → Q ((), Fm, Am, Jm) → po (d_comesOut_0 n Fm Am Jm 1) Q := by
    intro n Fm Am Q C k
    obtain ⟨c1, c2, ⟨c3, w1, w2, w3⟩, -⟩ := C
    refine out_stop ?_ k
    by_cases e : sg = 0
    · subst e
      rcases G with g | g
      · exact .inl (by omega)
      · by_cases e0 : h = 0
        · exact .inl (by omega)
        · refine .inr (.inl ?_)
          rw [show (Fm 60).toInt - 1 = h - 1 by omega, w1 (h - 1) (by omega) (by omega)]
          exact g
    · have n1 := ns_1 e
      refine .inr (.inr ⟨l1, ?_⟩)
      rw [show (Fm 60).toInt - 1 = h by omega, w2 e]
      omega
  unfold d_comesOut
  by_cases e : pt = 0
  · subst e
    exact stop C ⟨Fm, Am, rfl, FrN.rfl', C⟩
  · cases n with
    | zero => intro r hr; cases hr
    | succ n =>
      have n1 := ns_1 e
      have hh := C
      obtain ⟨c1, c2, ⟨c3, w1, w2, w3⟩, -⟩ := hh
      have b1 := ns_b sg
      refine out_pop (x := pt) (by omega) (by rw [show (Fm 60).toInt - 1 = h + ns sg by omega]; exact w3 e) (by omega) (.inr (by omega)) (fun F' A' f g0 g1 g2 g3 g4 g6 => ?_)
      have C2 := C.pop1 (by decide) e f g1 g2 g3 g4 g6
      exact stop C2 ⟨F', A', rfl, f, C2⟩
/-- what comes out ahead of '+' and '-', and behind a term -/
theorem out_W (C : CR A0 Am0 k49 p c h D w sg pt 2 1 d F A Fm Am) (G : GBx h w) : po (d_comesOut n Fm Am Jm 0) (fun r => ∃ F' A', r = ((), F', A', Jm) ∧ FrN Fm F' Am A' ∧ CR A0 Am0 k49 p c h D w 0 0 2 1 d F A F' A') := by
  have zn := ns_0
  have stop : ∀ {n : Nat} {Fm : Nat → Int32} {Am : Nat → Nat → Int32} {Q : (Unit × (Nat → Int32) × (Nat → Nat → Int32) × (Nat → Nat → Int64)) → Prop}, CR A0 Am0 k49 p c h D w 0 0 2 1 d F A Fm Am → Q ((), Fm, Am, Jm) → po (d_comesOut_0 n Fm Am Jm 0) Q := by
    intro n Fm Am Q C k
    obtain ⟨c1, c2, ⟨c3, w1, w2, w3⟩, -⟩ := C
    refine out_stop ?_ k
    rcases G with g | g
    · exact .inl (by omega)
    · by_cases e0 : h = 0
      · exact .inl (by omega)
      · refine .inr (.inl ?_)
        rw [show (Fm 60).toInt - 1 = h - 1 by omega, w1 (h - 1) (by omega) (by omega)]
        exact g
  have two : ∀ {n : Nat} {Fm : Nat → Int32} {Am : Nat → Nat → Int32}, CR A0 Am0 k49 p c h D w sg 0 2 1 d F A Fm Am → po (d_comesOut_0 n Fm Am Jm 0) (fun r => ∃ F' A', r = ((), F', A', Jm) ∧ FrN Fm F' Am A' ∧ CR A0 Am0 k49 p c h D w 0 0 2 1 d F A F' A') := by
    intro n Fm Am C
    by_cases e : sg = 0
    · subst e
      exact stop C ⟨Fm, Am, rfl, FrN.rfl', C⟩
    · cases n with
      | zero => intro r hr; cases hr
      | succ n =>
        have n1 := ns_1 e
        have hh := C
        obtain ⟨c1, c2, ⟨c3, w1, w2, w3⟩, -⟩ := hh
        refine out_pop (x := sg) (by omega) (by rw [show (Fm 60).toInt - 1 = h by omega]; exact w2 e) (by omega) (.inl rfl) (fun F' A' f g0 g1 g2 g3 g4 g6 => ?_)
        have C2 := C.pop2 (by decide) e f g1 g2 g3 g4 g6
        exact stop C2 ⟨F', A', rfl, f, C2⟩
  unfold d_comesOut
  by_cases e : pt = 0
  · subst e
    exact two C
  · cases n with
    | zero => intro r hr; cases hr
    | succ n =>
      have n1 := ns_1 e
      have hh := C
      obtain ⟨c1, c2, ⟨c3, w1, w2, w3⟩, -⟩ := hh
      have b1 := ns_b sg
      refine out_pop (x := pt) (by omega) (by rw [show (Fm 60).toInt - 1 = h + ns sg by omega]; exact w3 e) (by omega) (.inl rfl) (fun F' A' f g0 g1 g2 g3 g4 g6 => ?_)
      have C2 := C.pop1 (by decide) e f g1 g2 g3 g4 g6
      refine po_mono (two C2) ?_
      rintro _ ⟨F2, A2, rfl, f2, C3⟩
      exact ⟨F2, A2, rfl, f.tr f2, C3⟩
end B3z
end Qz107
section Qz108
section B4
variable {T : TS} {d n m N nn : Nat} {o : Int} {P : Nat → Nat → Nat} {F F' : Nat → Nat → Int32} {A A' : Nat → Nat → Nat → Int32} {J J' : Nat → Nat → Nat → Int64} {Fm Fm' : Nat → Int32} {Am Am' : Nat → Nat → Int32} {Jm Jm' : Nat → Nat → Int64} {k k' x1 x2 : Int32} {γ δ : Type} {Q : γ → δ → Prop}
/-- no sign of a term comes next -/
def NOP (Am : Nat → Nat → Int32) (Fm : Nat → Int32) : Prop := (Am 3 (Fm 11).toInt.toNat).toInt ≠ 8 ∧ (Am 3 (Fm 11).toInt.toNat).toInt ≠ 9 ∧ (Am 3 (Fm 11).toInt.toNat).toInt ≠ 10 ∧ (Am 3 (Fm 11).toInt.toNat).toInt ≠ 15
theorem y_186 {K12} (R : RT T F Fm) (hop : (Am 3 (Fm 11).toInt.toNat).toInt = 8 ∨ (Am 3 (Fm 11).toInt.toNat).toInt = 9 ∨ (Am 3 (Fm 11).toInt.toNat).toInt = 10 ∨ (Am 3 (Fm 11).toInt.toNat).toInt = 15) : ∃ s1, d_expression_96 K12 (n + 1) Fm Am Jm 0 = d_expression_234 K12 n Fm Am Jm 0 1 s1 ∧ ((Am 3 (Fm 11).toInt.toNat).toInt = 10 ∨ (Am 3 (Fm 11).toInt.toNat).toInt = 15 → s1 = 1) ∧ ((Am 3 (Fm 11).toInt.toNat).toInt = 8 ∨ (Am 3 (Fm 11).toInt.toNat).toInt = 9 → s1 = 0) := by
  have t0 := R.t0
  have t1 := R.t1
  have l7 : (7 : Int32).toInt = 7 := by decide
  have l8 : (8 : Int32).toInt = 8 := by decide
  have l9 : (9 : Int32).toInt = 9 := by decide
  have l10 : (10 : Int32).toInt = 10 := by decide
  have l15 : (15 : Int32).toInt = 15 := by decide
  have z10 : g_cnd .ne (1 : Int32) 0 = true := by decide
  have z00 : g_cnd .ne (0 : Int32) 0 = false := by decide
  unfold d_expression_96 d_expression_145 d_expression_181 d_expression_186 d_expression_229
  rw [d_is_0 R.g0 t0 t1 (by rw [l7]; omega), Option.bind_some, cz_00, cond_true]
  rcases hop with h | h | h | h
  · rw [d_is_1 R.g0 t0 t1 (by rw [l8]; exact h), Option.bind_some, z10, cond_true, cond_true, d_is_0 R.g0 t0 t1 (by rw [l10]; omega), Option.bind_some, z00, cond_false, d_is_0 R.g0 t0 t1 (by rw [l15]; omega), Option.bind_some, cz_00, cond_true]
    exact ⟨_, rfl, fun h => absurd h (by omega), fun _ => rfl⟩
  · rw [d_is_0 R.g0 t0 t1 (by rw [l8]; omega), Option.bind_some, z00, cond_false, d_is_1 R.g0 t0 t1 (by rw [l9]; exact h), Option.bind_some, z10, cond_true, cond_true, d_is_0 R.g0 t0 t1 (by rw [l10]; omega), Option.bind_some, z00, cond_false, d_is_0 R.g0 t0 t1 (by rw [l15]; omega), Option.bind_some, cz_00, cond_true]
    exact ⟨_, rfl, fun h => absurd h (by omega), fun _ => rfl⟩
  · rw [d_is_0 R.g0 t0 t1 (by rw [l8]; omega), Option.bind_some, z00, cond_false, d_is_0 R.g0 t0 t1 (by rw [l9]; omega), Option.bind_some, z00, cond_false, d_is_1 R.g0 t0 t1 (by rw [l10]; exact h), Option.bind_some, z10, cond_true, cond_true, Option.bind_some, z10, cond_true]
    exact ⟨_, rfl, fun _ => rfl, fun h => absurd h (by omega)⟩
  · rw [d_is_0 R.g0 t0 t1 (by rw [l8]; omega), Option.bind_some, z00, cond_false, d_is_0 R.g0 t0 t1 (by rw [l9]; omega), Option.bind_some, z00, cond_false, d_is_0 R.g0 t0 t1 (by rw [l10]; omega), Option.bind_some, z00, cond_false, d_is_1 R.g0 t0 t1 (by rw [l15]; exact h), Option.bind_some, cz_10, cond_false, z10, cond_true, Option.bind_some, z00, cond_false, Option.bind_some, cz_10, cond_false]
    exact ⟨_, rfl, fun _ => rfl, fun h => absurd h (by omega)⟩
/-- a sign, on both sides -/
theorem y_op {A0 : Nat → Nat → Nat → Int32} {Am0 : Nat → Nat → Int32} {k49 : Int32 × Int32} {p c h D sg pt st : Int} {w : Int → Int} {f} {g} (hd : d ≠ 37) (K : TKs T) (S : SX T o d J Jm F A Fm Am) (hk : KR k.toInt k'.toInt) (hop : k'.toInt = 8 ∨ k'.toInt = 9 ∨ k'.toInt = 10 ∨ k'.toInt = 15) (hm : (Am 3 (Fm 11).toInt.toNat).toInt = k'.toInt) (C : CR A0 Am0 k49 p c h D w sg pt st 1 d F A Fm Am) (G : GBx h w) (hst : (k'.toInt = 10 ∨ k'.toInt = 15) ∧ st = 1 ∨ (k'.toInt = 8 ∨ k'.toInt = 9) ∧ st = 2) (ks : ∀ F' Fm' Am' N' n', SX T o d J Jm F' A Fm' Am' → (Fm' 11).toInt = (Fm 11).toInt + 1 → CR A0 Am0 k49 p c h D w (if k'.toInt = 10 ∨ k'.toInt = 15 then sg else k'.toInt) (if k'.toInt = 10 ∨ k'.toInt = 15 then k'.toInt else 0) 0 0 d F' A Fm' Am' → P2 (f (1, P, F', A, J)) ((d_expression_23 (d_expression_12 N') n' Fm' Am' Jm 0).bind g) Q) (kf : ∀ F' Fm' Am' Jm', FE F' Fm' → P2 (f (0, P, F', A, J)) (g ((), Fm', Am', Jm')) Q) : P2 (α := γ) (β := δ) ((e_Reader_take P F A J k).bind f) ((d_expression_96 (d_expression_12 N) n Fm Am Jm 0).bind g) Q := by
  cases n with
  | zero => intro a b _ hb; cases hb
  | succ n =>
    obtain ⟨s1, e, es1, es2⟩ := y_186 (K12 := d_expression_12 N) (n := n) (Jm := Jm) S.r (by rw [hm]; exact hop)
    rw [e]
    unfold d_expression_234
    rw [Option.bind_assoc]
    rw [hm] at es1 es2
    have hout : po (d_comesOut n Fm Am Jm s1) (fun r => ∃ F' A', r = ((), F', A', Jm) ∧ FrN Fm F' Am A' ∧ ∃ sg' st', CR A0 Am0 k49 p c h D w sg' 0 st' 1 d F A F' A' ∧ ((k'.toInt = 10 ∨ k'.toInt = 15) ∧ st' = 1 ∧ sg' = sg ∨ (k'.toInt = 8 ∨ k'.toInt = 9) ∧ sg' = 0)) := by
      rcases hst with ⟨h1, rfl⟩ | ⟨h1, rfl⟩
      · rw [es1 h1]
        refine po_mono (out_S C G) ?_
        rintro _ ⟨F', A', rfl, f, C'⟩
        exact ⟨F', A', rfl, f, sg, 1, C', .inl ⟨h1, rfl, rfl⟩⟩
      · rw [es2 h1]
        refine po_mono (out_W C G) ?_
        rintro _ ⟨F', A', rfl, f, C'⟩
        exact ⟨F', A', rfl, f, 0, 2, C', .inr ⟨h1, rfl⟩⟩
    refine p2_r hout ?_
    rintro _ ⟨F1, A1, rfl, f1, sg', st', C1, hz⟩
    dsimp only
    rw [Option.bind_assoc]
    refine p2_br (fun v69 e69 => ?_)
    rw [Option.bind_assoc]
    refine p2_br (fun A2 e2 => ?_)
    have a2 := gg_st e2
    rw [Option.bind_assoc]
    refine p2_br (fun F2 e3 => ?_)
    have a3 := gg_pf e3
    rw [Option.bind_assoc]
    have f2 : FrN Fm F2 Am A2 := f1.tr ⟨fun q _ h => a3.2 q h, fun q _ _ h => a2.2.2.1 q h⟩
    have S2 := S.nn f2
    have e11 : F2 11 = Fm 11 := f2.1 11 (by decide) (by decide)
    refine p2_goes K S2.r S2.x hk ⟨by omega, by omega⟩ (by rw [e11, f2.2 3 (by decide) (by decide) (by decide)]; exact hm) (fun F3 Fm3 U3 => ?_) (fun F3 Fm3 fc fm E => ?_)
    · have S3 := S2.v hd U3.v
      dsimp only
      cases N with
      | zero => intro a b _ hb; cases hb
      | succ N =>
        unfold d_expression_12
        rw [cz_10, cond_false, S3.r.nz, cond_false]
        have v69e : v69.toInt = k'.toInt := by rw [(gg_ld e69).2.2, f1.1 11 (by decide) (by decide), f1.2 3 (by decide) (by decide) (by decide)]; exact hm
        have C2 := C1.psh (z := k'.toInt) (Fm' := Fm3) (Am' := A2) (hz.imp (fun h => ⟨h.1, h.2.1⟩) (fun h => h)) (by rw [U3.fm 60 (by decide), a3.1, i_add (by rw [i_1]; have := a2.1; omega) (by rw [i_1]; have := a2.2.1; omega), i_1]) (by rw [U3.fm 56 (by decide), a3.2 56 (by decide)]) (by rw [U3.fm 49 (by decide), a3.2 49 (by decide), U3.fm 19 (by decide), a3.2 19 (by decide)]) (by rw [U3.m1, a3.2 11 (by decide)]) (a2.2.2.2.1.trans v69e) a2.2.2.2.2 a2.2.2.1
        have C3 := C2.fr (F' := F3) (A' := A) (Fm' := Fm3) (Am' := A2) (U3.fc d 1304 (fun e => hd e.1)) rfl rfl rfl rfl rfl rfl (Int.le_refl _) (fun _ _ _ => rfl)
        refine ks F3 Fm3 A2 N N S3 (by rw [U3.m1, e11]) ?_
        rcases hz with ⟨h1, -, rfl⟩ | ⟨h1, rfl⟩
        · exact C3
        · rw [if_neg (by omega), if_neg (by omega)] at C3 ⊢
          exact C3
    · dsimp only
      cases N with
      | zero => intro a b _ hb; cases hb
      | succ N =>
        unfold d_expression_12
        rw [cz_10, cond_false, E.nz, cond_true, Option.bind_some]
        exact kf F3 Fm3 A2 Jm E
/-- a bracket closes, on both sides -/
theorem y_cl {A0 : Nat → Nat → Nat → Int32} {Am0 : Nat → Nat → Int32} {k49 : Int32 × Int32} {p c h D sg pt st : Int} {w : Int → Int} {f} {g} {K12} (hd : d ≠ 37) (K : TKs T) (S : SX T o d J Jm F A Fm Am) (ho : 0 < o) (ho7 : o ≤ 7) (hm : (Am 3 (Fm 11).toInt.toNat).toInt = (7 : Int32).toInt) (C : CR A0 Am0 k49 p c (h + 1) D (fun i => if i = h then 6 else w i) sg pt 2 1 d F A Fm Am) (h0 : 0 ≤ h) (ks : ∀ F' Fm' Am' n', SX T (o - 1) d J Jm F' A Fm' Am' → (Fm' 11).toInt = (Fm 11).toInt + 1 → CR A0 Am0 k49 p c h D w 0 0 2 1 d F' A Fm' Am' → P2 (f (1, P, F', A, J)) ((d_expression_96 K12 n' Fm' Am' Jm 0).bind g) Q) (kf : ∀ F' Fm' Am' Jm', FE F' Fm' → P2 (f (0, P, F', A, J)) (g ((), Fm', Am', Jm')) Q) : P2 (α := γ) (β := δ) ((e_Reader_take P F A J 41).bind f) ((d_expression_96 K12 n Fm Am Jm 0).bind g) Q := by
  cases n with
  | zero => intro a b _ hb; cases hb
  | succ n =>
    have t0 := S.r.t0
    have t1 := S.r.t1
    have op := S.h.op
    have l1 := i_1
    unfold d_expression_96
    rw [d_is_1 S.r.g0 t0 t1 hm, Option.bind_some, cz_10, cond_false, i_nle.mpr (by rw [i_0, op]; exact ho), cond_false, Option.bind_assoc]
    refine p2_r (out_W C (.inr (if_pos (by omega)))) ?_
    rintro _ ⟨F1, A1, rfl, f1, C1⟩
    dsimp only
    rw [Option.bind_assoc]
    refine p2_br (fun F2 e2 => ?_)
    have a2 := gg_pf e2
    rw [Option.bind_assoc]
    refine p2_br (fun F3 e3 => ?_)
    have a3 := gg_pf e3
    rw [Option.bind_assoc]
    have f2 : FrN Fm F2 Am A1 := f1.tr ⟨fun q _ h => a2.2 q h, fun _ _ _ _ => rfl⟩
    have e12 : F2 12 = Fm 12 := f2.1 12 (by decide) (by decide)
    have S3 : SX T (o - 1) d J Jm F A F3 A1 := (S.nn f2).oo (by rw [a3.1, e12, i_sub (by omega) (by omega), i_1, op]) a3.2
    have e11 : F3 11 = Fm 11 := by rw [a3.2 11 (by decide), f2.1 11 (by decide) (by decide)]
    refine p2_goes (k' := 7) K S3.r S3.x (by decide) (by decide) (by rw [e11, f1.2 3 (by decide) (by decide) (by decide)]; exact hm) (fun F4 Fm4 U4 => ?_) (fun F4 Fm4 fc fm E => ?_)
    · have w60 : 1 ≤ (F1 60).toInt := by
        have c3 := C1.2.2.1.1
        rw [c3, ns_0]
        omega
      have C2 := C1.cls (Fm' := Fm4) h0 (by rw [U4.fm 60 (by decide), a3.2 60 (by decide), a2.1, i_sub (by rw [i_1]; omega) (by rw [i_1]; have := i_rng (F1 60); omega), i_1]) (by rw [U4.fm 56 (by decide), a3.2 56 (by decide), a2.2 56 (by decide)]) (by rw [U4.fm 49 (by decide), a3.2 49 (by decide), a2.2 49 (by decide), U4.fm 19 (by decide), a3.2 19 (by decide), a2.2 19 (by decide)]) (by rw [U4.m1, a3.2 11 (by decide), a2.2 11 (by decide)]; omega)
      have C3 := C2.fr (F' := F4) (A' := A) (Fm' := Fm4) (Am' := A1) (U4.fc d 1304 (fun e => hd e.1)) rfl rfl rfl rfl rfl rfl (Int.le_refl _) (fun _ _ _ => rfl)
      exact ks F4 Fm4 A1 n (S3.v hd U4.v) (by rw [U4.m1, e11]) C3
    · dsimp only
      refine p2_r (dY_ff E.gg) ?_
      rintro ⟨u, F5, A5, J5⟩ h5
      have h5 : F5 13 = Fm4 13 := h5
      exact kf F4 F5 A5 J5 ⟨by rw [h5]; exact E.1, by rw [h5]; exact E.gg⟩
/-- a term ends -/
theorem y_145 {K12} (R : RT T F Fm) (hn : NOP Am Fm) : d_expression_145 K12 n Fm Am Jm 0 = d_expression_186 K12 n Fm Am Jm 0 0 := by
  have t0 := R.t0
  have t1 := R.t1
  have l8 : (8 : Int32).toInt = 8 := by decide
  have l9 : (9 : Int32).toInt = 9 := by decide
  have l10 : (10 : Int32).toInt = 10 := by decide
  have l15 : (15 : Int32).toInt = 15 := by decide
  have z00 : g_cnd .ne (0 : Int32) 0 = false := by decide
  unfold d_expression_145
  rw [d_is_0 R.g0 t0 t1 (by rw [l8]; exact hn.1), Option.bind_some, z00, cond_false, d_is_0 R.g0 t0 t1 (by rw [l9]; exact hn.2.1), Option.bind_some, z00, cond_false, d_is_0 R.g0 t0 t1 (by rw [l10]; exact hn.2.2.1), Option.bind_some, z00, cond_false, d_is_0 R.g0 t0 t1 (by rw [l15]; exact hn.2.2.2), Option.bind_some, cz_00, cond_true]
theorem y_end0 {A0 : Nat → Nat → Nat → Int32} {Am0 : Nat → Nat → Int32} {k49 : Int32 × Int32} {p c h D sg pt st : Int} {w : Int → Int} {x : Option γ} {g} {K12} (S : SX T 0 d J Jm F A Fm Am) (hn : NOP Am Fm) (C : CR A0 Am0 k49 p c 0 D w sg pt 2 1 d F A Fm Am) (ks : ∀ Fm' Am', FrN Fm Fm' Am Am' → CR A0 Am0 k49 p c 0 D w 0 0 2 1 d F A Fm' Am' → P2 x (g ((), Fm', Am', Jm)) Q) : P2 (α := γ) (β := δ) x ((d_expression_96 K12 n Fm Am Jm 0).bind g) Q := by
  cases n with
  | zero => intro a b _ hb; cases hb
  | succ n =>
    have op := S.h.op
    have le : g_cnd .le (Fm 12) 0 = true := i_le.mpr (by rw [op]; decide)
    have fin : P2 x ((d_expression_145 K12 n Fm Am Jm 0).bind g) Q := by
      rw [y_145 S.r hn]
      unfold d_expression_186
      rw [i_nne.mpr rfl, cond_false, le, cond_true]
      unfold d_expression_204
      rw [Option.bind_assoc]
      refine p2_r (out_W C (.inl rfl)) ?_
      rintro _ ⟨F1, A1, rfl, f1, C1⟩
      exact ks F1 A1 f1 C1
    unfold d_expression_96
    rw [Option.bind_assoc]
    refine p2_br (fun v23 _ => ?_)
    refine p2_bind_cr (fun _ => fin) (fun _ => ?_)
    rw [le, cond_true]
    exact fin
theorem y_end1 {x : Option γ} {g} {K12} (S : SX T o d J Jm F A Fm Am) (ho : 0 < o) (hn : NOP Am Fm) (h7 : (Am 3 (Fm 11).toInt.toNat).toInt ≠ (7 : Int32).toInt) (ks : ∀ Fm' Am', Fm' 13 = 1 → P2 x (g ((), Fm', Am', Jm)) Q) : P2 (α := γ) (β := δ) x ((d_expression_96 K12 n Fm Am Jm 0).bind g) Q := by
  cases n with
  | zero => intro a b _ hb; cases hb
  | succ n =>
    have t0 := S.r.t0
    have t1 := S.r.t1
    have op := S.h.op
    unfold d_expression_96
    rw [d_is_0 S.r.g0 t0 t1 h7, Option.bind_some, cz_00, cond_true, y_145 S.r hn]
    unfold d_expression_186
    rw [i_nne.mpr rfl, cond_false, i_nle.mpr (by rw [i_0, op]; exact ho), cond_false]
    obtain ⟨F1, e1, h1, -, -⟩ := d_fail_0 (F := Fm) (A := Am) (J := Jm) (k := 1) S.r.g0 t0 t1
    rw [e1, Option.bind_some]
    dsimp only
    rw [Option.bind_assoc]
    refine p2_r out_po ?_
    rintro _ ⟨F2, A2, rfl, f2⟩
    exact ks F2 A2 (by rw [f2.1 13 (by decide) (by decide), h1])
/-- the class's words, one after the other -/
theorem c58_word {KS} {f} {u : Option δ} {w : Int32} (h : (F 37 10).toInt = 0) (t0 : 0 ≤ (F 37 7).toInt) (t1 : (F 37 7).toInt ≤ 400) (hw : (A 37 2 (F 37 7).toInt.toNat).toInt = w.toInt) (hw2 : w.toInt ≤ 20) (z : ∀ n', P2 (((e_Reader_take P F A J w).bind fun (v41, P42, F43, A44, J45) => cond (g_cnd .eq v41 0) (e_Reader_readUnit_97 KS (e_Reader_readUnit_58 KS n') n' P42 F43 A44 J45 w) ((c_chk 6 (P42 37 5)).bind fun q47 => (e_Laws_add P42 F43 A44 J45 q47 2 (w - 15)).bind fun (v48, P49, F50, A51, J52) => some ((), P49, F50, A51, J52))).bind f) u Q) : ∀ {n : Nat} {x2 : Int32}, 15 ≤ x2.toInt → x2.toInt ≤ w.toInt → P2 (α := γ) ((e_Reader_readUnit_58 KS n P F A J x2).bind f) u Q := by
  have l20 : (20 : Int32).toInt = 20 := by decide
  have l1 := i_1
  intro n
  induction n with
  | zero => intro x2 _ _ a b ha _; cases ha
  | succ n ih =>
    intro x2 h1 h2
    unfold e_Reader_readUnit_58
    rw [i_ngt.mpr (by rw [l20]; omega), cond_false]
    by_cases e : x2.toInt = w.toInt
    · have e := i_ext e
      subst e
      rw [e_next_1 h t0 t1 hw, Option.bind_some, cz_10, cond_false]
      exact z n
    · rw [e_next_0 h t0 t1 (by rw [hw]; exact fun h => e h.symm), Option.bind_some, cz_00, cond_true]
      unfold e_Reader_readUnit_97
      have e1 := i_add (x := x2) (y := 1) (by omega) (by omega)
      exact ih (by omega) (by omega)
theorem c58_no {KS} {f} {u : Option δ} (h : (F 37 10).toInt = 0) (t0 : 0 ≤ (F 37 7).toInt) (t1 : (F 37 7).toInt ≤ 400) (hw : (A 37 2 (F 37 7).toInt.toNat).toInt < 15 ∨ 20 < (A 37 2 (F 37 7).toInt.toNat).toInt) (z : P2 (((e_Reader_take P F A J 101).bind fun (v26, P27, F28, A29, J30) => cond (g_cnd .eq v26 0) (some ((), P27, F28, A29, J30)) ((c_chk 6 (P27 37 5)).bind fun q32 => (m_ld (A29 37 4) 401 (F28 37 8)).bind fun v33 => (e_Laws_add P27 F28 A29 J30 q32 1 v33).bind fun (v34, P35, F36, A37, J38) => some ((), P35, F36, A37, J38))).bind f) u Q) : ∀ {n : Nat} {x2 : Int32}, 15 ≤ x2.toInt → x2.toInt ≤ 21 → P2 (α := γ) ((e_Reader_readUnit_58 KS n P F A J x2).bind f) u Q := by
  have l20 : (20 : Int32).toInt = 20 := by decide
  have l1 := i_1
  intro n
  induction n with
  | zero => intro x2 _ _ a b ha _; cases ha
  | succ n ih =>
    intro x2 h1 h2
    unfold e_Reader_readUnit_58
    by_cases e : x2.toInt ≤ 20
    · rw [i_ngt.mpr (by rw [l20]; exact e), cond_false, e_next_0 h t0 t1 (by omega), Option.bind_some, cz_00, cond_true]
      unfold e_Reader_readUnit_97
      have e1 := i_add (x := x2) (y := 1) (by omega) (by omega)
      exact ih (by omega) (by omega)
    · rw [i_gt.mpr (by rw [l20]; omega), cond_true]
      exact z
theorem chx_0 {x : Int} (h : x = 0 ∨ x = 8 ∨ x = 9 ∨ x = 10 ∨ x = 15) : chx x = 0 ↔ x = 0 := by
  rcases h with rfl | rfl | rfl | rfl | rfl <;> decide
theorem sign_p {A0 : Nat → Nat → Nat → Int32} {Am0 : Nat → Nat → Int32} {k49 : Int32 × Int32} {p c h D sg pt : Int} {w : Int → Int} (hc : c_chk 6 (P 37 5) = some d) (C : CR A0 Am0 k49 p c h D w sg pt 0 1 d F A Fm Am) (hx : x1.toInt = chx pt) (t1 : (Fm 11).toInt ≤ 400) : po (e_Reader_addSign P F A J x1) (fun r => ∃ F' A', r = ((), P, F', A', J) ∧ FrL d F F' A A' ∧ CR A0 Am0 k49 p c h D w sg pt 1 1 d F' A' Fm Am) := by
  have hp := C.2.1.2
  have sl := C.2.2.2.2.2.1.2.2.2
  have l0 : 0 ≤ (F d 1304).toInt := by
    have e := C.2.2.2.2.2.1.1
    have s := C.2.2.2.1.1
    have b := C.1.1
    rw [if_neg (by decide), if_neg (by decide)] at e
    omega
  have b1 := ns_b sg
  have b2 := ns_b pt
  have bD := C.1.2.2.2.1
  rw [if_neg (by decide), if_neg (by decide)] at sl
  unfold e_Reader_addSign
  refine po_cond (fun c0 => ?_) (fun c0 => ?_)
  · rw [i_eq, i_0, hx, chx_0 (by omega)] at c0
    subst c0
    exact po_some ⟨F, A, rfl, FrL.rfl', C.s1z⟩
  · rw [i_neq, i_0, hx] at c0
    have hp0 : pt ≠ 0 := fun e => c0 ((chx_0 (by omega)).mpr e)
    rw [hc, Option.bind_some]
    refine po_call (add_v l0 (by omega)) ?_
    rintro _ ⟨v, F', A', rfl, f, -, g1, g2, g3, g4⟩
    exact po_some ⟨F', A', rfl, f, C.s1 hp0 g1 g2 g4 (f.2 d 14 (by omega)) hx⟩
theorem sign_s {A0 : Nat → Nat → Nat → Int32} {Am0 : Nat → Nat → Int32} {k49 : Int32 × Int32} {p c h D sg pt : Int} {w : Int → Int} (hc : c_chk 6 (P 37 5) = some d) (C : CR A0 Am0 k49 p c h D w sg pt 1 1 d F A Fm Am) (hx : x1.toInt = chx sg) (t1 : (Fm 11).toInt ≤ 400) : po (e_Reader_addSign P F A J x1) (fun r => ∃ F' A', r = ((), P, F', A', J) ∧ FrL d F F' A A' ∧ CR A0 Am0 k49 p c h D w sg pt 2 1 d F' A' Fm Am) := by
  have hp := C.2.1.1
  have sl := C.2.2.2.2.2.1.2.2.2
  have b1 := ns_b sg
  have b2 := ns_b pt
  have l0 : 0 ≤ (F d 1304).toInt := by
    have e := C.2.2.2.2.2.1.1
    have s := C.2.2.2.1.1
    have b := C.1.1
    rw [if_pos (by decide), if_neg (by decide)] at e
    omega
  have bD := C.1.2.2.2.1
  rw [if_pos (by decide), if_neg (by decide)] at sl
  unfold e_Reader_addSign
  refine po_cond (fun c0 => ?_) (fun c0 => ?_)
  · rw [i_eq, i_0, hx, chx_0 (by omega)] at c0
    subst c0
    exact po_some ⟨F, A, rfl, FrL.rfl', C.s2z⟩
  · rw [i_neq, i_0, hx] at c0
    have hp0 : sg ≠ 0 := fun e => c0 ((chx_0 (by omega)).mpr e)
    rw [hc, Option.bind_some]
    refine po_call (add_v l0 (by omega)) ?_
    rintro _ ⟨v, F', A', rfl, f, -, g1, g2, g3, g4⟩
    exact po_some ⟨F', A', rfl, f, C.s2 hp0 g1 g2 g4 (f.2 d 14 (by omega)) hx⟩
end B4
end Qz108
section Qz109
section B5
variable {T : TS} {d n m N nn : Nat} {o : Int} {P : Nat → Nat → Nat} {F F' : Nat → Nat → Int32} {A A' : Nat → Nat → Nat → Int32} {J J' : Nat → Nat → Nat → Int64} {Fm Fm' : Nat → Int32} {Am Am' : Nat → Nat → Int32} {Jm Jm' : Nat → Nat → Int64} {k k' x1 x2 : Int32}
abbrev cR (α : Type) : Type := α × (Nat → Nat → Nat) × (Nat → Nat → Int32) × (Nat → Nat → Nat → Int32) × (Nat → Nat → Nat → Int64)
abbrev mR (α : Type) : Type := α × (Nat → Int32) × (Nat → Nat → Int32) × (Nat → Nat → Int64)
abbrev cKS : Type := (Nat → Nat → Nat) → (Nat → Nat → Int32) → (Nat → Nat → Nat → Int32) → (Nat → Nat → Nat → Int64) → Int32 → Option (cR Unit)
/-- a piece of a term, on both sides -/
def XP (T : TS) (d : Nat) (P : Nat → Nat → Nat) (J : Nat → Nat → Nat → Int64) (Jm : Nat → Nat → Int64) (b : Bool) (KS : cKS) : Prop :=
  ∀ (γ δ : Type) (Q : γ → δ → Prop) (f : cR Unit → Option γ) (g : mR Unit → Option δ) (o : Int) (F : Nat → Nat → Int32) (A : Nat → Nat → Nat → Int32) (Fm : Nat → Int32) (Am : Nat → Nat → Int32) (N nn : Nat) (x1 : Int32) (A0 : Nat → Nat → Nat → Int32) (Am0 : Nat → Nat → Int32) (k49 : Int32 × Int32) (p c h D : Int) (w : Int → Int), x1.toInt = o → 0 ≤ o → o ≤ 6 → SX T o d J Jm F A Fm Am → CR A0 Am0 k49 p c h D w 0 0 0 0 d F A Fm Am → D ≤ 2 * o + (if b then 0 else 2) → (b = true → GBx h w) →
  (∀ F' A' Fm' Am' N' n' sg pt, SX T o d J Jm F' A' Fm' Am' → (Fm 11).toInt ≤ (Fm' 11).toInt → CR A0 Am0 k49 p c h D w sg pt 2 1 d F' A' Fm' Am' → (b = true → NOP Am' Fm') → (b = false → sg = 0 ∧ pt = 0) → P2 (f ((), P, F', A', J)) ((d_expression_96 (d_expression_12 N') n' Fm' Am' Jm 0).bind g) Q) →
  (∀ F' A' J' Fm' Am' Jm', FE F' Fm' → P2 (f ((), P, F', A', J')) (g ((), Fm', Am', Jm')) Q) →
  P2 ((KS P F A J x1).bind f) ((d_expression_23 (d_expression_12 N) nn Fm Am Jm 0).bind g) Q
/-- it keeps a fault that is there -/
def XF (P : Nat → Nat → Nat) (J : Nat → Nat → Nat → Int64) (KS : cKS) : Prop := ∀ F A x1, (F 37 10).toInt ≠ 0 → po (KS P F A J x1) (fun r => ∃ F' A', r = ((), P, F', A', J) ∧ F' 37 10 = F 37 10)
theorem kt_w {x y : Int} (h : KR x y) : (15 ≤ x ∧ x ≤ 20) ↔ (35 ≤ y ∧ y ≤ 40) :=
  (by decide : ∀ p ∈ kt, (15 ≤ p.1 ∧ p.1 ≤ 20) ↔ (35 ≤ p.2 ∧ p.2 ≤ 40)) _ h
theorem kt_e {x y : Int} (h : KR x y) (h1 : 15 ≤ x ∧ x ≤ 20) : y = x + 20 :=
  (by decide : ∀ p ∈ kt, 15 ≤ p.1 ∧ p.1 ≤ 20 → p.2 = p.1 + 20) _ h h1
theorem CR.L {A0 : Nat → Nat → Nat → Int32} {Am0 : Nat → Nat → Int32} {k49 : Int32 × Int32} {p c h D st u : Int} {w : Int → Int} (C : CR A0 Am0 k49 p c h D w 0 0 st u d F A Fm Am) : 0 ≤ (F d 1304).toInt ∧ (F d 1304).toInt + 3 ≤ (Fm 11).toInt := by
  have e := C.2.2.2.2.2.1.1
  have sl := C.2.2.2.2.2.1.2.2.2
  have s := C.2.2.2.1.1
  have b := C.1
  have ifz : ∀ {q : Prop} [Decidable q], (if q then ns 0 else 0) = 0 := by intro q _; split <;> rfl
  have ifz' : ∀ {q : Prop} [Decidable q], (if q then 0 else ns 0) = 0 := by intro q _; split <;> rfl
  rw [ifz, ifz] at e
  rw [ifz', ifz'] at sl
  omega
theorem FE.mk' {F1 : Nat → Nat → Int32} {F2 : Nat → Int32} {k : Int32} (h1 : F1 37 10 = k) (h2 : F2 13 = k) (h : 0 < k.toInt) : FE F1 F2 := ⟨by rw [h1, h2], by rw [h2]; exact h⟩
theorem du_word (R : RT T F Fm) (hw : 35 ≤ (Am 3 (Fm 11).toInt.toNat).toInt ∧ (Am 3 (Fm 11).toInt.toNat).toInt ≤ 40) : d_unit Fm Am Jm = (d_emit Fm Am Jm 1 (Am 3 (Fm 11).toInt.toNat - 35)).bind fun (_, F10, A11, J12) => (d_goesOn F10 A11 J12).bind fun (_, F14, A15, J16) => some ((), F14, A15, J16) := by
  have t0 := R.t0
  have t1 := R.t1
  unfold d_unit
  rw [d_is_0 R.g0 t0 t1 (by rw [show (2 : Int32).toInt = 2 by decide]; omega), Option.bind_some, cz_00, cond_true, R.nz, cond_false, m_ld_in t0 (by omega), Option.bind_some, i_nlt.mpr (by rw [show (35 : Int32).toInt = 35 by decide]; exact hw.1), cond_false, Option.bind_some, i_ngt.mpr (by rw [show (40 : Int32).toInt = 40 by decide]; exact hw.2), cond_false, Option.bind_some]
theorem du_int (R : RT T F Fm) (h2 : (Am 3 (Fm 11).toInt.toNat).toInt = (2 : Int32).toInt) : d_unit Fm Am Jm = (d_emit Fm Am Jm 0 (Am 5 (Fm 11).toInt.toNat)).bind fun (_, F10, A11, J12) => (d_goesOn F10 A11 J12).bind fun (_, F14, A15, J16) => some ((), F14, A15, J16) := by
  have t0 := R.t0
  have t1 := R.t1
  unfold d_unit
  rw [d_is_1 R.g0 t0 t1 h2, Option.bind_some, cz_10, cond_false, m_ld_in (f := Am 5) t0 (by omega), Option.bind_some]
theorem du_bad (R : RT T F Fm) (h2 : (Am 3 (Fm 11).toInt.toNat).toInt ≠ (2 : Int32).toInt) (hw : ¬ (35 ≤ (Am 3 (Fm 11).toInt.toNat).toInt ∧ (Am 3 (Fm 11).toInt.toNat).toInt ≤ 40)) : d_unit Fm Am Jm = d_unit_88 Fm Am Jm := by
  have t0 := R.t0
  have t1 := R.t1
  have l35 : (35 : Int32).toInt = 35 := by decide
  have l40 : (40 : Int32).toInt = 40 := by decide
  unfold d_unit
  rw [d_is_0 R.g0 t0 t1 h2, Option.bind_some, cz_00, cond_true, R.nz, cond_false, m_ld_in t0 (by omega), Option.bind_some]
  by_cases c1 : (Am 3 (Fm 11).toInt.toNat).toInt < 35
  · rw [i_lt.mpr (by rw [l35]; exact c1), cond_true]
  · rw [i_nlt.mpr (by rw [l35]; omega), cond_false, Option.bind_some, i_gt.mpr (by rw [l40]; omega), cond_true]
theorem unit_x {KS : cKS} (K : TKs T) (h5 : P 37 5 = d) (hk : c_kind d = 6) (hS : XP T d P J Jm true KS) (hF : XF P J KS) : XP T d P J Jm false (e_Reader_readUnit KS n) := by
  have hd := kd37 hk
  have hd3 := kd3 hk
  have hc := chk_in h5 hk
  have l1 := i_1
  have l6 : (6 : Int32).toInt = 6 := by decide
  have l35 : (35 : Int32).toInt = 35 := by decide
  have l40 : (40 : Int32).toInt = 40 := by decide
  intro γ δ Q f g o F A Fm Am N nn x1 A0 Am0 k49 p c h D w hx ho0 ho6 S C hD _ ks kf
  have hD : D ≤ 2 * o + 2 := hD
  have h0 : 0 ≤ h := C.1.2.2.1
  have e60 : (Fm 60).toInt = h := by have := C.2.2.1.1; rw [ns_0] at this; omega
  have cL := C.L
  have t0 := S.r.t0
  have t1 := S.r.t1
  have tk := S.r.tk
  have op := S.h.op
  cases nn with
  | zero => intro a b _ hb; cases hb
  | succ nn =>
    unfold e_Reader_readUnit d_expression_23
    rw [Option.bind_assoc, Option.bind_assoc]
    refine p2_next K S.r S.x (k := 40) (k' := 6) (by decide) (fun hm => ?_) (fun hm => ?_)
    · rw [cz_10, cond_false, cond_false]
      by_cases h6 : o < 6
      · rw [i_lt.mpr (by rw [l6, hx]; exact h6), cond_true, i_ne.mpr (by rw [l6, op]; omega), cond_true]
        unfold d_expression_46
        rw [Option.bind_assoc, Option.bind_assoc]
        refine p2_br (fun F3 e3 => ?_)
        have a3 := gg_pf e3
        rw [Option.bind_assoc]
        have S3 : SX T (o + 1) d J Jm F A F3 Am := S.oo (by rw [a3.1, i_add (by omega) (by omega), i_1, op]) a3.2
        have e11 : F3 11 = Fm 11 := a3.2 11 (by decide)
        refine p2_goes (k' := 6) K S3.r S3.x (by decide) (by decide) (by rw [e11]; exact hm) (fun F1 Fm1 U1 => ?_) (fun F1 Fm1 fc fm E => ?_)
        · have S1 := S3.v hd U1.v
          dsimp only
          rw [Option.bind_assoc, Option.bind_assoc]
          refine p2_br (fun A4 e4 => ?_)
          have a4 := gg_st e4
          rw [Option.bind_assoc]
          refine p2_br (fun F5 e5 => ?_)
          have a5 := gg_pf e5
          have S5 : SX T (o + 1) d J Jm F1 A F5 A4 := S1.nn ⟨fun q _ h => a5.2 q h, fun q _ _ h => a4.2.2.1 q h⟩
          have e511 : F5 11 = Fm1 11 := a5.2 11 (by decide)
          have e160 : Fm1 60 = Fm 60 := (U1.fm 60 (by decide)).trans (a3.2 60 (by decide))
          rw [e160] at a4
          have C5 : CR A0 Am0 k49 p c (h + 1) D (fun i => if i = h then 6 else w i) 0 0 0 0 d F1 A F5 A4 :=
            (C.opn (Fm' := F5) (Am' := A4) (by rw [a5.1, e160, i_add (by rw [i_1]; omega) (by rw [i_1]; have := a4.2.1; omega), i_1]) (by rw [a5.2 56 (by decide), U1.fm 56 (by decide), a3.2 56 (by decide)]) (by rw [a5.2 49 (by decide), U1.fm 49 (by decide), a3.2 49 (by decide), a5.2 19 (by decide), U1.fm 19 (by decide), a3.2 19 (by decide)]) (by rw [a5.2 11 (by decide), U1.m1, a3.2 11 (by decide)]; omega) a4.2.2.2.1 a4.2.2.2.2 a4.2.2.1).fr (F' := F1) (A' := A) (Fm' := F5) (Am' := A4) (U1.fc d 1304 (fun e => hd e.1)) rfl rfl rfl rfl rfl rfl (Int.le_refl _) (fun _ _ _ => rfl)
          refine hS γ δ Q _ g (o + 1) F1 A F5 A4 N nn (x1 + 1) A0 Am0 k49 p c (h + 1) D (fun i => if i = h then 6 else w i) (by rw [i_add (by omega) (by omega), i_1, hx]) (by omega) (by omega) S5 C5 (by show D ≤ 2 * (o + 1) + 0; omega) (fun _ => .inr (if_pos (by omega))) (fun F6 A6 Fm6 Am6 N6 n6 sg6 pt6 S6 le6 C6 hn _ => ?_) (fun F6 A6 J6 Fm6 Am6 Jm6 E => ?_)
          · have hn := hn rfl
            dsimp only
            rw [Option.bind_assoc]
            have m1 := U1.m1
            rw [e11] at m1
            rw [e511] at le6
            by_cases h7 : (Am6 3 (Fm6 11).toInt.toNat).toInt = (7 : Int32).toInt
            · refine y_cl (st := 0) hd K S6 (by omega) (by omega) h7 C6 h0 (fun F7 Fm7 Am7 n7 S7 m7 C7 => ?_) (fun F7 Fm7 Am7 Jm7 E => ?_)
              · dsimp only
                rw [Option.bind_some]
                have eo : o + 1 - 1 = o := by omega
                rw [eo] at S7
                exact ks F7 A6 Fm7 Am7 N6 n7 0 0 S7 (by omega) C7 (fun h => absurd h (by decide)) (fun _ => ⟨rfl, rfl⟩)
              · dsimp only
                rw [Option.bind_some]
                exact kf F7 A6 J Fm7 Am7 Jm7 E
            · have iff := S6.r.kd (k := 41) (k' := 7) K S6.x (by decide)
              obtain ⟨F7, e7, h1, -⟩ := e_take_0 (P := P) (J := J) S6.r.f0 (by rw [S6.r.tk]; exact S6.r.t0) (by rw [S6.r.tk]; exact S6.r.t1) (fun h => h7 (iff.mp h))
              rw [e7, Option.bind_some]
              dsimp only
              rw [Option.bind_some]
              exact y_end1 S6 (by omega) hn h7 (fun Fm7 Am7 h13 => kf F7 A6 J Fm7 Am7 Jm (FE.mk' h1 h13 (by decide)))
          · dsimp only
            rw [e_take_ff E.c, Option.bind_some]
            exact kf F6 A6 J6 Fm6 Am6 Jm6 E
        · dsimp only
          rw [Option.bind_assoc, Option.bind_assoc]
          refine p2_l (hF F1 A (x1 + 1) E.c) ?_
          rintro _ ⟨F6, A6, rfl, h6'⟩
          dsimp only
          have c6 : (F6 37 10).toInt ≠ 0 := by rw [h6']; exact E.c
          rw [e_take_ff c6, Option.bind_some]
          dsimp only
          rw [Option.bind_some]
          refine p2_br (fun A4 e4 => ?_)
          rw [Option.bind_assoc]
          refine p2_br (fun F5 e5 => ?_)
          have a5 := gg_pf e5
          have e513 : F5 13 = Fm1 13 := a5.2 13 (by decide)
          refine p2_r (dX_ff (by rw [e513]; exact E.gg)) ?_
          rintro ⟨u, F7, A7, J7⟩ h7
          have h7 : F7 13 = F5 13 := h7
          exact kf F6 A6 J F7 A7 J7 ⟨by rw [h6', h7, e513]; exact E.1, by rw [h7, e513]; exact E.gg⟩
      · rw [i_nlt.mpr (by rw [l6, hx]; omega), cond_false, i_nne.mpr (by rw [l6, op]; omega), cond_false]
        obtain ⟨F1, e1, h1, -⟩ := e_fail_0 (P := P) (F := F) (A := A) (J := J) (k := 2) (v := A 37 3 (F 37 7).toInt.toNat) S.r.f0
        obtain ⟨Fm1, g1, h1', -, -⟩ := d_fail_0 (F := Fm) (A := Am) (J := Jm) (k := 2) S.r.g0 t0 t1
        rw [m_ld_in (by rw [tk]; exact t0) (by rw [tk]; omega), Option.bind_some, e1, Option.bind_some, g1, Option.bind_some]
        dsimp only
        rw [Option.bind_some, Option.bind_assoc]
        refine p2_br (fun F2 e2 => ?_)
        have a2 := gg_pf e2
        have e213 : F2 13 = Fm1 13 := a2.2 13 (by decide)
        obtain ⟨F3, e3, h3, -⟩ := d_goes_ff (F := F2) (A := Am) (J := Jm) (by rw [e213, h1']; decide)
        rw [e3, Option.bind_some]
        dsimp only
        rw [Option.bind_assoc]
        refine p2_br (fun A4 e4 => ?_)
        rw [Option.bind_assoc]
        refine p2_br (fun F5 e5 => ?_)
        have a5 := gg_pf e5
        have e513 : F5 13 = 2 := by rw [a5.2 13 (by decide), h3, e213, h1']
        refine p2_r (dX_ff (by rw [e513]; decide)) ?_
        rintro ⟨u, F7, A7, J7⟩ h7
        have h7 : F7 13 = F5 13 := h7
        exact kf F1 A J F7 A7 J7 (FE.mk' h1 (h7.trans e513) (by decide))
    · rw [cz_00, cond_true, cond_true]
      have kr : KR (A 37 2 (F 37 7).toInt.toNat).toInt (Am 3 (Fm 11).toInt.toNat).toInt := by
        rw [S.x.a2, S.x.m3, tk]
        exact K.kd _ (by omega) (fun j hj => S.r.lv j (by omega))
      have c7 : 0 ≤ (F 37 7).toInt ∧ (F 37 7).toInt ≤ 400 := by rw [tk]; exact ⟨t0, t1⟩
      by_cases hw : 35 ≤ (Am 3 (Fm 11).toInt.toNat).toInt ∧ (Am 3 (Fm 11).toInt.toNat).toInt ≤ 40
      · have hw' := (kt_w kr).mpr hw
        refine c58_word (w := A 37 2 (F 37 7).toInt.toNat) S.r.f0 c7.1 c7.2 rfl hw'.2 (fun n' => ?_) (by decide) (by rw [show (15 : Int32).toInt = 15 by decide]; exact hw'.1)
        rw [du_word S.r hw, Option.bind_assoc, Option.bind_assoc, Option.bind_assoc]
        refine p2_r emit_v ?_
        rintro _ ⟨F1, A1, rfl, f1, q0, q1, q2, q3, q4, q5, q6⟩
        dsimp only
        have S1 := S.nn f1
        have e11 : F1 11 = Fm 11 := f1.1 11 (by decide) (by decide)
        rw [Option.bind_assoc]
        refine p2_goes (k' := Am 3 (Fm 11).toInt.toNat) K S1.r S1.x kr ⟨by omega, by omega⟩ (by rw [e11, f1.2 3 (by decide) (by decide) (by decide)]) (fun F2 Fm2 U2 => ?_) (fun F2 Fm2 fc fm E => ?_)
        · have S2 := S1.v hd U2.v
          have m2 := U2.m1
          rw [e11] at m2
          dsimp only
          rw [Option.bind_some, cz_10, cond_false, hc, Option.bind_some, Option.bind_assoc]
          dsimp only
          rw [S2.r.le, cond_true]
          have fl : F2 d 1304 = F d 1304 := U2.fc d 1304 (fun e => hd e.1)
          have C2 := C.fr (F' := F2) (A' := A) (Fm' := Fm) (Am' := Am) fl rfl rfl rfl rfl rfl rfl (Int.le_refl _) (fun _ _ _ => rfl)
          refine p2_l (add_v (by rw [fl]; exact cL.1) (by rw [fl]; omega)) ?_
          rintro _ ⟨v, F3, A3, rfl, f3, -, l1, l15, l16, lo⟩
          dsimp only
          rw [Option.bind_some]
          have C3 := C2.unit (Fm' := Fm2) (Am' := A1) l1 l15 l16 lo (f3.2 d 14 (by omega)) (by rw [U2.fm 56 (by decide)]; exact q1) (by rw [U2.fm 60 (by decide)]; exact q2) (by rw [U2.fm 49 (by decide), f1.1 49 (by decide) (by decide), U2.fm 19 (by decide), f1.1 19 (by decide) (by decide)]) (by rw [U2.m1, e11]) q4 q5 q6 q3 (fun q h1 h2 => f1.2 q (by omega) (by omega) (by omega)) ⟨.inr ⟨by decide, by decide⟩, by
            have kv := kt_e kr hw'
            rw [i_sub (by rw [show (15 : Int32).toInt = 15 by decide]; omega) (by rw [show (15 : Int32).toInt = 15 by decide]; omega), i_sub (by rw [l35]; omega) (by rw [l35]; omega), l35, show (15 : Int32).toInt = 15 by decide]
            omega⟩
          exact ks F3 A3 Fm2 A1 N nn 0 0 (S2.l hd hd3 f3) (by omega) C3 (fun h => absurd h (by decide)) (fun _ => ⟨rfl, rfl⟩)
        · dsimp only
          rw [Option.bind_some, cz_00, cond_true]
          dsimp only
          rw [E.le, cond_false, Option.bind_some]
          unfold e_Reader_readUnit_97
          refine p2_l (e58_ff E.c) ?_
          rintro _ rfl
          exact kf F2 A J Fm2 A1 Jm E
      · have hw' : ¬ (15 ≤ (A 37 2 (F 37 7).toInt.toNat).toInt ∧ (A 37 2 (F 37 7).toInt.toNat).toInt ≤ 20) := fun h => hw ((kt_w kr).mp h)
        refine c58_no S.r.f0 c7.1 c7.2 (by omega) ?_ (by decide) (by decide)
        by_cases h2 : (Am 3 (Fm 11).toInt.toNat).toInt = (2 : Int32).toInt
        · rw [du_int S.r h2, Option.bind_assoc, Option.bind_assoc, Option.bind_assoc]
          refine p2_r emit_v ?_
          rintro _ ⟨F1, A1, rfl, f1, q0, q1, q2, q3, q4, q5, q6⟩
          dsimp only
          have S1 := S.nn f1
          have e11 : F1 11 = Fm 11 := f1.1 11 (by decide) (by decide)
          rw [Option.bind_assoc]
          refine p2_goes (k' := 2) K S1.r S1.x (by decide) (by decide) (by rw [e11, f1.2 3 (by decide) (by decide) (by decide)]; exact h2) (fun F2 Fm2 U2 => ?_) (fun F2 Fm2 fc fm E => ?_)
          · have S2 := S1.v hd U2.v
            have m2 := U2.m1
            rw [e11] at m2
            dsimp only
            rw [Option.bind_some, cz_10, cond_false, hc, Option.bind_some, Option.bind_assoc]
            dsimp only
            rw [S2.r.le, cond_true]
            refine p2_bl (fun v33 e33 => ?_)
            rw [Option.bind_assoc]
            have v33e : v33 = Am 5 (Fm 11).toInt.toNat := by
              rw [(gg_ld e33).2.2, U2.c8, e11, S.x.a4, S.x.m5]
              exact K.nu _ (by omega) (fun j hj => S.r.lv j (by omega)) (by rw [← S.x.m3]; exact h2)
            have fl : F2 d 1304 = F d 1304 := U2.fc d 1304 (fun e => hd e.1)
            have C2 := C.fr (F' := F2) (A' := A) (Fm' := Fm) (Am' := Am) fl rfl rfl rfl rfl rfl rfl (Int.le_refl _) (fun _ _ _ => rfl)
            refine p2_l (add_v (by rw [fl]; exact cL.1) (by rw [fl]; omega)) ?_
            rintro _ ⟨v, F3, A3, rfl, f3, -, l1', l15, l16, lo⟩
            dsimp only
            rw [Option.bind_some]
            have C3 := C2.unit (Fm' := Fm2) (Am' := A1) l1' l15 l16 lo (f3.2 d 14 (by omega)) (by rw [U2.fm 56 (by decide)]; exact q1) (by rw [U2.fm 60 (by decide)]; exact q2) (by rw [U2.fm 49 (by decide), f1.1 49 (by decide) (by decide), U2.fm 19 (by decide), f1.1 19 (by decide) (by decide)]) (by rw [U2.m1, e11]) q4 q5 q6 q3 (fun q h1 h2 => f1.2 q (by omega) (by omega) (by omega)) ⟨.inl ⟨by decide, by decide⟩, by rw [v33e]⟩
            exact ks F3 A3 Fm2 A1 N nn 0 0 (S2.l hd hd3 f3) (by omega) C3 (fun h => absurd h (by decide)) (fun _ => ⟨rfl, rfl⟩)
          · dsimp only
            rw [Option.bind_some, cz_00, cond_true, Option.bind_some]
            dsimp only
            rw [E.le, cond_false, Option.bind_some]
            exact kf F2 A J Fm2 A1 Jm E
        · have iff := S.r.kd (k := 101) (k' := 2) K S.x (by decide)
          obtain ⟨F1, e1, h1, -⟩ := e_take_0 (P := P) (J := J) S.r.f0 c7.1 c7.2 (fun h => h2 (iff.mp h))
          obtain ⟨Fm1, g1, h1', -, -⟩ := d_fail_0 (F := Fm) (A := Am) (J := Jm) (k := 1) S.r.g0 t0 t1
          have E : FE F1 Fm1 := FE.mk' h1 h1' (by decide)
          rw [e1, Option.bind_some, du_bad S.r h2 hw]
          dsimp only
          rw [cz_00, cond_true, Option.bind_some]
          unfold d_unit_88
          rw [g1, Option.bind_some, Option.bind_some]
          dsimp only
          rw [E.le, cond_false, Option.bind_some]
          exact kf F1 A J Fm1 Am Jm E
end B5
end Qz109
section Qz110
section B6
variable {T : TS} {d n m N nn : Nat} {o : Int} {P : Nat → Nat → Nat} {F F' : Nat → Nat → Int32} {A A' : Nat → Nat → Nat → Int32} {J J' : Nat → Nat → Nat → Int64} {Fm Fm' : Nat → Int32} {Am Am' : Nat → Nat → Int32} {Jm Jm' : Nat → Nat → Int64} {k k' x1 x2 : Int32} {γ δ : Type} {Q : γ → δ → Prop}
/-- one of two signs, or none -/
theorem p2_either {A0 : Nat → Nat → Nat → Int32} {Am0 : Nat → Nat → Int32} {k49 : Int32 × Int32} {p c h D sg pt st : Int} {w : Int → Int} {f} {g} {a b a' b' : Int32} (hd : d ≠ 37) (K : TKs T) (S : SX T o d J Jm F A Fm Am) (ka : KR a.toInt a'.toInt) (kb : KR b.toInt b'.toInt) (oa : a'.toInt = 8 ∨ a'.toInt = 9 ∨ a'.toInt = 10 ∨ a'.toInt = 15) (ob : b'.toInt = 8 ∨ b'.toInt = 9 ∨ b'.toInt = 10 ∨ b'.toInt = 15) (na : a.toInt ≠ 0) (nb : b.toInt ≠ 0) (C : CR A0 Am0 k49 p c h D w sg pt st 1 d F A Fm Am) (G : GBx h w) (hst : (a'.toInt = 10 ∧ b'.toInt = 15) ∧ st = 1 ∨ (a'.toInt = 8 ∧ b'.toInt = 9) ∧ st = 2) (xa : a.toInt = chx a'.toInt) (xb : b.toInt = chx b'.toInt)
    (k1 : ∀ v F' Fm' Am' N' n' z, v.toInt ≠ 0 → v.toInt = chx z → z = a'.toInt ∨ z = b'.toInt → SX T o d J Jm F' A Fm' Am' → (Fm' 11).toInt = (Fm 11).toInt + 1 → CR A0 Am0 k49 p c h D w (if z = 10 ∨ z = 15 then sg else z) (if z = 10 ∨ z = 15 then z else 0) 0 0 d F' A Fm' Am' → P2 (f (v, P, F', A, J)) ((d_expression_23 (d_expression_12 N') n' Fm' Am' Jm 0).bind g) Q)
    (k0 : (Am 3 (Fm 11).toInt.toNat).toInt ≠ a'.toInt → (Am 3 (Fm 11).toInt.toNat).toInt ≠ b'.toInt → P2 (f (0, P, F, A, J)) ((d_expression_96 (d_expression_12 N) n Fm Am Jm 0).bind g) Q)
    (kf : ∀ F' Fm' Am' Jm', FE F' Fm' → P2 (f (0, P, F', A, J)) (g ((), Fm', Am', Jm')) Q) :
    P2 (α := γ) (β := δ) ((e_Reader_takeEither P F A J a b).bind f) ((d_expression_96 (d_expression_12 N) n Fm Am Jm 0).bind g) Q := by
  have t0 := S.r.t0
  have t1 := S.r.t1
  have tk := S.r.tk
  have c7 : 0 ≤ (F 37 7).toInt ∧ (F 37 7).toInt ≤ 400 := by rw [tk]; exact ⟨t0, t1⟩
  have ia := S.r.kd K S.x ka
  have ib := S.r.kd K S.x kb
  unfold e_Reader_takeEither
  by_cases ha : (Am 3 (Fm 11).toInt.toNat).toInt = a'.toInt
  · rw [e_next_1 S.r.f0 c7.1 c7.2 (ia.mpr ha), Option.bind_some, cz_10, cond_false, Option.bind_assoc]
    refine y_op hd K S ka oa ha C G (by omega) (fun F1 Fm1 Am1 N1 n1 S1 m1 C1 => ?_) (fun F1 Fm1 Am1 Jm1 E => ?_)
    · dsimp only
      rw [cz_10, cond_false, Option.bind_some]
      exact k1 a F1 Fm1 Am1 N1 n1 a'.toInt na xa (.inl rfl) S1 m1 C1
    · dsimp only
      rw [cz_00, cond_true]
      unfold e_Reader_takeEither_18
      rw [e_next_ff E.c, Option.bind_some, cz_00, cond_true, Option.bind_some]
      exact kf F1 Fm1 Am1 Jm1 E
  · rw [e_next_0 S.r.f0 c7.1 c7.2 (fun h => ha (ia.mp h)), Option.bind_some, cz_00, cond_true]
    unfold e_Reader_takeEither_18
    by_cases hb : (Am 3 (Fm 11).toInt.toNat).toInt = b'.toInt
    · rw [e_next_1 S.r.f0 c7.1 c7.2 (ib.mpr hb), Option.bind_some, cz_10, cond_false, Option.bind_assoc]
      refine y_op hd K S kb ob hb C G (by omega) (fun F1 Fm1 Am1 N1 n1 S1 m1 C1 => ?_) (fun F1 Fm1 Am1 Jm1 E => ?_)
      · dsimp only
        rw [cz_10, cond_false, Option.bind_some]
        exact k1 b F1 Fm1 Am1 N1 n1 b'.toInt nb xb (.inr rfl) S1 m1 C1
      · dsimp only
        rw [cz_00, cond_true, Option.bind_some]
        exact kf F1 Fm1 Am1 Jm1 E
    · rw [e_next_0 S.r.f0 c7.1 c7.2 (fun h => hb (ib.mp h)), Option.bind_some, cz_00, cond_true, Option.bind_some]
      exact k0 ha hb
theorem sum_x {KS : cKS} (K : TKs T) (h5 : P 37 5 = d) (hk : c_kind d = 6) (hU : ∀ n, XP T d P J Jm false (e_Reader_readUnit KS n)) : ∀ (n : Nat) (γ δ : Type) (Q : γ → δ → Prop) (f : cR Unit → Option γ) (g : mR Unit → Option δ) (o : Int) (F : Nat → Nat → Int32) (A : Nat → Nat → Nat → Int32) (Fm : Nat → Int32) (Am : Nat → Nat → Int32) (N nn : Nat) (x1 x2 x3 x5 : Int32) (A0 : Nat → Nat → Nat → Int32) (Am0 : Nat → Nat → Int32) (k49 : Int32 × Int32) (p c h D : Int) (w : Int → Int) (sg pt : Int), x1.toInt = o → 0 ≤ o → o ≤ 6 → SX T o d J Jm F A Fm Am → CR A0 Am0 k49 p c h D w sg pt 0 0 d F A Fm Am → D ≤ 2 * o → GBx h w → x2.toInt = chx sg → x3.toInt = chx pt → 0 ≤ x5.toInt → x5.toInt ≤ (Fm 11).toInt →
  (∀ F' A' Fm' Am' N' n' sg pt, SX T o d J Jm F' A' Fm' Am' → (Fm 11).toInt ≤ (Fm' 11).toInt → CR A0 Am0 k49 p c h D w sg pt 2 1 d F' A' Fm' Am' → NOP Am' Fm' → P2 (f ((), P, F', A', J)) ((d_expression_96 (d_expression_12 N') n' Fm' Am' Jm 0).bind g) Q) →
  (∀ F' A' J' Fm' Am' Jm', FE F' Fm' → P2 (f ((), P, F', A', J')) (g ((), Fm', Am', Jm')) Q) →
  P2 ((e_Reader_readSum_10 KS n P F A J x1 x2 x3 1 x5).bind f) ((d_expression_23 (d_expression_12 N) nn Fm Am Jm 0).bind g) Q := by
  have hd := kd37 hk
  have hd3 := kd3 hk
  have hc := chk_in h5 hk
  have l1 := i_1
  have l400 := i_400
  have l8 : (8 : Int32).toInt = 8 := by decide
  have l9 : (9 : Int32).toInt = 9 := by decide
  have l10 : (10 : Int32).toInt = 10 := by decide
  have l15 : (15 : Int32).toInt = 15 := by decide
  intro n
  induction n with
  | zero => intro γ δ Q f g o F A Fm Am N nn x1 x2 x3 x5 A0 Am0 k49 p c h D w sg pt _ _ _ _ _ _ _ _ _ _ _ _ _ a b ha _; cases ha
  | succ n ih =>
    intro γ δ Q f g o F A Fm Am N nn x1 x2 x3 x5 A0 Am0 k49 p c h D w sg pt hx ho0 ho6 S C hD G hx2 hx3 h50 h5t ks kf
    have t1 := S.r.t1
    have hs := C.2.1
    have hh := C.1
    have bs := ns_b sg
    have bp := ns_b pt
    unfold e_Reader_readSum_10
    rw [i_ngt.mpr (by rw [l400]; omega), cond_false, cz_10, cond_false, Option.bind_assoc]
    refine hU n γ δ Q _ g o F A Fm Am N nn x1 A0 Am0 k49 p c (h + ns sg + ns pt) (D + ns sg + ns pt) (wx h sg pt w) hx ho0 ho6 S (C.base (by omega)) (by show D + ns sg + ns pt ≤ 2 * o + 2; omega) (fun h => absurd h (by decide)) (fun F1 A1 Fm1 Am1 N1 n1 sg1 pt1 S1 le1 C1 _ z1 => ?_) (fun F1 A1 J1 Fm1 Am1 Jm1 E => ?_)
    · obtain ⟨rfl, rfl⟩ := z1 rfl
      have C1 := C1.unbase hh.2.2.1 hh.2.2.2.1 hs
      dsimp only
      rw [Option.bind_assoc]
      refine p2_l (sign_p hc C1 hx3 S1.r.t1) ?_
      rintro _ ⟨F2, A2, rfl, f2, C2⟩
      have S2 := S1.l hd hd3 f2
      have t12 := S2.r.t1
      dsimp only
      rw [Option.bind_assoc]
      have e51 := i_add (x := x5) (y := 1) (by omega) (by omega)
      -- with a fault of form the class comes to its end
      have ff : ∀ {F3 : Nat → Nat → Int32} {A3 : Nat → Nat → Nat → Int32} {Fm3 Am3 Jm3} {y1 y2 y3 y4 y5 : Int32}, FE F3 Fm3 → P2 ((e_Reader_readSum_10 KS n P F3 A3 J y1 y2 y3 y4 y5).bind f) (g ((), Fm3, Am3, Jm3)) Q := by
        intro F3 A3 Fm3 Am3 Jm3 y1 y2 y3 y4 y5 E
        refine p2_l (eS10_ff hd hc E.c) ?_
        rintro _ ⟨F4, A4, rfl, f4⟩
        exact kf F4 A4 J Fm3 Am3 Jm3 ⟨by rw [f4.1 37 10 (fun e => hd e.1.symm)]; exact E.1, E.gg⟩
      refine p2_either hd K S2 (a' := 10) (b' := 15) (by decide) (by decide) (by decide) (by decide) (by decide) (by decide) C2 G (.inl ⟨⟨by decide, by decide⟩, rfl⟩) (by decide) (by decide) (fun v F3 Fm3 Am3 N3 n3 z hv xz hz S3 m3 C3 => ?_) (fun na nb => ?_) (fun F3 Fm3 Am3 Jm3 E => ?_)
      · dsimp only
        rw [i_ne.mpr (by rw [i_0]; exact hv), cond_true]
        unfold e_Reader_readSum_71
        have hz' : z = 10 ∨ z = 15 := by omega
        rw [if_pos hz', if_pos hz'] at C3
        exact ih γ δ Q f g o F3 A2 Fm3 Am3 N3 n3 x1 x2 v (x5 + 1) A0 Am0 k49 p c h D w sg z hx ho0 ho6 S3 C3 hD G hx2 xz (by omega) (by omega) (fun F4 A4 Fm4 Am4 N4 n4 sg4 pt4 S4 le4 C4 hn => ks F4 A4 Fm4 Am4 N4 n4 sg4 pt4 S4 (by omega) C4 hn) kf
      · dsimp only
        rw [i_nne.mpr rfl, cond_false, Option.bind_assoc]
        refine p2_l (sign_s hc C2 hx2 S2.r.t1) ?_
        rintro _ ⟨F3, A3, rfl, f3, C3⟩
        have S3 := S2.l hd hd3 f3
        dsimp only
        rw [Option.bind_assoc]
        refine p2_either hd K S3 (a' := 8) (b' := 9) (by decide) (by decide) (by decide) (by decide) (by decide) (by decide) C3 G (.inr ⟨⟨by decide, by decide⟩, rfl⟩) (by decide) (by decide) (fun v F4 Fm4 Am4 N4 n4 z hv xz hz S4 m4 C4 => ?_) (fun na' nb' => ?_) (fun F4 Fm4 Am4 Jm4 E => ?_)
        · dsimp only
          rw [i_neq.mpr (by rw [i_0]; exact hv), cond_false]
          unfold e_Reader_readSum_69 e_Reader_readSum_71
          have hz' : ¬ (z = 10 ∨ z = 15) := by omega
          rw [if_neg hz', if_neg hz'] at C4
          exact ih γ δ Q f g o F4 A3 Fm4 Am4 N4 n4 x1 v 0 (x5 + 1) A0 Am0 k49 p c h D w z 0 hx ho0 ho6 S4 C4 hD G xz (by decide) (by omega) (by omega) (fun F5 A5 Fm5 Am5 N5 n5 sg5 pt5 S5 le5 C5 hn => ks F5 A5 Fm5 Am5 N5 n5 sg5 pt5 S5 (by omega) C5 hn) kf
        · dsimp only
          rw [cz_00, cond_true]
          unfold e_Reader_readSum_69 e_Reader_readSum_71
          have fin : P2 (f ((), P, F3, A3, J)) ((d_expression_96 (d_expression_12 N1) n1 Fm1 Am1 Jm 0).bind g) Q := ks F3 A3 Fm1 Am1 N1 n1 sg pt S3 le1 C3 ⟨by rw [← l8]; exact na', by rw [← l9]; exact nb', by rw [← l10]; exact na, by rw [← l15]; exact nb⟩
          cases n with
          | zero => intro a b ha _; cases ha
          | succ n =>
            unfold e_Reader_readSum_10
            rw [cz_00]
            refine p2_bind_cl (fun _ => ?_) (fun _ => ?_)
            · rw [Option.bind_some]; exact fin
            · rw [cond_true, Option.bind_some]; exact fin
        · dsimp only
          rw [cz_00, cond_true]
          unfold e_Reader_readSum_69 e_Reader_readSum_71
          exact ff E
      · dsimp only
        rw [i_nne.mpr rfl, cond_false, Option.bind_assoc]
        refine p2_l (sign_po hc) ?_
        rintro _ ⟨F4, A4, rfl, f4⟩
        have E4 : FE F4 Fm3 := ⟨by rw [f4.1 37 10 (fun e => hd e.1.symm)]; exact E.1, E.gg⟩
        dsimp only
        rw [eE_ff E4.c, Option.bind_some]
        dsimp only
        rw [cz_00, cond_true]
        unfold e_Reader_readSum_69 e_Reader_readSum_71
        exact ff E4
    · dsimp only
      rw [Option.bind_assoc]
      refine p2_l (sign_po hc) ?_
      rintro _ ⟨F2, A2, rfl, f2⟩
      have E2 : FE F2 Fm1 := ⟨by rw [f2.1 37 10 (fun e => hd e.1.symm)]; exact E.1, E.gg⟩
      dsimp only
      rw [eE_ff E2.c, Option.bind_some]
      dsimp only
      rw [i_nne.mpr rfl, cond_false, Option.bind_assoc]
      refine p2_l (sign_po hc) ?_
      rintro _ ⟨F3, A3, rfl, f3⟩
      have E3 : FE F3 Fm1 := ⟨by rw [f3.1 37 10 (fun e => hd e.1.symm)]; exact E2.1, E.gg⟩
      dsimp only
      rw [eE_ff E3.c, Option.bind_some]
      dsimp only
      rw [cz_00, cond_true]
      unfold e_Reader_readSum_69 e_Reader_readSum_71
      refine p2_l (eS10_ff hd hc E3.c) ?_
      rintro _ ⟨F4, A4, rfl, f4⟩
      exact kf F4 A4 J1 Fm1 Am1 Jm1 ⟨by rw [f4.1 37 10 (fun e => hd e.1.symm)]; exact E3.1, E.gg⟩
theorem sum_m (K : TKs T) (h5 : P 37 5 = d) (hk : c_kind d = 6) : ∀ m, XP T d P J Jm true (e_Reader_readSum m n) ∧ XF P J (e_Reader_readSum m n) := by
  have hd := kd37 hk
  have hd3 := kd3 hk
  have hc := chk_in h5 hk
  intro m
  induction m with
  | zero =>
    refine ⟨?_, fun F A x1 h => ?_⟩
    · intro γ δ Q f g o F A Fm Am N nn x1 A0 Am0 k49 p c h D w _ _ _ _ _ _ _ _ _ a b ha _
      cases ha
    · intro r hr; cases hr
  | succ m ih =>
    refine ⟨?_, fun F A x1 h => ?_⟩
    · intro γ δ Q f g o F A Fm Am N nn x1 A0 Am0 k49 p c h D w hx ho0 ho6 S C hD G ks kf
      have hD : D ≤ 2 * o + 0 := hD
      show P2 ((e_Reader_readSum_10 (e_Reader_readSum m n) n P F A J x1 0 0 1 0).bind f) _ Q
      exact sum_x K h5 hk (fun n => unit_x K h5 hk ih.1 ih.2) n γ δ Q f g o F A Fm Am N nn x1 0 0 0 A0 Am0 k49 p c h D w 0 0 hx ho0 ho6 S C (by omega) (G rfl) (by decide) (by decide) (by decide) (by rw [i_0]; exact S.r.t0) (fun F' A' Fm' Am' N' n' sg pt S' le C' hn => ks F' A' Fm' Am' N' n' sg pt S' le C' (fun _ => hn) (fun h => absurd h (by decide))) kf
    · refine po_mono (eS_ff hd hc h) ?_
      rintro _ ⟨F', A', rfl, f⟩
      exact ⟨F', A', rfl, f.1 37 10 (fun e => hd e.1.symm)⟩
/-- what a term has become: l instructions from p on, l codes from c on -/
def TMx (p c l : Int) (d : Nat) (A0 : Nat → Nat → Nat → Int32) (Fm0 : Nat → Int32) (Am0 : Nat → Nat → Int32) (F : Nat → Nat → Int32) (A : Nat → Nat → Nat → Int32) (Fm : Nat → Int32) (Am : Nat → Nat → Int32) : Prop := SGx d A Am p c l ∧ dpm Am c l.toNat = 1 ∧ (Fm 56).toInt = c + l ∧ (F d 1304).toInt = p + l ∧ p + l + 3 ≤ (Fm 11).toInt ∧ CBx p c d A0 A Am0 Am ∧ (Fm 49, Fm 19) = (Fm0 49, Fm0 19)
/-- a whole term, on both sides -/
theorem p2_expr {f : cR Unit → Option γ} {g : mR Unit → Option δ} (K : TKs T) (h5 : P 37 5 = d) (hk : c_kind d = 6) (S : SX T 0 d J Jm F A Fm Am) (hL : 0 ≤ (F d 1304).toInt ∧ (F d 1304).toInt + 3 ≤ (Fm 11).toInt) (h56 : 0 ≤ (Fm 56).toInt) (ks : ∀ F' A' Fm' Am' l, SX T 0 d J Jm F' A' Fm' Am' → TMx (F d 1304).toInt (Fm 56).toInt l d A Fm Am F' A' Fm' Am' → P2 (f ((), P, F', A', J)) (g ((), Fm', Am', Jm)) Q) (kf : ∀ F' A' J' Fm' Am' Jm', FE F' Fm' → P2 (f ((), P, F', A', J')) (g ((), Fm', Am', Jm')) Q) : P2 ((e_Reader_readSum 8 n P F A J 0).bind f) ((d_expression m Fm Am Jm).bind g) Q := by
  unfold d_expression
  rw [Option.bind_assoc]
  refine p2_br (fun F1 e1 => ?_)
  have a1 := gg_pf e1
  have S1 : SX T 0 d J Jm F A F1 Am := S.nn ⟨fun q _ h => a1.2 q h, fun _ _ _ _ => rfl⟩
  have z : F1 12 = 0 := i_ext S1.h.op
  have e56 : F1 56 = Fm 56 := a1.2 56 (by decide)
  have e11 : F1 11 = Fm 11 := a1.2 11 (by decide)
  have e49 : F1 49 = Fm 49 := a1.2 49 (by decide)
  have e19 : F1 19 = Fm 19 := a1.2 19 (by decide)
  have C1 : CR A Am (Fm 49, Fm 19) (F d 1304).toInt (Fm 56).toInt 0 0 (fun _ => 0) 0 0 0 0 d F A F1 Am := by
    have zn := ns_0
    unfold CR
    rw [e56, e49, e19, show (Fm 56).toInt - (Fm 56).toInt = 0 by omega, a1.1, e11]
    refine ⟨by omega, ⟨.inl rfl, .inl rfl⟩, ⟨by rw [i_0]; omega, fun i i0 i1 => absurd i1 (by omega), fun h => absurd rfl h, fun h => absurd rfl h⟩, ⟨by omega, fun i i0 i1 => absurd i1 (by omega), fun i i0 i1 => ?_⟩, ?_, ⟨?_, fun h => absurd h (by decide), fun h => absurd h (by decide), ?_⟩, CBx.rfl', rfl⟩
    · rw [show i.toNat = 0 by omega]
      show (0 : Int) ≤ 16
      decide
    · show (0 : Int) = _
      omega
    · rw [if_neg (by decide), if_neg (by decide)]; omega
    · rw [if_neg (by decide), if_neg (by decide)]; omega
  cases m with
  | zero => intro a b _ hb; cases hb
  | succ m =>
    unfold d_expression_12
    rw [cz_10, cond_false, S1.r.nz, cond_false, z]
    refine (sum_m K h5 hk 8).1 γ δ Q f g 0 F A F1 Am m m 0 A Am (Fm 49, Fm 19) (F d 1304).toInt (Fm 56).toInt 0 0 (fun _ => 0) (by decide) (by decide) (by decide) S1 C1 (by decide) (fun _ => .inl rfl) (fun F2 A2 Fm2 Am2 N2 n2 sg pt S2 _ C2 hn _ => y_end0 (h := 0) (st := 0) S2 (hn rfl) C2 (fun Fm3 Am3 f3 C3 => ?_)) kf
    refine ks F2 A2 Fm3 Am3 ((Fm3 56).toInt - (Fm 56).toInt) (S2.nn f3) ?_
    have zn := ns_0
    have cl := C3.L
    obtain ⟨c1, c2, c3, c4, c5, ⟨c6, c7, c8, c9⟩, cb, c14⟩ := C3
    have ifz : ∀ {q : Prop} [Decidable q], (if q then ns 0 else 0) = 0 := by intro q _; split <;> rfl
    rw [ifz, ifz] at c6
    exact ⟨c4, by omega, by omega, by omega, by omega, cb, c14⟩
end B6
end Qz110
section Qz111
/-! laws: what both sides have of them -/
section B6z
variable {d : Nat} {C C' L B p b q c l e last : Int} {F F' : Nat → Nat → Int32} {A A' A1 : Nat → Nat → Nat → Int32} {Fm Fm' : Nat → Int32} {Am Am' Am1 : Nat → Nat → Int32}
/-- a whole term -/
def SGT (d : Nat) (A : Nat → Nat → Nat → Int32) (Am : Nat → Nat → Int32) (p c l : Int) : Prop := SGx d A Am p c l ∧ dpm Am c l.toNat = 1
theorem SGT.fr (S : SGT d A Am p c l) (h15 : ∀ i, p ≤ i → i < p + l → ci A' d 15 i = ci A d 15 i ∧ ci A' d 16 i = ci A d 16 i) (h42 : ∀ i, c ≤ i → i < c + l → ai Am' 42 i = ai Am 42 i ∧ ai Am' 43 i = ai Am 43 i) : SGT d A' Am' p c l := by
  have hl := S.1.1
  exact ⟨S.1.fr h15 h42, by rw [dpm_rg (c := c + l) (fun i a b => (h42 i a b).1) l.toNat (by omega)]; exact S.2⟩
/-- a branch with a test: from p on to q -/
def BRx (C : Int) (d : Nat) (A : Nat → Nat → Nat → Int32) (Am : Nat → Nat → Int32) (p b q : Int) : Prop := ∃ l1 l2 l3 : Int, ai Am 36 b = 1 ∧ 0 ≤ ai Am 37 b ∧ SGT d A Am p (ai Am 37 b) l1 ∧ ai Am 38 b = ai Am 37 b + l1 ∧ SGT d A Am (p + l1) (ai Am 38 b) l2 ∧ ai Am 39 b = ai Am 38 b + l2 ∧ ci A d 15 (p + l1 + l2) = 60 ∧ ci A d 16 (p + l1 + l2) = q ∧ SGT d A Am (p + l1 + l2 + 1) (ai Am 39 b) l3 ∧ ai Am 40 b = ai Am 39 b + l3 ∧ ai Am 40 b ≤ C ∧ ci A d 15 (p + l1 + l2 + 1 + l3) = 0 ∧ q = p + l1 + l2 + 1 + l3 + 1
/-- the last branch of a law -/
def FNx (C : Int) (d : Nat) (A : Nat → Nat → Nat → Int32) (Am : Nat → Nat → Int32) (p b e : Int) : Prop := ∃ l : Int, ai Am 36 b = 0 ∧ 0 ≤ ai Am 39 b ∧ SGT d A Am p (ai Am 39 b) l ∧ ai Am 40 b = ai Am 39 b + l ∧ ai Am 40 b ≤ C ∧ ci A d 15 (p + l) = 0 ∧ e = p + l + 1
def LPx (C : Int) (d : Nat) (A : Nat → Nat → Nat → Int32) (Am : Nat → Nat → Int32) : Nat → Int → Int → Int → Prop
  | 0, p, _, q => q = p
  | n + 1, p, b, q => ∃ p1, BRx C d A Am p b p1 ∧ LPx C d A Am n p1 (b + 1) q
/-- a law -/
def LWx (C B : Int) (d : Nat) (A : Nat → Nat → Nat → Int32) (Am : Nat → Nat → Int32) (p b last e : Int) : Prop := 0 ≤ p ∧ 0 ≤ b ∧ last ≤ B ∧ ∃ (n : Nat) (q : Int), LPx C d A Am n p b q ∧ FNx C d A Am q (b + n) e ∧ last = b + n + 1
/-- the laws of the men of a house -/
def RL (s : Int) (d : Nat) (F : Nat → Nat → Int32) (A : Nat → Nat → Nat → Int32) (Fm : Nat → Int32) (Am : Nat → Nat → Int32) : Prop := 0 ≤ (F d 1304).toInt ∧ ∀ m : Int, 0 ≤ m → m < 6 → (ci A d 14 m = -1 ∧ ai Am 34 (6 * s + m) = ai Am 35 (6 * s + m)) ∨ ∃ e, LWx (Fm 56).toInt (Fm 49).toInt d A Am (ci A d 14 m) (ai Am 34 (6 * s + m)) (ai Am 35 (6 * s + m)) e ∧ e ≤ (F d 1304).toInt
/-- what lies below is as it was -/
def BLW (L C B : Int) (d : Nat) (A A' : Nat → Nat → Nat → Int32) (Am Am' : Nat → Nat → Int32) : Prop := (∀ i, 0 ≤ i → i < L → ci A' d 15 i = ci A d 15 i ∧ ci A' d 16 i = ci A d 16 i) ∧ (∀ i, 0 ≤ i → i < C → ai Am' 42 i = ai Am 42 i ∧ ai Am' 43 i = ai Am 43 i) ∧ (∀ q, 36 ≤ q → q ≤ 40 → ∀ i, 0 ≤ i → i < B → ai Am' q i = ai Am q i)
theorem BLW.rfl' : BLW L C B d A A Am Am := ⟨fun _ _ _ => ⟨rfl, rfl⟩, fun _ _ _ => ⟨rfl, rfl⟩, fun _ _ _ _ _ _ => rfl⟩
theorem BLW.tr {L' C' B' : Int} (h : BLW L C B d A A1 Am Am1) (h' : BLW L' C' B' d A1 A' Am1 Am') (hl : L ≤ L') (hc : C ≤ C') (hb : B ≤ B') : BLW L C B d A A' Am Am' :=
  ⟨fun i i0 i1 => ⟨((h'.1 i i0 (by omega)).1).trans (h.1 i i0 i1).1, ((h'.1 i i0 (by omega)).2).trans (h.1 i i0 i1).2⟩, fun i i0 i1 => ⟨((h'.2.1 i i0 (by omega)).1).trans (h.2.1 i i0 i1).1, ((h'.2.1 i i0 (by omega)).2).trans (h.2.1 i i0 i1).2⟩, fun q h1 h2 i i0 i1 => (h'.2.2 q h1 h2 i i0 (by omega)).trans (h.2.2 q h1 h2 i i0 i1)⟩
theorem BRx.lt (h : BRx C d A Am p b q) : p + 2 ≤ q := by
  obtain ⟨l1, l2, l3, -, -, s1, -, s2, -, -, -, s3, -, -, -, e⟩ := h
  have := s1.1.1
  have := s2.1.1
  have := s3.1.1
  omega
theorem BRx.fr (h : BRx C d A Am p b q) (f : BLW L C B d A A' Am Am') (p0 : 0 ≤ p) (hq : q ≤ L) (b0 : 0 ≤ b) (hb : b < B) (hc : C ≤ C') : BRx C' d A' Am' p b q := by
  obtain ⟨l1, l2, l3, t, z, s1, e1, s2, e2, k1, k2, s3, e3, le, k3, e⟩ := h
  have g1 := s1.1.1
  have g2 := s2.1.1
  have g3 := s3.1.1
  have fb : ∀ q, 36 ≤ q → q ≤ 40 → ai Am' q b = ai Am q b := fun q h1 h2 => f.2.2 q h1 h2 b b0 hb
  have fa := f.1
  have fm := f.2.1
  refine ⟨l1, l2, l3, ?_⟩
  rw [fb 36 (by decide) (by decide), fb 37 (by decide) (by decide), fb 38 (by decide) (by decide), fb 39 (by decide) (by decide), fb 40 (by decide) (by decide), (fa (p + l1 + l2) (by omega) (by omega)).1, (fa (p + l1 + l2) (by omega) (by omega)).2, (fa (p + l1 + l2 + 1 + l3) (by omega) (by omega)).1]
  exact ⟨t, z, s1.fr (fun i a b => fa i (by omega) (by omega)) (fun i a b => fm i (by omega) (by omega)), e1, s2.fr (fun i a b => fa i (by omega) (by omega)) (fun i a b => fm i (by omega) (by omega)), e2, k1, k2, s3.fr (fun i a b => fa i (by omega) (by omega)) (fun i a b => fm i (by omega) (by omega)), e3, by omega, k3, e⟩
theorem FNx.fr (h : FNx C d A Am p b e) (f : BLW L C B d A A' Am Am') (p0 : 0 ≤ p) (hq : e ≤ L) (b0 : 0 ≤ b) (hb : b < B) (hc : C ≤ C') : FNx C' d A' Am' p b e := by
  obtain ⟨l, t, z, s1, e1, le, k3, e⟩ := h
  have g1 := s1.1.1
  have fb : ∀ q, 36 ≤ q → q ≤ 40 → ai Am' q b = ai Am q b := fun q h1 h2 => f.2.2 q h1 h2 b b0 hb
  have fa := f.1
  have fm := f.2.1
  refine ⟨l, ?_⟩
  rw [fb 36 (by decide) (by decide), fb 39 (by decide) (by decide), fb 40 (by decide) (by decide), (fa (p + l) (by omega) (by omega)).1]
  exact ⟨t, z, s1.fr (fun i a b => fa i (by omega) (by omega)) (fun i a b => fm i (by omega) (by omega)), e1, by omega, k3, e⟩
theorem LPx.le : ∀ {n : Nat} {p b q : Int}, LPx C d A Am n p b q → p ≤ q
  | 0, p, b, q, h => by
    have h : q = p := h
    omega
  | n + 1, p, b, q, h => by
    obtain ⟨p1, h1, h2⟩ := h
    have := h1.lt
    have := LPx.le h2
    omega
theorem LPx.fr (f : BLW L C B d A A' Am Am') (hc : C ≤ C') : ∀ {n : Nat} {p b q : Int}, LPx C d A Am n p b q → 0 ≤ p → q ≤ L → 0 ≤ b → b + n ≤ B → LPx C' d A' Am' n p b q
  | 0, p, b, q, h, _, _, _, _ => h
  | n + 1, p, b, q, h, p0, hq, b0, hb => by
    obtain ⟨p1, h1, h2⟩ := h
    have w1 := h1.lt
    have w2 := LPx.le h2
    exact ⟨p1, h1.fr f p0 (by omega) b0 (by omega) hc, LPx.fr f hc h2 (by omega) hq (by omega) (by omega)⟩
theorem LPx.snoc : ∀ {n : Nat} {p b q q' : Int}, LPx C d A Am n p b q → BRx C d A Am q (b + n) q' → LPx C d A Am (n + 1) p b q'
  | 0, p, b, q, q', h, k => by
    have h : q = p := h
    subst h
    have e : b + ((0 : Nat) : Int) = b := by omega
    rw [e] at k
    exact ⟨q', k, rfl⟩
  | n + 1, p, b, q, q', h, k => by
    obtain ⟨p1, h1, h2⟩ := h
    have e : b + ((n + 1 : Nat) : Int) = (b + 1) + (n : Int) := by omega
    rw [e] at k
    exact ⟨p1, h1, LPx.snoc h2 k⟩
theorem LWx.fr (h : LWx C B d A Am p b last e) (f : BLW L C B d A A' Am Am') (hq : e ≤ L) (hc : C ≤ C') {B' : Int} (hb : B ≤ B') : LWx C' B' d A' Am' p b last e := by
  obtain ⟨p0, b0, hl, n, q, h1, h2, e1⟩ := h
  have w := LPx.le h1
  have qe : q + 1 ≤ e := by
    obtain ⟨l, -, -, s, -, -, -, e⟩ := h2
    have := s.1.1
    omega
  exact ⟨p0, b0, by omega, n, q, LPx.fr f hc h1 p0 (by omega) b0 (by omega), h2.fr f (by omega) hq (by omega) (by omega) hc, e1⟩
/-- laws stay, as more is written behind them -/
theorem RL.fr {s : Int} (R : RL s d F A Fm Am) (f : BLW (F d 1304).toInt (Fm 56).toInt (Fm 49).toInt d A A' Am Am') (hL : (F d 1304).toInt ≤ (F' d 1304).toInt) (hC : (Fm 56).toInt ≤ (Fm' 56).toInt) (hB : (Fm 49).toInt ≤ (Fm' 49).toInt) (h14 : A' d 14 = A d 14) (h34 : Am' 34 = Am 34) (h35 : Am' 35 = Am 35) : RL s d F' A' Fm' Am' := by
  obtain ⟨r0, r⟩ := R
  refine ⟨by omega, fun m m0 m1 => ?_⟩
  rw [ci_fr h14, ai_fr h34, ai_fr h35]
  rcases r m m0 m1 with h | ⟨e, h, he⟩
  · exact .inl h
  · exact .inr ⟨e, h.fr f he hC hB, by omega⟩
theorem RL.eq {s : Int} (R : RL s d F A Fm Am) (f : F' d 1304 = F d 1304) (h14 : A' d 14 = A d 14) (h15 : A' d 15 = A d 15) (h16 : A' d 16 = A d 16) (f56 : Fm' 56 = Fm 56) (f49 : Fm' 49 = Fm 49) (m : ∀ q, 34 ≤ q → q ≤ 43 → q ≠ 41 → Am' q = Am q) : RL s d F' A' Fm' Am' :=
  R.fr ⟨fun i _ _ => by rw [ci_fr h15, ci_fr h16]; exact ⟨rfl, rfl⟩, fun i _ _ => by rw [ai_fr (m 42 (by decide) (by decide) (by decide)), ai_fr (m 43 (by decide) (by decide) (by decide))]; exact ⟨rfl, rfl⟩, fun q h1 h2 i _ _ => by rw [ai_fr (m q (by omega) (by omega) (by omega))]⟩ (by rw [f]; exact Int.le_refl _) (by rw [f56]; exact Int.le_refl _) (by rw [f49]; exact Int.le_refl _) h14 (m 34 (by decide) (by decide) (by decide)) (m 35 (by decide) (by decide) (by decide))
/-- a law that is being told: its beginning, its branches so far -/
def LGx (n : Nat) (s p0 b0 c0 : Int) (d : Nat) (A1 : Nat → Nat → Nat → Int32) (Am1 : Nat → Nat → Int32) (F : Nat → Nat → Int32) (A : Nat → Nat → Nat → Int32) (Fm : Nat → Int32) (Am : Nat → Nat → Int32) : Prop := LPx (Fm 56).toInt d A Am n p0 b0 (F d 1304).toInt ∧ (Fm 49).toInt = b0 + n ∧ BLW p0 c0 b0 d A1 A Am1 Am ∧ A d 14 = A1 d 14 ∧ (Am 34 = Am1 34 ∧ Am 35 = Am1 35) ∧ (c0 ≤ (Fm 56).toInt ∧ 0 ≤ p0 ∧ 0 ≤ b0 ∧ 0 ≤ c0) ∧ (Fm 19).toInt = s ∧ (F d 1304).toInt + 3 ≤ (Fm 11).toInt
/-- a jump is aimed -/
theorem aim_v {P : Nat → Nat → Nat} {J : Nat → Nat → Nat → Int64} {x1 : Int32} (h0 : 0 ≤ x1.toInt) (h1 : x1.toInt < (F d 1304).toInt) : po (e_Laws_aimHere P F A J d x1) (fun r => ∃ A', r = ((), P, F, A', J) ∧ FrL d F F A A' ∧ A' d 15 = A d 15 ∧ ci A' d 16 x1.toInt = (F d 1304).toInt ∧ (∀ i, 0 ≤ i → i ≠ x1.toInt → ci A' d 16 i = ci A d 16 i)) := by
  unfold e_Laws_aimHere
  refine po_cond (fun c => ?_) (fun _ => po_cond (fun c => ?_) (fun _ => ?_))
  · rw [i_lt, i_0] at c; omega
  · rw [i_ge] at c; omega
  refine po_bl (fun A2 e2 => ?_)
  have a2 := (gg_cst e2).2.2
  exact po_some ⟨A2, rfl, ⟨fun _ _ _ => rfl, fun r o h => a2.2.2 r o (fun e => h ⟨e.1, .inr e.2⟩)⟩, a2.2.2 d 15 (fun e => absurd e.2 (by decide)), a2.1, a2.2.1⟩
end B6z
end Qz111
