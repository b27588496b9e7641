section B2
variable {T : TS} {d n m q : Nat} {P : Nat → Nat → Nat} {F F' : Nat → Nat → Int32} {A A' : Nat → Nat → Nat → Int32} {J J' : Nat → Nat → Nat → Int64} {Fm Fm' : Nat → Int32} {Am Am' : Nat → Nat → Int32} {Jm Jm' : Nat → Nat → Int64} {k k' v x2 x3 : Int32}
theorem gknown_0 (h : (F 37 10).toInt = 0) (t0 : 0 ≤ (F 37 7).toInt) (t1 : (F 37 7).toInt ≤ 400) (hk : (A 37 2 (F 37 7).toInt.toNat).toInt ≠ (100 : Int32).toInt) : ∃ F', gknown q n P F A J x2 = some (-1, P, F', A, J) ∧ F' 37 10 = 1 := by
  unfold gknown
  obtain ⟨F', e, h1, h2⟩ := e_take_0 (P := P) (J := J) h t0 t1 hk
  rw [e, Option.bind_some]
  dsimp only
  rw [i_nne.mpr rfl, cond_false]
  exact ⟨F', rfl, h1⟩
theorem d_known_0 (h : (Fm 13).toInt = 0) (t0 : 0 ≤ (Fm 11).toInt) (t1 : (Fm 11).toInt ≤ 400) (hk : (Am 3 (Fm 11).toInt.toNat).toInt ≠ (1 : Int32).toInt) : ∃ F', d_known m Fm Am Jm x2 = some (-1, F', Am, Jm) ∧ F' 13 = 1 := by
  unfold d_known
  obtain ⟨F', e, h1, h2⟩ := d_must_0 (J := Jm) h t0 t1 hk
  rw [e, Option.bind_some]
  dsimp only
  rw [i_nle.mpr (by rw [h1]; decide), cond_false]
  exact ⟨F', rfl, h1⟩
theorem d_failAt_0 {x : Int32} (h : (Fm 13).toInt = 0) (h0 : 0 ≤ x.toInt) (h1 : x.toInt < 403) : ∃ F', d_failAt Fm Am Jm k x = some ((), F', Am, Jm) ∧ F' 13 = k := by
  unfold d_failAt
  rw [i_le.mpr (by rw [i_0]; omega), cond_true]
  obtain ⟨F3, e3⟩ : ∃ F3, m_pf Fm 13 k = some F3 := ⟨_, rfl⟩
  have U3 := gg_pf e3
  rw [e3, Option.bind_some, m_ld_in h0 (by omega), Option.bind_some]
  obtain ⟨F4, e4⟩ : ∃ F4, m_pf F3 14 (Am 4 x.toInt.toNat) = some F4 := ⟨_, rfl⟩
  rw [e4, Option.bind_some]
  have U4 := gg_pf e4
  exact ⟨F4, rfl, by rw [U4.2 13 (by decide), U3.1]⟩
theorem d_failAt_ff {x : Int32} (h : 0 < (Fm 13).toInt) : d_failAt Fm Am Jm k x = some ((), Fm, Am, Jm) := by
  unfold d_failAt
  rw [i_nle.mpr (by rw [i_0]; exact h), cond_false]
theorem e_fail_2 {x : Int32} (h : (F 37 10).toInt = 2) : po (e_Reader_fail P F A J 2 x) (fun r => ∃ F', r = ((), P, F', A, J) ∧ (F' 37 10).toInt = 2) := by
  unfold e_Reader_fail
  rw [i_neq.mpr (by rw [h, i_0]; decide), cond_false]
  refine po_cond (fun _ => po_some ⟨F, rfl, h⟩) (fun _ => ?_)
  unfold e_Reader_fail_15
  refine po_bl (fun F3 e3 => po_bl (fun F4 e4 => po_some ⟨F4, rfl, ?_⟩))
  rw [(gg_cpf e4).2 37 10 (by decide), (gg_cpf e3).1]
  decide
theorem readStep_g : e_Reader_readStep n P F A J = (e_Reader_takeTaskOfStep n P F A J).bind fun (v1, P2, F3, A4, J5) => gstep n P2 F3 A4 J5 v1 := rfl
/-- a step is told -/
theorem qq_step (K : TKs T) (R : RT T F Fm) (X : RX T A J Am Jm) (H : RH d F A J Fm Am Jm) (W : RW d F A Fm Am) (Rr : Rc F A) (h5 : P 37 5 = d) (hk : c_kind d = 6) (hm : (Am 3 (Fm 11).toInt.toNat).toInt = (25 : Int32).toInt) : P2 (e_Reader_readStep n P F A J) ((d_goesOn Fm Am Jm).bind fun (_, F48, A49, J50) => (d_tellStep m F48 A49 J50 ((F48 11) - 1)).bind fun (_, F52, A53, J54) => some ((), F52, A53, J54)) (RS T d P) := by
  have hd := kd37 hk
  have hc := chk_in h5 hk
  have t0 := R.t0
  have t1 := R.t1
  have tk := R.tk
  have l1 := i_1
  have l6 : (6 : Int32).toInt = 6 := by decide
  have bt : 0 ≤ (F d 16).toInt ∧ (F d 16).toInt ≤ 6 := H.nr.bd 2 (by decide)
  rw [readStep_g]
  unfold e_Reader_takeTaskOfStep
  rw [m_ld_in (by rw [tk]; exact t0) (by rw [tk]; omega), Option.bind_some, Option.bind_assoc]
  generalize A 37 3 (F 37 7).toInt.toNat = place
  refine p2_goes (k' := 25) K R X (by decide) (by decide) hm (fun F1 Fm1 U1 => ?_) (fun F1 Fm1 fc fm E => ?_)
  · have R1 := U1.rt
    have H1 := U1.v.h hd H
    have e16 := U1.dg hd 16
    have u0 := R1.t0
    have u1 := R1.t1
    have x1e : ((Fm1 11) - 1).toInt = (Fm 11).toInt := by
      rw [i_sub (by omega) (by omega), i_1, U1.m1]; omega
    dsimp only
    refine p2_eta ?_
    rw [Option.bind_assoc]
    have iff := R1.kd (k := 100) (k' := 1) K X (by decide)
    by_cases hN : (Am 3 (Fm1 11).toInt.toNat).toInt = (1 : Int32).toInt
    · rw [e_next_1 R1.f0 (by rw [R1.tk]; exact u0) (by rw [R1.tk]; exact u1) (iff.mpr hN), Option.bind_some, cz_10, cond_false, m_ldJ_in (by rw [R1.tk]; exact u0) (by rw [R1.tk]; omega), Option.bind_some, hc, Option.bind_some, find2_q, X.j5, R1.tk]
      rw [Option.bind_assoc]
      refine p2_bl (fun v11 hf11 => ?_)
      unfold e_Reader_takeTaskOfStep_57 d_tellStep
      rw [hc, Option.bind_some, known_2, Option.bind_assoc]
      refine p2_known (q := 2) (by decide) (by decide) K R1 X H1.nr (fun v F2 Fm2 V2 hf hv => ?_) (fun F2 Fm2 fc fm E hz => ?_)
      · have ev : v11 = v := by
          have hf : findq 2 n J (T.jc (Fm1 11).toInt.toNat) (F1 d 16) = some v := hf
          rw [hf11] at hf
          exact Option.some.inj hf
        subst ev
        have H2 := V2.h hd H1
        have e216 : F2 d 16 = F d 16 := by rw [V2.dg hd, e16]
        have e219 : Fm2 19 = Fm1 19 := V2.fm 19 (by decide) (by decide) (by decide) (by decide) (by decide)
        have W2 : RW d F2 A Fm2 Am := (W.v H.s0 hd U1.c U1.m).v H1.s0 hd V2.fc V2.fm
        have h6 : ∀ t, 0 ≤ t → ci A d 5 t ≤ 6 := fun t t0 => by
          have := Rr.2 d 5 t t0
          rw [hk] at this
          have this : 0 ≤ ci A d 5 t ∧ ci A d 5 t ≤ 6 := this
          exact this.2
        dsimp only
        rcases hv with ⟨v0, v1, U2⟩ | ⟨rfl, _⟩
        · have v1 : v11.toInt < (F1 d 16).toInt := v1
          rw [e16] at v1
          rw [i_nlt.mpr (by rw [i_0]; exact v0), cond_false, hc, Option.bind_some, m_ld_in v0 (by omega), Option.bind_some, i_ge.mpr (by rw [i_0]; exact v0), cond_true]
          refine p2_br (fun w6 e6 => ?_)
          have a6 := gg_ld e6
          have same : A d 5 v11.toInt.toNat = w6 := by
            rw [a6.2.2]
            exact H2.sc' v0 (by rw [e216]; exact v1) (H2.ix v0 (by omega))
          rw [same]
          have rg : 0 ≤ w6.toInt ∧ w6.toInt ≤ 6 := by
            have := Rr.2 d 5 v11.toInt v0
            rw [hk] at this
            have this : 0 ≤ (A d 5 v11.toInt.toNat).toInt ∧ (A d 5 v11.toInt.toNat).toInt ≤ 6 := this
            rw [same] at this
            exact this
          by_cases c6 : w6.toInt < 6
          · rw [i_lt.mpr (by rw [l6]; exact c6), cond_true, Option.bind_some, i_ne.mpr (by rw [l6]; omega), cond_true]
            unfold d_tellStep_41
            rw [i_ge.mpr (by rw [i_0]; exact v0), cond_true]
            have em := H2.ix6 v0 (show v11.toInt ≤ 12 by omega)
            have s0 := H2.s0
            have s1 := H2.s1
            have ix : ((6 * (6 * (Fm2 19) + v11)) + w6).toInt = 6 * (6 * (Fm2 19).toInt + v11.toInt) + ci A d 5 v11.toInt := by
              have m2 := i_mulL (c := 6) (k := 6) (x := 6 * (Fm2 19) + v11) (by decide) (by omega) (by omega)
              rw [i_add (by omega) (by omega), m2, em]
              have : ci A d 5 v11.toInt = w6.toInt := by rw [← same]; rfl
              omega
            have cw : ci A d 5 v11.toInt = w6.toInt := by rw [← same]; rfl
            have cw0 : 0 ≤ ci A d 5 v11.toInt := by omega
            have cw6 : ci A d 5 v11.toInt < 6 := by omega
            exact qs_tail K V2.rt X H2 W2 h6 (.inl ⟨cw0, cw6, ix⟩) h5 hk (.inl ⟨v0, by show v11.toInt < (F2 d 16).toInt; rw [e216]; exact v1, same⟩)
          · rw [i_nlt.mpr (by rw [l6]; omega), cond_false, i_nne.mpr (by rw [l6]; omega), cond_false]
            obtain ⟨F3, f1, f2, -⟩ := e_fail_0 (P := P) (F := F2) (A := A) (J := J) (k := 2) (v := place) V2.rt.f0
            obtain ⟨Fm3, g1, g2⟩ := d_failAt_0 (Fm := Fm2) (Am := Am) (Jm := Jm) (k := 2) (x := (Fm1 11) - 1) V2.rt.g0 (by rw [x1e]; exact t0) (by rw [x1e]; omega)
            rw [f1, g1, Option.bind_some, Option.bind_some]
            have E : FE F3 Fm3 := ⟨by rw [f2, g2], by rw [g2]; decide⟩
            refine p2_ff E ?_ ?_
            · exact gstep_ff E.c
            · exact d_s59_ff E
        · rw [i_lt.mpr (by decide), cond_true, Option.bind_some, i_nge.mpr (by decide), cond_false]
          unfold d_tellStep_28
          rw [i_ne.mpr (by decide), cond_true]
          unfold d_tellStep_41
          rw [i_nge.mpr (by decide), cond_false]
          exact qs_tail K V2.rt X H2 W2 h6 (.inr rfl) h5 hk (.inr rfl)
      · have h2 := hz (by rw [← X.m3]; exact hN)
        have hF2 : (F2 37 10).toInt = 2 := by rw [E.1]; exact h2
        refine p2_ff E ?_ ?_
        · dsimp only
          refine po_bind_cond (fun _ => ?_) (fun _ => ?_)
          · rw [Option.bind_some]
            exact gstep_ff E.c
          · rw [hc, Option.bind_some]
            rw [Option.bind_assoc]
            refine po_bl (fun w20 _ => po_bind_cond (fun _ => ?_) (fun _ => ?_))
            · rw [Option.bind_some]
              exact gstep_ff E.c
            · rw [Option.bind_assoc]
              refine po_call (e_fail_2 hF2) ?_
              rintro _ ⟨F3, rfl, h3⟩
              dsimp only
              rw [Option.bind_some]
              refine po_mono (gstep_ff (by rw [h3]; decide)) (fun a ha => ?_)
              rw [ha]
              exact i_ext (by rw [h3, hF2])
        · dsimp only
          rw [i_nge.mpr (by decide), cond_false]
          unfold d_tellStep_28
          rw [i_ne.mpr (by decide), cond_true]
          unfold d_tellStep_41
          rw [i_nge.mpr (by decide), cond_false]
          exact d_s59_ff E
    · rw [e_next_0 R1.f0 (by rw [R1.tk]; exact u0) (by rw [R1.tk]; exact u1) (fun h => hN (iff.mp h)), Option.bind_some, cz_00, cond_true]
      unfold e_Reader_takeTaskOfStep_57 d_tellStep
      obtain ⟨F2, f1, f2⟩ := gknown_0 (q := 2) (n := n) (P := P) (J := J) (x2 := F1 d 16) R1.f0 (by rw [R1.tk]; exact u0) (by rw [R1.tk]; exact u1) (fun h => hN (iff.mp h))
      obtain ⟨Fm2, g1, g2⟩ := d_known_0 (m := m) (Jm := Jm) (x2 := 2) R1.g0 u0 u1 hN
      rw [hc, Option.bind_some, known_2, f1, Option.bind_some, g1, Option.bind_some]
      have E : FE F2 Fm2 := ⟨by rw [f2, g2], by rw [g2]; decide⟩
      dsimp only
      rw [i_lt.mpr (by decide), cond_true, Option.bind_some, i_nge.mpr (by decide), cond_false]
      unfold d_tellStep_28
      rw [i_ne.mpr (by decide), cond_true]
      unfold d_tellStep_41
      rw [i_nge.mpr (by decide), cond_false]
      exact p2_ff E (gstep_ff E.c) (d_s59_ff E)
  · refine p2_ff E ?_ ?_
    · dsimp only
      rw [e_next_ff E.c, Option.bind_some, cz_00, cond_true]
      unfold e_Reader_takeTaskOfStep_57
      rw [hc, Option.bind_some, known_2, gknown_ff E.c, Option.bind_some]
      dsimp only
      rw [i_lt.mpr (by decide), cond_true, Option.bind_some]
      exact gstep_ff E.c
    · dsimp only
      unfold d_tellStep
      rw [d_known_ff E.gg, Option.bind_some]
      dsimp only
      rw [i_nge.mpr (by decide), cond_false]
      unfold d_tellStep_28
      rw [i_ne.mpr (by decide), cond_true]
      unfold d_tellStep_41
      rw [i_nge.mpr (by decide), cond_false]
      refine po_call (d_s59_ff E) ?_
      rintro ⟨u, F9, A9, J9⟩ h
      exact po_some h
end B2
