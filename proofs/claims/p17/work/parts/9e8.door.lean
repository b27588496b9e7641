section A8
variable {T : TS} {d n m q : Nat} {P : Nat → Nat → Nat} {F F' : Nat → Nat → Int32} {A A' : Nat → Nat → Nat → Int32} {J J' : Nat → Nat → Nat → Int64} {Fm Fm' : Nat → Int32} {Am Am' : Nat → Nat → Int32} {Jm Jm' : Nat → Nat → Int64} {k k' x1 x2 x3 s0 : Int32}
/-- the end of a door's sentence -/
theorem qd_end (K : TKs T) (R : RT T F Fm) (X : RX T A J Am Jm) (H : RH d F A J Fm Am Jm) (h5 : P 37 5 = d) (h6 : P 37 6 = 3) (hk : c_kind d = 6) : P2 (e_Reader_readDoor_91 n P F A J x1 x2 x3 s0) ((d_must Fm Am Jm 4).bind fun (_, F53, A54, J55) => cond (g_cnd .ne (F53 13) 0) (some ((), F53, A54, J55)) ((m_ld (A54 12) 2 (F53 19)).bind fun v57 => (m_st A54 12 2 (F53 19) (v57 + 1)).bind fun A58 => some ((), F53, A58, J55))) (RS T d P) := by
  have hd := kd37 hk
  have hd3 := kd3 hk
  have hc := chk_in h5 hk
  unfold e_Reader_readDoor_91
  refine p2_take K R X (by decide) (by decide) (fun F1 Fm1 U1 _ => ?_) (fun F1 Fm1 fc fm E _ => ?_)
  · have H1 := U1.v.h hd H
    dsimp only
    rw [cz_10, cond_false, U1.rt.nz, cond_false, hc, Option.bind_some, Option.bind_some]
    refine p2_bl (fun A2 e2 => ?_)
    have a2 := (gg_cst e2).2.2
    rw [Option.bind_some]
    refine p2_bl (fun A3 e3 => ?_)
    have a3 := (gg_cst e3).2.2
    rw [Option.bind_some]
    refine p2_bl (fun A4 e4 => ?_)
    have a4 := (gg_cst e4).2.2
    refine p2_bl (fun q5 e5 => ?_)
    obtain ⟨-, rfl⟩ := gg_chk e5
    rw [h6]
    have o37 : ∀ o, A4 37 o = A 37 o := fun o => by rw [a4.2.2 37 o (fun e => hd e.1.symm), a3.2.2 37 o (fun e => hd e.1.symm), a2.2.2 37 o (fun e => hd e.1.symm)]
    have o5 : A4 d 5 = A d 5 := by rw [a4.2.2 d 5 (fun e => absurd e.2 (by decide)), a3.2.2 d 5 (fun e => absurd e.2 (by decide)), a2.2.2 d 5 (fun e => absurd e.2 (by decide))]
    have X4 := X.ca (A' := A4) o37
    have H4 : RH d F1 A4 J Fm1 Am Jm := H1.fr (fun _ _ _ => rfl) rfl o5 (fun _ _ => rfl) rfl rfl rfl (fun _ _ => rfl) rfl
    have fin : ∀ s2, P2 (e_Reader_readDoor_165 n P F1 A4 J 3 (F1 3 7) s2) ((m_ld (Am 12) 2 (Fm1 19)).bind fun v57 => (m_st Am 12 2 (Fm1 19) (v57 + 1)).bind fun A58 => some ((), Fm1, A58, Jm)) (RS T d P) := by
      intro s2
      unfold e_Reader_readDoor_165
      refine p2_bl (fun F5 e5 => ?_)
      have U5 := gg_cpf e5
      rw [hc, Option.bind_some]
      refine p2_bl (fun F6 e6 => ?_)
      have U6 := gg_cpf e6
      refine p2_br (fun v7 e7 => ?_)
      have a7 := gg_ld e7
      refine p2_br (fun Am8 e8 => ?_)
      have a8 := gg_st e8
      have f : ∀ r k, ¬ (r = 3 ∧ k = 7) → ¬ (r = d ∧ k = 14) → F6 r k = F1 r k := fun r k h h' => by rw [U6.2 r k h', U5.2 r k h]
      refine p2_some (.inr ⟨?_, ?_, ?_⟩)
      · exact U1.rt.cg (fun k _ => f 37 k (fun e => absurd e.1 (by decide)) (fun e => hd e.1.symm)) (fun _ _ => rfl)
      · exact X4.a (fun q hq => a8.2.2.1 q (by omega))
      · refine ⟨H4.s0, H4.s1, fun q hq => ?_, ?_, ?_, ?_, ?_, H4.op⟩
        · show F6 d (cq q) = Am8 (rq q) (Fm1 19).toInt.toNat
          rw [f d (cq q) (fun e => hd3 e.1) (fun e => (cq_lt hq).2.2 e.2), a8.2.2.1 _ (by have := rq_in q; omega)]
          exact H4.cn q hq
        · show F6 d 14 = Am8 12 (Fm1 19).toInt.toNat
          refine i_ext ?_
          have w : (Am8 12 (Fm1 19).toInt.toNat).toInt = (v7 + 1).toInt := a8.2.2.2.1
          rw [w, a7.2.2, ← H4.dr, U6.1, U5.2 d 14 (fun e => hd3 e.1)]
        · show F6 37 9 = Am8 33 (Fm1 19).toInt.toNat
          rw [f 37 9 (fun e => absurd e.1 (by decide)) (fun e => hd e.1.symm), a8.2.2.1 33 (by decide)]
          exact H4.lw
        · show ∀ k : Int, 0 ≤ k → k < (F6 d 16).toInt → ci A4 d 5 k = ai Am8 22 (6 * (Fm1 19).toInt + k)
          rw [f d 16 (fun e => hd3 e.1) (fun e => absurd e.2 (by decide)), ai_fr (a8.2.2.1 22 (by decide))]
          exact H4.sc
        · exact H4.nr.fr (fun q hq => f d (cq q) (fun e => hd3 e.1) (fun e => (cq_lt hq).2.2 e.2)) (fun _ _ => rfl) rfl (a8.2.2.1 9 (by decide)) (a8.2.2.1 10 (by decide)) rfl
    exact p2_cl (fun _ => fin _) (fun _ => fin _)
  · refine p2_ff E ?_ ?_
    · (simp only [hc, new_0, new_1, new_2, new_3, known_0, known_1, known_2, known_3, gnew_ff E.c, gknown_ff E.c, e_num_ff E.c, e_take_ff E.c, e_next_ff E.c, Option.bind_some, cz_00, cond_true]; exact po_some rfl)
    · (dsimp only; rw [FE.nz E, cond_true]; exact po_some rfl)
/-- a door: behind its rooms -/
theorem qd_tail {ix : Int32} (K : TKs T) (R : RT T F Fm) (X : RX T A J Am Jm) (H : RH d F A J Fm Am Jm) (h5 : P 37 5 = d) (h6 : P 37 6 = 3) (hk : c_kind d = 6) : P2 (e_Reader_readDoor_60 n P F A J x1 x2) (d_tellDoor_82 m Fm Am Jm ix) (RS T d P) := by
  have hd := kd37 hk
  have hc := chk_in h5 hk
  have n0 : vp_nar .boolean (0 : Int32) = 0 := by decide
  have n1 : vp_nar .boolean (1 : Int32) = 1 := by decide
  unfold e_Reader_readDoor_60 d_tellDoor_82
  refine p2_num K R X (fun F1 Fm1 V1 _ => ?_) (fun v F1 Fm1 fc fm E => ?_)
  · have H1 := V1.h hd H
    dsimp only
    refine p2_br (fun Am2 e2 => ?_)
    have a2 := gg_st e2
    have X2 := X.a (Am' := Am2) (fun q hq => a2.2.2.1 q (by omega))
    have H2 := H1.a (Am' := Am2) (fun q hq => a2.2.2.1 q (by omega))
    rw [V1.rt.nz, cond_false]
    refine p2_next K V1.rt X2 (k' := 22) (by decide) (fun hm => ?_) (fun _ => ?_)
    · rw [cz_10, cond_false, cond_false]
      unfold d_tellDoor_121
      refine p2_br (fun Am3 e3 => ?_)
      have a3 := gg_st e3
      have X3 := X2.a (Am' := Am3) (fun q hq => a3.2.2.1 q (by omega))
      have H3 := H2.a (Am' := Am3) (fun q hq => a3.2.2.1 q (by omega))
      refine p2_br (fun v4 e4 => ?_)
      have a4 := gg_ld e4
      have v4e : v4.toInt = 1 := by
        have w : (Am3 16 ix.toInt.toNat).toInt = (vp_nar .boolean (1 : Int32)).toInt := a3.2.2.2.1
        rw [a4.2.2, w, n1]; decide
      rw [i_neq.mpr (by rw [v4e]; decide), cond_false]
      refine p2_goes (k' := 22) K V1.rt X3 (by decide) (by decide) (by rw [a3.2.2.1 3 (by decide)]; exact hm) (fun F5 Fm5 U5 => ?_) (fun F5 Fm5 fc fm E => ?_)
      · dsimp only
        rw [cz_10, cond_false]
        exact qd_end K U5.rt X3 (U5.v.h hd H3) h5 h6 hk
      · refine p2_ff E ?_ ?_
        · unfold e_Reader_readDoor_90 e_Reader_readDoor_91
          (simp only [hc, new_0, new_1, new_2, new_3, known_0, known_1, known_2, known_3, gnew_ff E.c, gknown_ff E.c, e_num_ff E.c, e_take_ff E.c, e_next_ff E.c, Option.bind_some, cz_00, cond_true]; exact po_some rfl)
        · dsimp only
          rw [d_must_ff E.2, Option.bind_some]
          (dsimp only; rw [FE.nz E, cond_true]; exact po_some rfl)
    · rw [cz_00, cond_true, cond_true]
      unfold d_tellDoor_120 d_tellDoor_121 d_tellDoor_135 e_Reader_readDoor_90
      refine p2_br (fun Am3 e3 => ?_)
      have a3 := gg_st e3
      have X3 := X2.a (Am' := Am3) (fun q hq => a3.2.2.1 q (by omega))
      have H3 := H2.a (Am' := Am3) (fun q hq => a3.2.2.1 q (by omega))
      refine p2_br (fun v4 e4 => ?_)
      have a4 := gg_ld e4
      have v4e : v4.toInt = 0 := by
        have w : (Am3 16 ix.toInt.toNat).toInt = (vp_nar .boolean (0 : Int32)).toInt := a3.2.2.2.1
        rw [a4.2.2, w, n0]; decide
      rw [i_eq.mpr (by rw [v4e]; decide), cond_true]
      exact qd_end K V1.rt X3 H3 h5 h6 hk
  · refine p2_ff E ?_ ?_
    · unfold e_Reader_readDoor_90 e_Reader_readDoor_91
      (simp only [hc, new_0, new_1, new_2, new_3, known_0, known_1, known_2, known_3, gnew_ff E.c, gknown_ff E.c, e_num_ff E.c, e_take_ff E.c, e_next_ff E.c, Option.bind_some, cz_00, cond_true]; exact po_some rfl)
    · dsimp only
      refine po_bl (fun Am2 e2 => ?_)
      rw [E.nz, cond_true]
      unfold d_tellDoor_120 d_tellDoor_121 d_tellDoor_135
      refine po_bl (fun Am3 e3 => ?_)
      have a3 := gg_st e3
      refine po_bl (fun v4 e4 => ?_)
      have a4 := gg_ld e4
      have v4e : v4.toInt = 0 := by
        have w : (Am3 16 ix.toInt.toNat).toInt = (vp_nar .boolean (0 : Int32)).toInt := a3.2.2.2.1
        rw [a4.2.2, w, n0]; decide
      rw [i_eq.mpr (by rw [v4e]; decide), cond_true, d_must_ff E.2, Option.bind_some]
      (dsimp only; rw [FE.nz E, cond_true]; exact po_some rfl)
theorem d_door_ff {ix : Int32} (E : FE F Fm) : po (d_tellDoor_82 m Fm Am Jm ix) (fun b => b.2.1 13 = Fm 13) := by
  have n0 : vp_nar .boolean (0 : Int32) = 0 := by decide
  unfold d_tellDoor_82
  rw [d_num_ff E.2, Option.bind_some]
  dsimp only
  refine po_bl (fun Am2 e2 => ?_)
  rw [E.nz, cond_true]
  unfold d_tellDoor_120 d_tellDoor_121 d_tellDoor_135
  refine po_bl (fun Am3 e3 => ?_)
  have a3 := gg_st e3
  refine po_bl (fun v4 e4 => ?_)
  have a4 := gg_ld e4
  have v4e : v4.toInt = 0 := by
    have w : (Am3 16 ix.toInt.toNat).toInt = (vp_nar .boolean (0 : Int32)).toInt := a3.2.2.2.1
    rw [a4.2.2, w, n0]; decide
  rw [i_eq.mpr (by rw [v4e]; decide), cond_true, d_must_ff E.2, Option.bind_some]
  (dsimp only; rw [FE.nz E, cond_true]; exact po_some rfl)
/-- a door is told -/
theorem q_door (K : TKs T) (R : RT T F Fm) (X : RX T A J Am Jm) (H : RH d F A J Fm Am Jm) (h5 : P 37 5 = d) (h6 : P 37 6 = 3) (hk : c_kind d = 6) (b14 : (F d 14).toInt ≤ 12) (hm : (Am 3 (Fm 11).toInt.toNat).toInt = (21 : Int32).toInt) : P2 (e_Reader_readDoor n P F A J) ((d_roomFor Fm Am Jm (Am 12 (Fm 19).toInt.toNat) 12).bind fun (_, F5, A6, J7) => cond (g_cnd .ne (F5 13) 0) (some ((), F5, A6, J7)) ((d_tellDoor m F5 A6 J7).bind fun (_, F10, A11, J12) => some ((), F10, A11, J12))) (RS T d P) := by
  have hd := kd37 hk
  have hc := chk_in h5 hk
  have l12 : (12 : Int32).toInt = 12 := by decide
  unfold e_Reader_readDoor
  rw [hc, Option.bind_some, ← H.dr]
  refine p2_first (k' := 21) K R X (by decide) (by decide) hm (by omega) (fun F1 Fm1 U1 hx => ?_) (fun F1 Fm1 fc fm E => ?_)
  · have R1 := U1.rt
    have H1 := U1.v.h hd H
    dsimp only
    rw [hc, Option.bind_some, R1.nz, cond_false, known_0]
    refine p2_eta ?_
    unfold d_tellDoor
    refine p2_br (fun v1 ev1 => ?_)
    refine p2_known (q := 0) (by decide) (by decide) K R1 X H1.nr (fun v2 F2 Fm2 V2 _ hv2 => ?_) (fun F2 Fm2 fc fm E _ => ?_)
    · have H2 := V2.h hd H1
      dsimp only
      refine p2_br (fun Am3 e3 => ?_)
      have a3 := gg_st e3
      have X3 := X.a (Am' := Am3) (fun q hq => a3.2.2.1 q (by omega))
      have H3 := H2.a (Am' := Am3) (fun q hq => a3.2.2.1 q (by omega))
      rw [hc, Option.bind_some, known_0]
      refine p2_known (q := 0) (by decide) (by decide) K V2.rt X3 H3.nr (fun v4 F4 Fm4 V4 _ hv4 => ?_) (fun F4 Fm4 fc fm E _ => ?_)
      · have H4 := V4.h hd H3
        dsimp only
        refine p2_br (fun Am5 e5 => ?_)
        have a5 := gg_st e5
        have X5 := X3.a (Am' := Am5) (fun q hq => a5.2.2.1 q (by omega))
        have H5 := H4.a (Am' := Am5) (fun q hq => a5.2.2.1 q (by omega))
        rw [V4.rt.nz, cond_false]
        refine p2_br (fun v13 e13 => ?_)
        have a13 := gg_ld e13
        have v13e : v13 = v2 := by
          refine i_ext ?_
          have w : (Am3 13 (12 * Fm1 19 + v1).toInt.toNat).toInt = v2.toInt := a3.2.2.2.1
          rw [a13.2.2, a5.2.2.1 13 (by decide), w]
        subst v13e
        by_cases c1 : v13.toInt < 0
        · rw [i_lt.mpr (by rw [i_0]; exact c1), cond_true, cond_true]
          exact qd_tail K V4.rt X5 H5 h5 h6 hk
        · rw [i_nlt.mpr (by rw [i_0]; omega), cond_false, cond_false, e13, Option.bind_some]
          refine p2_br (fun v16 e16 => ?_)
          have a16 := gg_ld e16
          have v16e : v16 = v4 := by
            refine i_ext ?_
            have w : (Am5 14 (12 * Fm1 19 + v1).toInt.toNat).toInt = v4.toInt := a5.2.2.2.1
            rw [a16.2.2, w]
          subst v16e
          by_cases c2 : v13.toInt = v16.toInt
          · rw [i_nne.mpr c2, cond_false, cond_false]
            rcases hv4 with ⟨_, _, U4⟩ | ⟨rfl, _⟩
            · obtain ⟨F6, Fm6, b1, b2, V6⟩ := U4.late (P := P) (k := 5) K V2.rt X5
              rw [b1, b2, Option.bind_some, Option.bind_some]
              exact qd_tail K V6.rt X5 (V6.h hd (H3.a (Am' := Am5) (fun q hq => a5.2.2.1 q (by omega)))) h5 h6 hk
            · exact absurd (show (-1 : Int32).toInt = -1 by decide) (by omega)
          · rw [i_ne.mpr c2, cond_true, cond_true]
            exact qd_tail K V4.rt X5 H5 h5 h6 hk
      · refine p2_ff E ?_ ?_
        · dsimp only
          refine po_cond (fun _ => ?_) (fun _ => po_cond (fun _ => ?_) (fun h => ?_))
          · unfold e_Reader_readDoor_60 e_Reader_readDoor_90 e_Reader_readDoor_91
            (simp only [hc, new_0, new_1, new_2, new_3, known_0, known_1, known_2, known_3, gnew_ff E.c, gknown_ff E.c, e_num_ff E.c, e_take_ff E.c, e_next_ff E.c, Option.bind_some, cz_00, cond_true]; exact po_some rfl)
          · unfold e_Reader_readDoor_60 e_Reader_readDoor_90 e_Reader_readDoor_91
            (simp only [hc, new_0, new_1, new_2, new_3, known_0, known_1, known_2, known_3, gnew_ff E.c, gknown_ff E.c, e_num_ff E.c, e_take_ff E.c, e_next_ff E.c, Option.bind_some, cz_00, cond_true]; exact po_some rfl)
          · rw [i_nne] at h
            rename_i c1
            rw [i_nlt, h] at c1
            exact absurd c1 (by decide)
        · dsimp only
          refine po_bl (fun Am5 e5 => ?_)
          rw [E.nz, cond_true]
          exact d_door_ff E
    · refine p2_ff E ?_ ?_
      · dsimp only
        simp only [hc, known_0, gknown_ff E.c, Option.bind_some]
        rw [i_lt.mpr (by decide), cond_true]
        unfold e_Reader_readDoor_60 e_Reader_readDoor_90 e_Reader_readDoor_91
        (simp only [hc, new_0, new_1, new_2, new_3, known_0, known_1, known_2, known_3, gnew_ff E.c, gknown_ff E.c, e_num_ff E.c, e_take_ff E.c, e_next_ff E.c, Option.bind_some, cz_00, cond_true]; exact po_some rfl)
      · dsimp only
        refine po_bl (fun Am3 e3 => ?_)
        rw [d_known_ff E.2, Option.bind_some]
        dsimp only
        refine po_bl (fun Am5 e5 => ?_)
        rw [E.nz, cond_true]
        exact d_door_ff E
  · refine p2_ff E ?_ ?_
    · simp only [hc, known_0, gknown_ff E.c, Option.bind_some]
      rw [i_lt.mpr (by decide), cond_true]
      unfold e_Reader_readDoor_60 e_Reader_readDoor_90 e_Reader_readDoor_91
      (simp only [hc, new_0, new_1, new_2, new_3, known_0, known_1, known_2, known_3, gnew_ff E.c, gknown_ff E.c, e_num_ff E.c, e_take_ff E.c, e_next_ff E.c, Option.bind_some, cz_00, cond_true]; exact po_some rfl)
    · (dsimp only; rw [FE.nz E, cond_true]; exact po_some rfl)
/-- the night's length is told -/
theorem q_night (K : TKs T) (R : RT T F Fm) (X : RX T A J Am Jm) (H : RH d F A J Fm Am Jm) (h5 : P 37 5 = d) (hk : c_kind d = 6) (hm : (Am 3 (Fm 11).toInt.toNat).toInt = (34 : Int32).toInt) : P2 (e_Reader_readNight P F A J) ((d_goesOn Fm Am Jm).bind fun (_, F100, A101, J102) => (d_bounded F100 A101 J102 1 600).bind fun (v103, F104, A105, J106) => (m_st A105 41 2 (F100 19) v103).bind fun A107 => (d_must F104 A107 J106 4).bind fun (_, F109, A110, J111) => some ((), F109, A110, J111)) (RS T d P) := by
  have hd := kd37 hk
  have hc := chk_in h5 hk
  unfold e_Reader_readNight
  refine p2_goes (k' := 34) K R X (by decide) (by decide) hm (fun F1 Fm1 U1 => ?_) (fun F1 Fm1 fc fm E => ?_)
  · have H1 := U1.v.h hd H
    dsimp only
    rw [hc, Option.bind_some]
    refine p2_num K U1.rt X (fun F2 Fm2 V2 _ => ?_) (fun v F2 Fm2 fc fm E => ?_)
    · have H2 := V2.h hd H1
      dsimp only
      refine p2_bl (fun F3 e3 => ?_)
      have U3 := gg_cpf e3
      refine p2_br (fun Am4 e4 => ?_)
      have a4 := gg_st e4
      have X4 := X.a (Am' := Am4) (fun q hq => a4.2.2.1 q (by omega))
      have H4 : RH d F3 A J Fm2 Am4 Jm := H2.fr (fun k h1 h2 => U3.2 d k (fun e => by omega)) (U3.2 37 9 (fun e => hd e.1.symm)) rfl (fun _ _ => rfl) rfl rfl rfl (fun q hq => a4.2.2.1 q (by omega)) rfl
      have R4 : RT T F3 Fm2 := V2.rt.cg (fun k _ => U3.2 37 k (fun e => hd e.1.symm)) (fun _ _ => rfl)
      refine p2_take K R4 X4 (by decide) (by decide) (fun F5 Fm5 U5 _ => ?_) (fun F5 Fm5 fc fm E _ => ?_)
      · exact p2_some (.inr ⟨U5.rt, X4, U5.v.h hd H4⟩)
      · exact p2_some (.inl E)
    · have e10 : ∀ {F3 : Nat → Nat → Int32} {x : Int32}, c_pf F2 d 18 x = some F3 → F3 37 10 = F2 37 10 := fun e => (gg_cpf e).2 37 10 (fun e => hd e.1.symm)
      refine p2_ff E ?_ ?_
      · dsimp only
        refine po_bl (fun F3 e3 => ?_)
        rw [e_take_ff (by rw [e10 e3]; exact E.c), Option.bind_some]
        exact po_some (e10 e3)
      · ((try dsimp only); repeat' (first | exact po_some rfl | rw [FE.nz E, cond_true] | rw [FE.le E, cond_false] | rw [FE.gt E, cond_true] | rw [d_must_ff (FE.gg E), Option.bind_some] | rw [d_known_ff (FE.gg E), Option.bind_some] | rw [d_num_ff (FE.gg E), Option.bind_some] | rw [d_is_ff (FE.gg E), Option.bind_some] | (refine po_call (d_named_ff (FE.gg E)) ?_; rintro _ rfl; try dsimp only) | refine po_cond (fun _ => ?_) (fun _ => ?_) | refine po_bl (fun _ _ => ?_)))
  · refine p2_ff E ?_ ?_
    · dsimp only
      rw [hc, Option.bind_some, e_num_ff E.c, Option.bind_some]
      dsimp only
      refine po_bl (fun F3 e3 => ?_)
      have e10 : F3 37 10 = F1 37 10 := (gg_cpf e3).2 37 10 (fun e => hd e.1.symm)
      rw [e_take_ff (by rw [e10]; exact E.c), Option.bind_some]
      exact po_some e10
    · ((try dsimp only); repeat' (first | exact po_some rfl | rw [FE.nz E, cond_true] | rw [FE.le E, cond_false] | rw [FE.gt E, cond_true] | rw [d_must_ff (FE.gg E), Option.bind_some] | rw [d_known_ff (FE.gg E), Option.bind_some] | rw [d_num_ff (FE.gg E), Option.bind_some] | rw [d_is_ff (FE.gg E), Option.bind_some] | (refine po_call (d_named_ff (FE.gg E)) ?_; rintro _ rfl; try dsimp only) | refine po_cond (fun _ => ?_) (fun _ => ?_) | refine po_bl (fun _ _ => ?_)))
end A8
