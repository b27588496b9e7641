section A8
variable {T : TS} {d n m q : Nat} {P : Nat → Nat → Nat} {F F' : Nat → Nat → Int32} {A A' : Nat → Nat → Nat → Int32} {J J' : Nat → Nat → Nat → Int64} {Fm Fm' : Nat → Int32} {Am Am' : Nat → Nat → Int32} {Jm Jm' : Nat → Nat → Int64} {k k' x1 x2 x3 s0 : Int32}
/-- the end of a door's sentence -/
theorem qd_end (K : TKs T) (R : RT T F Fm) (X : RX T A J Am Jm) (H : RH d F A J Fm Am Jm) (W : RW d F A Fm Am) (b0 : 0 ≤ (F d 14).toInt ∧ (F d 14).toInt < 12) (z1 : ai Am 13 (12 * (Fm 19).toInt + (F d 14).toInt) = x1.toInt) (z2 : ai Am 14 (12 * (Fm 19).toInt + (F d 14).toInt) = x2.toInt) (z3 : ai Am 15 (12 * (Fm 19).toInt + (F d 14).toInt) = x3.toInt) (z4 : s0.toInt = 0 ∧ ai Am 16 (12 * (Fm 19).toInt + (F d 14).toInt) = 0 ∨ s0.toInt ≠ 0 ∧ ai Am 16 (12 * (Fm 19).toInt + (F d 14).toInt) ≠ 0) (h5 : P 37 5 = d) (h6 : P 37 6 = 3) (hk : c_kind d = 6) : P2 (e_Reader_readDoor_91 n P F A J x1 x2 x3 s0) ((d_must Fm Am Jm 4).bind fun (_, F53, A54, J55) => cond (g_cnd .ne (F53 13) 0) (some ((), F53, A54, J55)) ((m_ld (A54 12) 2 (F53 19)).bind fun v57 => (m_st A54 12 2 (F53 19) (v57 + 1)).bind fun A58 => some ((), F53, A58, J55))) (RS T d P) := by
  have hd := kd37 hk
  have hd3 := kd3 hk
  have hc := chk_in h5 hk
  unfold e_Reader_readDoor_91
  refine p2_take K R X (by decide) (by decide) (fun F1 Fm1 U1 _ => ?_) (fun F1 Fm1 fc fm E _ => ?_)
  · have H1 := U1.v.h hd H
    dsimp only
    rw [cz_10, cond_false, U1.rt.nz, cond_false, hc, Option.bind_some, Option.bind_some]
    refine p2_bl (fun A2 e2 => ?_)
    have a2 := (gg_cst e2).2.2
    rw [Option.bind_some]
    refine p2_bl (fun A3 e3 => ?_)
    have a3 := (gg_cst e3).2.2
    rw [Option.bind_some]
    refine p2_bl (fun A4 e4 => ?_)
    have a4 := (gg_cst e4).2.2
    refine p2_bl (fun q5 e5 => ?_)
    obtain ⟨-, rfl⟩ := gg_chk e5
    rw [h6]
    have o37 : ∀ o, A4 37 o = A 37 o := fun o => by rw [a4.2.2 37 o (fun e => hd e.1.symm), a3.2.2 37 o (fun e => hd e.1.symm), a2.2.2 37 o (fun e => hd e.1.symm)]
    have o5 : A4 d 5 = A d 5 := by rw [a4.2.2 d 5 (fun e => absurd e.2 (by decide)), a3.2.2 d 5 (fun e => absurd e.2 (by decide)), a2.2.2 d 5 (fun e => absurd e.2 (by decide))]
    have X4 := X.ca (A' := A4) o37
    have H4 : RH d F1 A4 J Fm1 Am Jm := H1.fr (fun _ _ _ => rfl) rfl o5 (fun _ _ => rfl) rfl rfl rfl (fun _ _ => rfl) rfl
    have e14 := U1.dg hd 14
    have e19 : Fm1 19 = Fm 19 := U1.fm 19 (by decide)
    have W1 : RW d F1 A Fm1 Am := W.v H.s0 hd U1.c U1.m
    have of14 : Int32.ofNat (F1 d 14).toInt.toNat = F1 d 14 := i_ext (by rw [Int32.toInt_ofNat_of_lt (by rw [e14]; omega), e14]; omega)
    have fin : ∀ s2, s2 = (if ai Am 16 (12 * (Fm1 19).toInt + (F1 d 14).toInt) = 0 then 0 else (1 : Int32) <<< (F1 d 14 &&& 31)) → P2 (e_Reader_readDoor_165 n P F1 A4 J 3 (F1 3 7) s2) ((m_ld (Am 12) 2 (Fm1 19)).bind fun v57 => (m_st Am 12 2 (Fm1 19) (v57 + 1)).bind fun A58 => some ((), Fm1, A58, Jm)) (RS T d P) := by
      intro s2 hs2
      unfold e_Reader_readDoor_165
      refine p2_bl (fun F5 e5 => ?_)
      have U5 := gg_cpf e5
      rw [hc, Option.bind_some]
      refine p2_bl (fun F6 e6 => ?_)
      have U6 := gg_cpf e6
      refine p2_br (fun v7 e7 => ?_)
      have a7 := gg_ld e7
      refine p2_br (fun Am8 e8 => ?_)
      have a8 := gg_st e8
      have f : ∀ r k, ¬ (r = 3 ∧ k = 7) → ¬ (r = d ∧ k = 14) → F6 r k = F1 r k := fun r k h h' => by rw [U6.2 r k h', U5.2 r k h]
      refine p2_some (.inr ⟨?_, ?_, ?_, ?_⟩)
      · exact U1.rt.cg (fun k _ => f 37 k (fun e => absurd e.1 (by decide)) (fun e => hd e.1.symm)) (fun _ _ => rfl)
      · exact X4.a (fun q hq => a8.2.2.1 q (by omega))
      · refine ⟨H4.s0, H4.s1, fun q hq => ?_, ?_, ?_, ?_, ?_, H4.op⟩
        · show F6 d (cq q) = Am8 (rq q) (Fm1 19).toInt.toNat
          rw [f d (cq q) (fun e => hd3 e.1) (fun e => (cq_lt hq).2.2 e.2), a8.2.2.1 _ (by have := rq_in q; omega)]
          exact H4.cn q hq
        · show F6 d 14 = Am8 12 (Fm1 19).toInt.toNat
          refine i_ext ?_
          have w : (Am8 12 (Fm1 19).toInt.toNat).toInt = (v7 + 1).toInt := a8.2.2.2.1
          rw [w, a7.2.2, ← H4.dr, U6.1, U5.2 d 14 (fun e => hd3 e.1)]
        · show F6 37 9 = Am8 33 (Fm1 19).toInt.toNat
          rw [f 37 9 (fun e => absurd e.1 (by decide)) (fun e => hd e.1.symm), a8.2.2.1 33 (by decide)]
          exact H4.lw
        · show ∀ k : Int, 0 ≤ k → k < (F6 d 16).toInt → ci A4 d 5 k = ai Am8 22 (6 * (Fm1 19).toInt + k)
          rw [f d 16 (fun e => hd3 e.1) (fun e => absurd e.2 (by decide)), ai_fr (a8.2.2.1 22 (by decide))]
          exact H4.sc
        · exact H4.nr.fr (fun q hq => f d (cq q) (fun e => hd3 e.1) (fun e => (cq_lt hq).2.2 e.2)) (fun _ _ => rfl) rfl (a8.2.2.1 9 (by decide)) (a8.2.2.1 10 (by decide)) rfl
      · obtain ⟨w1, w2, w3, w4, w5, w6, w7⟩ := W1
        have g : ∀ k, k ≠ 14 → F6 d k = F1 d k := fun k hk => f d k (fun e => hd3 e.1) (fun e => hk e.2)
        have m8 : ∀ q, q ≠ 12 → Am8 q = Am q := fun q hq => a8.2.2.1 q hq
        have l4 : ∀ o, 4 ≤ o → A4 d o = A d o := fun o ho => by rw [a4.2.2 d o (fun e => by omega), a3.2.2 d o (fun e => by omega), a2.2.2 d o (fun e => by omega)]
        have t4 : ∀ o, A4 3 o = A 3 o := fun o => by rw [a4.2.2 3 o (fun e => hd3 e.1.symm), a3.2.2 3 o (fun e => hd3 e.1.symm), a2.2.2 3 o (fun e => hd3 e.1.symm)]
        have c14 : (F6 d 14).toInt = (F1 d 14).toInt + 1 := by rw [U6.1, U5.2 d 14 (fun e => hd3 e.1), i_add (by rw [i_1, e14]; omega) (by rw [i_1, e14]; omega), i_1]
        have r1 : A4 d 1 = A2 d 1 := by rw [a4.2.2 d 1 (fun e => absurd e.2 (by decide)), a3.2.2 d 1 (fun e => absurd e.2 (by decide))]
        have r2 : A4 d 2 = A3 d 2 := a4.2.2 d 2 (fun e => absurd e.2 (by decide))
        have r2' : A2 d 2 = A d 2 := a2.2.2 d 2 (fun e => absurd e.2 (by decide))
        have r3' : A3 d 3 = A d 3 := by rw [a3.2.2 d 3 (fun e => absurd e.2 (by decide)), a2.2.2 d 3 (fun e => absurd e.2 (by decide))]
        have base : RWc ((F1 d 14).toInt + 1) (F1 d 15).toInt (F1 d 16).toInt (F1 d 17).toInt d F6 A4 Fm1 Am := by
          refine ⟨w1.add (by rw [e14]; exact b0.1) (fun k k0 k1 => by rw [ci_fr r1]; exact a2.2.1 k k0 (by omega)) (fun k k0 k1 => by rw [ci_fr r2, a3.2.1 k k0 (by omega), ci_fr r2']) (fun k k0 k1 => by rw [a4.2.1 k k0 (by omega), ci_fr r3']) ?_ ?_ ?_ ?_, w2.ca (t4 4), w3.ca (l4 4 (by decide)) (t4 2), w4.ca (fun o ho _ => l4 o (by omega)), w5.ca (l4 12 (by decide)) (t4 3), ⟨?_, ?_, ?_⟩, ?_⟩
          · rw [ci_fr r1, a2.1, e19, e14, z1]
          · rw [ci_fr r2, a3.1, e19, e14, z2]
          · rw [a4.1, e19, e14, z3]
          · rw [U6.2 3 7 (fun e => hd3 e.1.symm), U5.1, hs2, of14]
            split
            · exact Int32.or_zero
            · rfl
          · intro k k0 k1; rw [ci_fr (t4 1)]; exact w6.1 k k0 k1
          · intro k k0 k1; rw [ci_fr (t4 5), ci_fr (t4 6), ci_fr (t4 7)]; exact w6.2.1 k k0 k1
          · rw [f 3 8 (by omega) (by omega)]; exact w6.2.2
          · show F6 d 18 = _
            rw [g 18 (by decide)]
            exact w7
        show RWc (F6 d 14).toInt (F6 d 15).toInt (F6 d 16).toInt (F6 d 17).toInt d F6 A4 Fm1 Am8
        rw [c14, g 15 (by decide), g 16 (by decide), g 17 (by decide)]
        exact base.m H1.s0 rfl (fun j i h => by rw [ai_fr (m8 j (by have h := RLg.cs h; omega))])
    rw [← e19, ← e14] at z4
    refine p2_cl (fun c => fin _ ?_) (fun c => fin _ ?_)
    · rw [i_eq, i_0] at c
      rcases z4 with ⟨_, h⟩ | ⟨h, _⟩
      · rw [if_pos h]
      · exact absurd c h
    · rw [i_neq, i_0] at c
      rcases z4 with ⟨h, _⟩ | ⟨_, h⟩
      · exact absurd h c
      · rw [if_neg h]
  · refine p2_ff E ?_ ?_
    · (simp only [hc, new_0, new_1, new_2, new_3, known_0, known_1, known_2, known_3, gnew_ff E.c, gknown_ff E.c, e_num_ff E.c, e_take_ff E.c, e_next_ff E.c, Option.bind_some, cz_00, cond_true]; exact po_some rfl)
    · (dsimp only; rw [FE.nz E, cond_true]; exact po_some rfl)
/-- a door: behind its rooms -/
theorem qd_tail {ix : Int32} (K : TKs T) (R : RT T F Fm) (X : RX T A J Am Jm) (H : RH d F A J Fm Am Jm) (W : RW d F A Fm Am) (b0 : 0 ≤ (F d 14).toInt ∧ (F d 14).toInt < 12) (hx : ix.toInt = 12 * (Fm 19).toInt + (F d 14).toInt) (z1 : ai Am 13 ix.toInt = x1.toInt) (z2 : ai Am 14 ix.toInt = x2.toInt) (h5 : P 37 5 = d) (h6 : P 37 6 = 3) (hk : c_kind d = 6) : P2 (e_Reader_readDoor_60 n P F A J x1 x2) (d_tellDoor_82 m Fm Am Jm ix) (RS T d P) := by
  have hd := kd37 hk
  have hc := chk_in h5 hk
  have n0 : vp_nar .boolean (0 : Int32) = 0 := by decide
  have n1 : vp_nar .boolean (1 : Int32) = 1 := by decide
  unfold e_Reader_readDoor_60 d_tellDoor_82
  refine p2_num K R X (fun F1 Fm1 V1 _ => ?_) (fun v F1 Fm1 fc fm E => ?_)
  · have H1 := V1.h hd H
    dsimp only
    refine p2_br (fun Am2 e2 => ?_)
    have a2 := gg_st e2
    have X2 := X.a (Am' := Am2) (fun q hq => a2.2.2.1 q (by omega))
    have H2 := H1.a (Am' := Am2) (fun q hq => a2.2.2.1 q (by omega))
    have s0 := H1.s0
    have e14 := V1.dg hd 14
    have e19 : Fm1 19 = Fm 19 := V1.fm 19 (by decide) (by decide) (by decide) (by decide) (by decide)
    have hx1 : ix.toInt = 12 * (Fm1 19).toInt + (F1 d 14).toInt := by rw [e19, e14]; exact hx
    have W2 : RW d F1 A Fm1 Am2 := RWc.st (W.v H.s0 hd V1.fc V1.fm) s0 a2.2.2.1 a2.2.2.2.2 (fun i h => by have h := RLg.cs h; rw [hx1]; omega)
    rw [V1.rt.nz, cond_false]
    refine p2_next K V1.rt X2 (k' := 22) (by decide) (fun hm => ?_) (fun _ => ?_)
    · rw [cz_10, cond_false, cond_false]
      unfold d_tellDoor_121
      refine p2_br (fun Am3 e3 => ?_)
      have a3 := gg_st e3
      have X3 := X2.a (Am' := Am3) (fun q hq => a3.2.2.1 q (by omega))
      have H3 := H2.a (Am' := Am3) (fun q hq => a3.2.2.1 q (by omega))
      have W3 : RW d F1 A Fm1 Am3 := RWc.st W2 s0 a3.2.2.1 a3.2.2.2.2 (fun i h => by have h := RLg.cs h; rw [hx1]; omega)
      have y1 : ai Am3 13 ix.toInt = x1.toInt := by rw [ai_fr (a3.2.2.1 13 (by decide)), ai_fr (a2.2.2.1 13 (by decide))]; exact z1
      have y2 : ai Am3 14 ix.toInt = x2.toInt := by rw [ai_fr (a3.2.2.1 14 (by decide)), ai_fr (a2.2.2.1 14 (by decide))]; exact z2
      have y3 := a2.2.2.2.1
      rw [← ai_fr (a3.2.2.1 15 (by decide))] at y3
      have y4 := a3.2.2.2.1
      refine p2_br (fun v4 e4 => ?_)
      have a4 := gg_ld e4
      have v4e : v4.toInt = 1 := by
        have w : (Am3 16 ix.toInt.toNat).toInt = (vp_nar .boolean (1 : Int32)).toInt := a3.2.2.2.1
        rw [a4.2.2, w, n1]; decide
      rw [i_neq.mpr (by rw [v4e]; decide), cond_false]
      refine p2_goes (k' := 22) K V1.rt X3 (by decide) (by decide) (by rw [a3.2.2.1 3 (by decide)]; exact hm) (fun F5 Fm5 U5 => ?_) (fun F5 Fm5 fc fm E => ?_)
      · dsimp only
        rw [cz_10, cond_false]
        have hx5 : ix.toInt = 12 * (Fm5 19).toInt + (F5 d 14).toInt := by rw [U5.fm 19 (by decide), U5.dg hd 14]; exact hx1
        rw [n1] at y4
        rw [hx5] at y1 y2 y3 y4
        exact qd_end K U5.rt X3 (U5.v.h hd H3) (W3.v s0 hd U5.c U5.m) (by rw [U5.dg hd 14, e14]; exact b0) y1 y2 y3 (.inr ⟨by decide, by rw [y4]; decide⟩) h5 h6 hk
      · refine p2_ff E ?_ ?_
        · unfold e_Reader_readDoor_90 e_Reader_readDoor_91
          (simp only [hc, new_0, new_1, new_2, new_3, known_0, known_1, known_2, known_3, gnew_ff E.c, gknown_ff E.c, e_num_ff E.c, e_take_ff E.c, e_next_ff E.c, Option.bind_some, cz_00, cond_true]; exact po_some rfl)
        · dsimp only
          rw [d_must_ff E.2, Option.bind_some]
          (dsimp only; rw [FE.nz E, cond_true]; exact po_some rfl)
    · rw [cz_00, cond_true, cond_true]
      unfold d_tellDoor_120 d_tellDoor_121 d_tellDoor_135 e_Reader_readDoor_90
      refine p2_br (fun Am3 e3 => ?_)
      have a3 := gg_st e3
      have X3 := X2.a (Am' := Am3) (fun q hq => a3.2.2.1 q (by omega))
      have H3 := H2.a (Am' := Am3) (fun q hq => a3.2.2.1 q (by omega))
      have W3 : RW d F1 A Fm1 Am3 := RWc.st W2 s0 a3.2.2.1 a3.2.2.2.2 (fun i h => by have h := RLg.cs h; rw [hx1]; omega)
      have y1 : ai Am3 13 ix.toInt = x1.toInt := by rw [ai_fr (a3.2.2.1 13 (by decide)), ai_fr (a2.2.2.1 13 (by decide))]; exact z1
      have y2 : ai Am3 14 ix.toInt = x2.toInt := by rw [ai_fr (a3.2.2.1 14 (by decide)), ai_fr (a2.2.2.1 14 (by decide))]; exact z2
      have y3 := a2.2.2.2.1
      rw [← ai_fr (a3.2.2.1 15 (by decide))] at y3
      have y4 := a3.2.2.2.1
      refine p2_br (fun v4 e4 => ?_)
      have a4 := gg_ld e4
      have v4e : v4.toInt = 0 := by
        have w : (Am3 16 ix.toInt.toNat).toInt = (vp_nar .boolean (0 : Int32)).toInt := a3.2.2.2.1
        rw [a4.2.2, w, n0]; decide
      rw [i_eq.mpr (by rw [v4e]; decide), cond_true]
      rw [n0] at y4
      rw [hx1] at y1 y2 y3 y4
      exact qd_end K V1.rt X3 H3 W3 (by rw [e14]; exact b0) y1 y2 y3 (.inl ⟨by decide, by rw [y4]; decide⟩) h5 h6 hk
  · refine p2_ff E ?_ ?_
    · unfold e_Reader_readDoor_90 e_Reader_readDoor_91
      (simp only [hc, new_0, new_1, new_2, new_3, known_0, known_1, known_2, known_3, gnew_ff E.c, gknown_ff E.c, e_num_ff E.c, e_take_ff E.c, e_next_ff E.c, Option.bind_some, cz_00, cond_true]; exact po_some rfl)
    · dsimp only
      refine po_bl (fun Am2 e2 => ?_)
      rw [E.nz, cond_true]
      unfold d_tellDoor_120 d_tellDoor_121 d_tellDoor_135
      refine po_bl (fun Am3 e3 => ?_)
      have a3 := gg_st e3
      refine po_bl (fun v4 e4 => ?_)
      have a4 := gg_ld e4
      have v4e : v4.toInt = 0 := by
        have w : (Am3 16 ix.toInt.toNat).toInt = (vp_nar .boolean (0 : Int32)).toInt := a3.2.2.2.1
        rw [a4.2.2, w, n0]; decide
      rw [i_eq.mpr (by rw [v4e]; decide), cond_true, d_must_ff E.2, Option.bind_some]
      (dsimp only; rw [FE.nz E, cond_true]; exact po_some rfl)
theorem d_door_ff {ix : Int32} (E : FE F Fm) : po (d_tellDoor_82 m Fm Am Jm ix) (fun b => b.2.1 13 = Fm 13) := by
  have n0 : vp_nar .boolean (0 : Int32) = 0 := by decide
  unfold d_tellDoor_82
  rw [d_num_ff E.2, Option.bind_some]
  dsimp only
  refine po_bl (fun Am2 e2 => ?_)
  rw [E.nz, cond_true]
  unfold d_tellDoor_120 d_tellDoor_121 d_tellDoor_135
  refine po_bl (fun Am3 e3 => ?_)
  have a3 := gg_st e3
  refine po_bl (fun v4 e4 => ?_)
  have a4 := gg_ld e4
  have v4e : v4.toInt = 0 := by
    have w : (Am3 16 ix.toInt.toNat).toInt = (vp_nar .boolean (0 : Int32)).toInt := a3.2.2.2.1
    rw [a4.2.2, w, n0]; decide
  rw [i_eq.mpr (by rw [v4e]; decide), cond_true, d_must_ff E.2, Option.bind_some]
  (dsimp only; rw [FE.nz E, cond_true]; exact po_some rfl)
/-- a door is told -/
theorem q_door (K : TKs T) (R : RT T F Fm) (X : RX T A J Am Jm) (H : RH d F A J Fm Am Jm) (W : RW d F A Fm Am) (a14 : 0 ≤ (F d 14).toInt) (h5 : P 37 5 = d) (h6 : P 37 6 = 3) (hk : c_kind d = 6) (b14 : (F d 14).toInt ≤ 12) (hm : (Am 3 (Fm 11).toInt.toNat).toInt = (21 : Int32).toInt) : P2 (e_Reader_readDoor n P F A J) ((d_roomFor Fm Am Jm (Am 12 (Fm 19).toInt.toNat) 12).bind fun (_, F5, A6, J7) => cond (g_cnd .ne (F5 13) 0) (some ((), F5, A6, J7)) ((d_tellDoor m F5 A6 J7).bind fun (_, F10, A11, J12) => some ((), F10, A11, J12))) (RS T d P) := by
  have hd := kd37 hk
  have hc := chk_in h5 hk
  have l12 : (12 : Int32).toInt = 12 := by decide
  unfold e_Reader_readDoor
  rw [hc, Option.bind_some, ← H.dr]
  refine p2_first (k' := 21) K R X (by decide) (by decide) hm (by omega) (fun F1 Fm1 U1 hx => ?_) (fun F1 Fm1 fc fm E => ?_)
  · have R1 := U1.rt
    have H1 := U1.v.h hd H
    dsimp only
    rw [hc, Option.bind_some, R1.nz, cond_false, known_0]
    refine p2_eta ?_
    unfold d_tellDoor
    refine p2_br (fun v1 ev1 => ?_)
    have e14 := U1.dg hd 14
    have v1e : v1 = F1 d 14 := by rw [(gg_ld ev1).2.2]; exact H1.dr.symm
    have bF1 : 0 ≤ (F1 d 14).toInt ∧ (F1 d 14).toInt < 12 := by rw [e14]; omega
    have ix : (12 * Fm1 19 + v1).toInt = 12 * (Fm1 19).toInt + (F1 d 14).toInt := by rw [H1.ix12 (v := v1) (by rw [v1e]; omega) (by rw [v1e]; omega), v1e]
    refine p2_known (q := 0) (by decide) (by decide) K R1 X H1.nr (fun v2 F2 Fm2 V2 _ hv2 => ?_) (fun F2 Fm2 fc fm E _ => ?_)
    · have H2 := V2.h hd H1
      dsimp only
      refine p2_br (fun Am3 e3 => ?_)
      have a3 := gg_st e3
      have ix2 : (12 * Fm1 19 + v1).toInt = 12 * (Fm2 19).toInt + (F2 d 14).toInt := by rw [V2.fm 19 (by decide) (by decide) (by decide) (by decide) (by decide), V2.dg hd 14]; exact ix
      have W3 : RW d F2 A Fm2 Am3 := RWc.st ((W.v H.s0 hd U1.c U1.m).v H1.s0 hd V2.fc V2.fm) H2.s0 a3.2.2.1 a3.2.2.2.2 (fun i h => by have h := RLg.cs h; rw [ix2]; have := H2.s0; omega)
      have X3 := X.a (Am' := Am3) (fun q hq => a3.2.2.1 q (by omega))
      have H3 := H2.a (Am' := Am3) (fun q hq => a3.2.2.1 q (by omega))
      rw [hc, Option.bind_some, known_0]
      refine p2_known (q := 0) (by decide) (by decide) K V2.rt X3 H3.nr (fun v4 F4 Fm4 V4 _ hv4 => ?_) (fun F4 Fm4 fc fm E _ => ?_)
      · have H4 := V4.h hd H3
        dsimp only
        refine p2_br (fun Am5 e5 => ?_)
        have a5 := gg_st e5
        have X5 := X3.a (Am' := Am5) (fun q hq => a5.2.2.1 q (by omega))
        have H5 := H4.a (Am' := Am5) (fun q hq => a5.2.2.1 q (by omega))
        have ix4 : (12 * Fm1 19 + v1).toInt = 12 * (Fm4 19).toInt + (F4 d 14).toInt := by rw [V4.fm 19 (by decide) (by decide) (by decide) (by decide) (by decide), V4.dg hd 14]; exact ix2
        have W5 : RW d F4 A Fm4 Am5 := RWc.st (W3.v H2.s0 hd V4.fc V4.fm) H4.s0 a5.2.2.1 a5.2.2.2.2 (fun i h => by have h := RLg.cs h; rw [ix4]; have := H4.s0; omega)
        have b4 : 0 ≤ (F4 d 14).toInt ∧ (F4 d 14).toInt < 12 := by rw [V4.dg hd 14, V2.dg hd 14]; exact bF1
        have y1 : ai Am5 13 (12 * Fm1 19 + v1).toInt = v2.toInt := by rw [ai_fr (a5.2.2.1 13 (by decide))]; exact a3.2.2.2.1
        have y2 := a5.2.2.2.1
        rw [V4.rt.nz, cond_false]
        refine p2_br (fun v13 e13 => ?_)
        have a13 := gg_ld e13
        have v13e : v13 = v2 := by
          refine i_ext ?_
          have w : (Am3 13 (12 * Fm1 19 + v1).toInt.toNat).toInt = v2.toInt := a3.2.2.2.1
          rw [a13.2.2, a5.2.2.1 13 (by decide), w]
        subst v13e
        by_cases c1 : v13.toInt < 0
        · rw [i_lt.mpr (by rw [i_0]; exact c1), cond_true, cond_true]
          exact qd_tail K V4.rt X5 H5 W5 b4 ix4 y1 y2 h5 h6 hk
        · rw [i_nlt.mpr (by rw [i_0]; omega), cond_false, cond_false, e13, Option.bind_some]
          refine p2_br (fun v16 e16 => ?_)
          have a16 := gg_ld e16
          have v16e : v16 = v4 := by
            refine i_ext ?_
            have w : (Am5 14 (12 * Fm1 19 + v1).toInt.toNat).toInt = v4.toInt := a5.2.2.2.1
            rw [a16.2.2, w]
          subst v16e
          by_cases c2 : v13.toInt = v16.toInt
          · rw [i_nne.mpr c2, cond_false, cond_false]
            rcases hv4 with ⟨_, _, U4⟩ | ⟨rfl, _⟩
            · obtain ⟨F6, Fm6, b1, b2, V6⟩ := U4.late (P := P) (k := 5) K V2.rt X5
              rw [b1, b2, Option.bind_some, Option.bind_some]
              have ix6 : (12 * Fm1 19 + v1).toInt = 12 * (Fm6 19).toInt + (F6 d 14).toInt := by rw [V6.fm 19 (by decide) (by decide) (by decide) (by decide) (by decide), V6.dg hd 14]; exact ix2
              have W6 : RW d F6 A Fm6 Am5 := RWc.st (W3.v H2.s0 hd V6.fc V6.fm) (V6.h hd H3).s0 a5.2.2.1 a5.2.2.2.2 (fun i h => by have h := RLg.cs h; rw [ix6]; have := (V6.h hd H3).s0; omega)
              have b6 : 0 ≤ (F6 d 14).toInt ∧ (F6 d 14).toInt < 12 := by rw [V6.dg hd 14, V2.dg hd 14]; exact bF1
              exact qd_tail K V6.rt X5 (V6.h hd (H3.a (Am' := Am5) (fun q hq => a5.2.2.1 q (by omega)))) W6 b6 ix6 y1 y2 h5 h6 hk
            · exact absurd (show (-1 : Int32).toInt = -1 by decide) (by omega)
          · rw [i_ne.mpr c2, cond_true, cond_true]
            exact qd_tail K V4.rt X5 H5 W5 b4 ix4 y1 y2 h5 h6 hk
      · refine p2_ff E ?_ ?_
        · dsimp only
          refine po_cond (fun _ => ?_) (fun _ => po_cond (fun _ => ?_) (fun h => ?_))
          · unfold e_Reader_readDoor_60 e_Reader_readDoor_90 e_Reader_readDoor_91
            (simp only [hc, new_0, new_1, new_2, new_3, known_0, known_1, known_2, known_3, gnew_ff E.c, gknown_ff E.c, e_num_ff E.c, e_take_ff E.c, e_next_ff E.c, Option.bind_some, cz_00, cond_true]; exact po_some rfl)
          · unfold e_Reader_readDoor_60 e_Reader_readDoor_90 e_Reader_readDoor_91
            (simp only [hc, new_0, new_1, new_2, new_3, known_0, known_1, known_2, known_3, gnew_ff E.c, gknown_ff E.c, e_num_ff E.c, e_take_ff E.c, e_next_ff E.c, Option.bind_some, cz_00, cond_true]; exact po_some rfl)
          · rw [i_nne] at h
            rename_i c1
            rw [i_nlt, h] at c1
            exact absurd c1 (by decide)
        · dsimp only
          refine po_bl (fun Am5 e5 => ?_)
          rw [E.nz, cond_true]
          exact d_door_ff E
    · refine p2_ff E ?_ ?_
      · dsimp only
        simp only [hc, known_0, gknown_ff E.c, Option.bind_some]
        rw [i_lt.mpr (by decide), cond_true]
        unfold e_Reader_readDoor_60 e_Reader_readDoor_90 e_Reader_readDoor_91
        (simp only [hc, new_0, new_1, new_2, new_3, known_0, known_1, known_2, known_3, gnew_ff E.c, gknown_ff E.c, e_num_ff E.c, e_take_ff E.c, e_next_ff E.c, Option.bind_some, cz_00, cond_true]; exact po_some rfl)
      · dsimp only
        refine po_bl (fun Am3 e3 => ?_)
        rw [d_known_ff E.2, Option.bind_some]
        dsimp only
        refine po_bl (fun Am5 e5 => ?_)
        rw [E.nz, cond_true]
        exact d_door_ff E
  · refine p2_ff E ?_ ?_
    · simp only [hc, known_0, gknown_ff E.c, Option.bind_some]
      rw [i_lt.mpr (by decide), cond_true]
      unfold e_Reader_readDoor_60 e_Reader_readDoor_90 e_Reader_readDoor_91
      (simp only [hc, new_0, new_1, new_2, new_3, known_0, known_1, known_2, known_3, gnew_ff E.c, gknown_ff E.c, e_num_ff E.c, e_take_ff E.c, e_next_ff E.c, Option.bind_some, cz_00, cond_true]; exact po_some rfl)
    · (dsimp only; rw [FE.nz E, cond_true]; exact po_some rfl)
/-- the night's length is told -/
theorem q_night (K : TKs T) (R : RT T F Fm) (X : RX T A J Am Jm) (H : RH d F A J Fm Am Jm) (W : RW d F A Fm Am) (h5 : P 37 5 = d) (hk : c_kind d = 6) (hm : (Am 3 (Fm 11).toInt.toNat).toInt = (34 : Int32).toInt) : P2 (e_Reader_readNight P F A J) ((d_goesOn Fm Am Jm).bind fun (_, F100, A101, J102) => (d_bounded F100 A101 J102 1 600).bind fun (v103, F104, A105, J106) => (m_st A105 41 2 (F100 19) v103).bind fun A107 => (d_must F104 A107 J106 4).bind fun (_, F109, A110, J111) => some ((), F109, A110, J111)) (RS T d P) := by
  have hd := kd37 hk
  have hc := chk_in h5 hk
  unfold e_Reader_readNight
  refine p2_goes (k' := 34) K R X (by decide) (by decide) hm (fun F1 Fm1 U1 => ?_) (fun F1 Fm1 fc fm E => ?_)
  · have H1 := U1.v.h hd H
    dsimp only
    rw [hc, Option.bind_some]
    refine p2_num K U1.rt X (fun F2 Fm2 V2 _ => ?_) (fun v F2 Fm2 fc fm E => ?_)
    · have H2 := V2.h hd H1
      dsimp only
      refine p2_bl (fun F3 e3 => ?_)
      have U3 := gg_cpf e3
      refine p2_br (fun Am4 e4 => ?_)
      have a4 := gg_st e4
      have X4 := X.a (Am' := Am4) (fun q hq => a4.2.2.1 q (by omega))
      have H4 : RH d F3 A J Fm2 Am4 Jm := H2.fr (fun k h1 h2 => U3.2 d k (fun e => by omega)) (U3.2 37 9 (fun e => hd e.1.symm)) rfl (fun _ _ => rfl) rfl rfl rfl (fun q hq => a4.2.2.1 q (by omega)) rfl
      have R4 : RT T F3 Fm2 := V2.rt.cg (fun k _ => U3.2 37 k (fun e => hd e.1.symm)) (fun _ _ => rfl)
      refine p2_take K R4 X4 (by decide) (by decide) (fun F5 Fm5 U5 _ => ?_) (fun F5 Fm5 fc fm E _ => ?_)
      · have W2 : RW d F2 A Fm2 Am := (W.v H.s0 hd U1.c U1.m).v H1.s0 hd V2.fc V2.fm
        have W4 : RW d F3 A Fm2 Am4 := by
          obtain ⟨w1, w2, w3, w4, w5, w6, w7⟩ := W2
          have g : ∀ k, k ≠ 18 → F3 d k = F2 d k := fun k hk => U3.2 d k (fun e => hk e.2)
          have base : RWc (F2 d 14).toInt (F2 d 15).toInt (F2 d 16).toInt (F2 d 17).toInt d F2 A Fm2 Am := ⟨w1, w2, w3, w4, w5, w6, w7⟩
          have m4 : ∀ q, q ≠ 41 → Am4 q = Am q := fun q hq => a4.2.2.1 q hq
          have hd3 := kd3 hk
          show RWc (F3 d 14).toInt (F3 d 15).toInt (F3 d 16).toInt (F3 d 17).toInt d F3 A Fm2 Am4
          rw [g 14 (by decide), g 15 (by decide), g 16 (by decide), g 17 (by decide)]
          unfold RWc RWd RWt RWk RWs RWm RWz
          rw [U3.2 3 7 (fun e => hd3 e.1.symm), U3.2 3 8 (fun e => hd3 e.1.symm), ai_fr (m4 13 (by decide)), ai_fr (m4 14 (by decide)), ai_fr (m4 15 (by decide)), ai_fr (m4 16 (by decide)), ai_fr (m4 18 (by decide)), ai_fr (m4 20 (by decide)), ai_fr (m4 21 (by decide)), ai_fr (m4 23 (by decide)), ai_fr (m4 24 (by decide)), ai_fr (m4 25 (by decide)), ai_fr (m4 26 (by decide)), ai_fr (m4 27 (by decide)), ai_fr (m4 28 (by decide)), ai_fr (m4 30 (by decide)), m4 31 (by decide), m4 32 (by decide)]
          refine ⟨w1, w2, w3, w4, w5, w6, ?_⟩
          show F3 d 18 = Am4 41 (Fm2 19).toInt.toNat
          rw [U3.1]
          have e219 : Fm2 19 = Fm1 19 := V2.fm 19 (by decide) (by decide) (by decide) (by decide) (by decide)
          rw [e219]
          exact i_ext a4.2.2.2.1.symm
        exact p2_some (.inr ⟨U5.rt, X4, U5.v.h hd H4, W4.v H4.s0 hd U5.c U5.m⟩)
      · exact p2_some (.inl E)
    · have e10 : ∀ {F3 : Nat → Nat → Int32} {x : Int32}, c_pf F2 d 18 x = some F3 → F3 37 10 = F2 37 10 := fun e => (gg_cpf e).2 37 10 (fun e => hd e.1.symm)
      refine p2_ff E ?_ ?_
      · dsimp only
        refine po_bl (fun F3 e3 => ?_)
        rw [e_take_ff (by rw [e10 e3]; exact E.c), Option.bind_some]
        exact po_some (e10 e3)
      · ((try dsimp only); repeat' (first | exact po_some rfl | rw [FE.nz E, cond_true] | rw [FE.le E, cond_false] | rw [FE.gt E, cond_true] | rw [d_must_ff (FE.gg E), Option.bind_some] | rw [d_known_ff (FE.gg E), Option.bind_some] | rw [d_num_ff (FE.gg E), Option.bind_some] | rw [d_is_ff (FE.gg E), Option.bind_some] | (refine po_call (d_named_ff (FE.gg E)) ?_; rintro _ rfl; try dsimp only) | refine po_cond (fun _ => ?_) (fun _ => ?_) | refine po_bl (fun _ _ => ?_)))
  · refine p2_ff E ?_ ?_
    · dsimp only
      rw [hc, Option.bind_some, e_num_ff E.c, Option.bind_some]
      dsimp only
      refine po_bl (fun F3 e3 => ?_)
      have e10 : F3 37 10 = F1 37 10 := (gg_cpf e3).2 37 10 (fun e => hd e.1.symm)
      rw [e_take_ff (by rw [e10]; exact E.c), Option.bind_some]
      exact po_some e10
    · ((try dsimp only); repeat' (first | exact po_some rfl | rw [FE.nz E, cond_true] | rw [FE.le E, cond_false] | rw [FE.gt E, cond_true] | rw [d_must_ff (FE.gg E), Option.bind_some] | rw [d_known_ff (FE.gg E), Option.bind_some] | rw [d_num_ff (FE.gg E), Option.bind_some] | rw [d_is_ff (FE.gg E), Option.bind_some] | (refine po_call (d_named_ff (FE.gg E)) ?_; rintro _ rfl; try dsimp only) | refine po_cond (fun _ => ?_) (fun _ => ?_) | refine po_bl (fun _ _ => ?_)))
end A8
