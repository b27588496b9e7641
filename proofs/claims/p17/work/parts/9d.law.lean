section R9d
variable {P P' : Nat → Nat → Nat} {F F' F0 : Nat → Nat → Int32} {A A' A0 : Nat → Nat → Nat → Int32} {J : Nat → Nat → Nat → Int64} {n d : Nat}
theorem s_aimHere {x1 : Int32} (hk : c_kind d = 6) (R : Rc F A) (h : cf F 37 10 ≠ 0 ∨ ci A d 15 x1.toInt ≠ 2) : ok (e_Laws_aimHere P F A J d x1) (fun r => QLc d P r.2.1 F r.2.2.1 A r.2.2.2.1 ∧ r.2.2.1 = F) := by
  have l0 : (0 : Int32).toInt = 0 := by decide
  have a : 0 ≤ (F d 1304).toInt ∧ (F d 1304).toInt ≤ 400 := by have := R.1 d 1304; rw [hk] at this; exact this
  unfold e_Laws_aimHere
  refine ok_cond (fun _ => ok_some ⟨QLc.rfl' R, rfl⟩) (fun c => ?_)
  rw [i_nlt] at c
  refine ok_cond (fun _ => ok_some ⟨QLc.rfl' R, rfl⟩) (fun c2 => ?_)
  rw [i_nge] at c2
  refine ok_cst (by omega) (by omega) ?_
  intro A2 U2
  have b15 : ci A2 d 15 = ci A d 15 := ci_fr (U2.2.2 d 15 (by simp))
  suffices V : QLc d P P F F A A2 from ok_some ⟨V, rfl⟩
  refine ⟨rfl, fun _ _ _ _ => rfl, fun r o x => U2.2.2 r o (by omega), R.st U2 (hrow hk 16 _ trivial), Int.le_refl _, id, id, Int.le_refl _, fun i _ _ => by rw [b15], h.imp id (fun hh z i i0 i1 => ?_)⟩
  rw [b15]
  intro e
  by_cases w : i = x1.toInt
  · rw [w] at e; exact absurd e hh
  · rw [U2.2.1 i i0 w]
    exact z i i0 i1 e
theorem s_readIf (e5 : P 37 5 = d) (hk : c_kind d = 6) (R : Rc F A) (hb : cf F 37 10 ≠ 0 ∨ cf F d 1304 + 1 ≤ cf F 37 7) (hn : 500 ≤ n) : ok (e_Reader_readIf n P F A J) (LNc d P F A) := by
  have l0 : (0 : Int32).toInt = 0 := by decide
  have hd := kd37 hk
  have z02 : (0 : Int32).toInt ≠ 2 := by decide
  unfold e_Reader_readIf
  refine ok_call (s_take R) ?_
  rintro ⟨v1, P2, F2, A2, J2⟩ ⟨q2, w2⟩
  dsimp only at q2 w2 ⊢
  have ep := q2.1
  subst ep
  refine ok_call (s_readSum e5 hk hn q2.2.2.2.1 (by decide) (by omega)) ?_
  rintro ⟨u3, P3, F3, A3, J3⟩ ⟨q3, w3⟩
  dsimp only at q3 w3 ⊢
  have ep := q3.1
  subst ep
  refine ok_call (s_take q3.2.2.2.1) ?_
  rintro ⟨v4, P4, F4, A4, J4⟩ ⟨q4, w4⟩
  dsimp only at q4 w4 ⊢
  have ep := q4.1
  subst ep
  refine ok_call (s_readSum e5 hk hn q4.2.2.2.1 (by decide) (by omega)) ?_
  rintro ⟨u5, P5, F5, A5, J5⟩ ⟨q5, w5⟩
  dsimp only at q5 w5 ⊢
  have ep := q5.1
  subst ep
  rw [e5]
  refine ok_chk hk ?_
  refine ok_call (s_add hk q5.2.2.2.1 (fun h => absurd h (by decide))) ?_
  rintro ⟨v22, P6, F6, A6, J6⟩ ⟨q6, a6, b6, c6, d6⟩
  dsimp only at q6 a6 b6 c6 d6 ⊢
  have ep := q6.1
  subst ep
  refine ok_call (s_take q6.2.2.2.1) ?_
  rintro ⟨v7, P7, F7, A7, J7⟩ ⟨q7, w7⟩
  dsimp only at q7 w7 ⊢
  have ep := q7.1
  subst ep
  refine ok_call (s_readSum e5 hk hn q7.2.2.2.1 (by decide) (by omega)) ?_
  rintro ⟨u8, P8, F8, A8, J8⟩ ⟨q8, w8⟩
  dsimp only at q8 w8 ⊢
  have ep := q8.1
  subst ep
  rw [e5]
  refine ok_chk hk ?_
  refine ok_call (s_add hk q8.2.2.2.1 (fun h => absurd h z02)) ?_
  rintro ⟨v9, P9, F9, A9, J9⟩ ⟨q9, a9, b9, c9, -⟩
  dsimp only at q9 a9 b9 c9 ⊢
  have ep := q9.1
  subst ep
  refine ok_call (s_take q9.2.2.2.1) ?_
  rintro ⟨v10, P10, F10, A10, J10⟩ ⟨q10, w10⟩
  dsimp only at q10 w10 ⊢
  have ep := q10.1
  subst ep
  rw [e5]
  refine ok_chk hk ?_
  -- counts
  have k2 : cf F2 d 1304 = cf F d 1304 := by unfold cf; rw [q2.dd hd 1304]
  have k4 : cf F4 d 1304 = cf F3 d 1304 := by unfold cf; rw [q4.dd hd 1304]
  have k7 : cf F7 d 1304 = cf F6 d 1304 := by unfold cf; rw [q7.dd hd 1304]
  have k10 : cf F10 d 1304 = cf F9 d 1304 := by unfold cf; rw [q10.dd hd 1304]
  have t6 : cf F6 37 7 = cf F5 37 7 := by unfold cf; rw [a6]
  have t9 : cf F9 37 7 = cf F8 37 7 := by unfold cf; rw [a9]
  have f6 : cf F6 37 10 = cf F5 37 10 := by unfold cf; rw [b6]
  have f9 : cf F9 37 10 = cf F8 37 10 := by unfold cf; rw [b9]
  have m2 := q2.2.2.2.2.2.1
  have m3 := q3.2.2.2.2.2.1
  have m4 := q4.2.2.2.2.2.1
  have m5 := q5.2.2.2.2.2.1
  have m7 := q7.2.2.2.2.2.1
  have m8 := q8.2.2.2.2.2.1
  have m10 := q10.2.2.2.2.2.1
  have tk5 := q5.2.2.2.1.tok
  have tk5' : cf F5 37 7 ≤ 400 := tk5.2
  have qa := ((((((((q2.ql hd).tr q3).tr (q4.ql hd)).tr q5).tr q6).tr (q7.ql hd)).tr q8).tr q9).tr (q10.ql hd)
  -- where there is no fault at the end there was none
  have nf : cf F10 37 10 = 0 → (cf F 37 10 = 0 ∧ cf F2 37 10 = 0 ∧ cf F3 37 10 = 0 ∧ cf F4 37 10 = 0 ∧ cf F5 37 10 = 0 ∧ cf F7 37 10 = 0 ∧ cf F8 37 10 = 0) := fun z => by
    have y8 : cf F8 37 10 = 0 := by
      by_cases w : cf F8 37 10 = 0
      · exact w
      · exact absurd z (m10 (by rw [f9]; exact w))
    have y7 : cf F7 37 10 = 0 := by
      by_cases w : cf F7 37 10 = 0
      · exact w
      · exact absurd y8 (m8 w)
    have y5 : cf F5 37 10 = 0 := by
      by_cases w : cf F5 37 10 = 0
      · exact w
      · exact absurd y7 (m7 (by rw [f6]; exact w))
    have y4 : cf F4 37 10 = 0 := by
      by_cases w : cf F4 37 10 = 0
      · exact w
      · exact absurd y5 (m5 w)
    have y3 : cf F3 37 10 = 0 := by
      by_cases w : cf F3 37 10 = 0
      · exact w
      · exact absurd y4 (m4 w)
    have y2 : cf F2 37 10 = 0 := by
      by_cases w : cf F2 37 10 = 0
      · exact w
      · exact absurd y3 (m3 w)
    have y0 : cf F 37 10 = 0 := by
      by_cases w : cf F 37 10 = 0
      · exact w
      · exact absurd y2 (m2 w)
    exact ⟨y0, y2, y3, y4, y5, y7, y8⟩
  have key : cf F10 37 10 ≠ 0 ∨ (cf F10 d 1304 + cf F 37 7 ≤ cf F d 1304 + cf F10 37 7 ∧ ci A10 d 15 v22.toInt ≠ 2) := by
    by_cases z : cf F10 37 10 = 0
    · right
      obtain ⟨y0, y2, y3, y4, y5, y7, y8⟩ := nf z
      have g2 : cf F2 37 7 = cf F 37 7 + 1 := by omega
      have g3 : cf F3 d 1304 + cf F2 37 7 ≤ cf F2 d 1304 + cf F3 37 7 := w3.resolve_left (by omega)
      have g4 : cf F4 37 7 = cf F3 37 7 + 1 := by omega
      have g5 : cf F5 d 1304 + cf F4 37 7 ≤ cf F4 d 1304 + cf F5 37 7 := w5.resolve_left (by omega)
      have g7 : cf F7 37 7 = cf F6 37 7 + 1 := by omega
      have g8 : cf F8 d 1304 + cf F7 37 7 ≤ cf F7 d 1304 + cf F8 37 7 := w8.resolve_left (by omega)
      have g10 : cf F10 37 7 = cf F9 37 7 + 1 := by omega
      have lt : cf F5 d 1304 < 400 := by omega
      obtain ⟨e1, e2, e3⟩ := d6 lt
      refine ⟨by omega, ?_⟩
      have n5 : 0 ≤ cf F5 d 1304 := by
        have := q5.2.2.2.1.1 d 1304
        rw [hk] at this
        exact this.1
      have r1 : ci A10 d 15 v22.toInt = ci A6 d 15 v22.toInt := by
        have x8 := q8.2.2.2.2.2.2.2.2.1 v22.toInt (by omega) (by omega)
        have x9 := q9.2.2.2.2.2.2.2.2.1 v22.toInt (by omega) (by have := q8.2.2.2.2.2.2.2.1; omega)
        rw [q10.2.1, x9, x8, q7.2.1]
      rw [r1, e1, e3]
      decide
    · exact .inl z
  refine ok_call (s_aimHere hk q10.2.2.2.1 (key.imp id (fun h => h.2))) ?_
  rintro ⟨u11, P11, F11, A11, J11⟩ ⟨q11, e11⟩
  dsimp only at q11 e11 ⊢
  refine ok_some ⟨qa.tr q11, ?_⟩
  show cf F11 37 10 ≠ 0 ∨ cf F11 d 1304 + cf F 37 7 ≤ cf F d 1304 + cf F11 37 7
  rw [e11]
  exact key.imp id (fun h => h.1)
theorem RVc.l (V : RVc d F0 F A0 A) (hk : c_kind d = 6) (q : QLc d P P' F F' A A') (hb : cf F' 37 10 ≠ 0 ∨ cf F' d 1304 ≤ cf F' 37 7) : RVc d F0 F' A0 A' := by
  have hd := kd37 hk
  have h3 := kd3 hk
  obtain ⟨v1, ⟨v2, v3⟩, v4, v5, v6⟩ := V
  obtain ⟨q1, q2, q3, q4, q5, q6, q7, q8, q9, q10⟩ := q
  have fd : ∀ k, k ≠ 1304 → F' d k = F d k := fun k hkk => q2 d k (fun h => hd h.1) (fun h => hkk h.2)
  have ad : ∀ o, o ≠ 15 → o ≠ 16 → A' d o = A d o := fun o a b => q3 d o (by omega)
  refine ⟨q4, ⟨fun r k a b c => (q2 r k (fun h => a h.1) (fun h => b h.1)).trans (v2 r k a b c), fun r o a b c => (q3 r o (fun h => b h.1)).trans (v3 r o a b c)⟩, by unfold cf; rw [fd 16 (by decide), ci_fr (ad 5 (by decide) (by decide))]; exact v4, hb, ?_⟩
  rcases v6 with h | h | h
  · exact .inl (q6 h)
  · exact .inr (.inl (q7 h))
  · rcases q10 with g | g
    · exact .inl g
    · refine .inr (.inr ?_)
      obtain ⟨d1, d2, d3, d4, d5, d6, d7⟩ := h
      refine ⟨?_, ?_, ?_, ?_, g d5, ?_, d7.cg (ad 5 (by decide) (by decide)) (q3 3 3 (fun h => h3 h.1.symm))⟩
      · unfold cf
        rw [fd 14 (by decide), ci_fr (ad 1 (by decide) (by decide)), ci_fr (ad 2 (by decide) (by decide))]
        exact d1
      · unfold cf
        rw [fd 17 (by decide), ci_fr (ad 12 (by decide) (by decide))]
        exact d2
      · unfold cf
        rw [fd 16 (by decide), ci_fr (ad 4 (by decide) (by decide))]
        exact d3
      · rw [ci_fr (ad 5 (by decide) (by decide)), ci_fr (ad 11 (by decide) (by decide))]
        exact d4
      · unfold cf
        rw [fd 18 (by decide)]
        exact d6
theorem s_readLaw_94 {x1 x2 : Int32} (e5 : P 37 5 = d) (hk : c_kind d = 6) (V : RVc d F0 F A0 A) (hb : cf F 37 10 ≠ 0 ∨ cf F d 1304 + 1 ≤ cf F 37 7) (h1 : -1 ≤ x1.toInt ∧ x1.toInt ≤ 5) (h9 : cf F 37 10 ≠ 0 ∨ cf F 37 9 < 8) (hn : 500 ≤ n) : ok (e_Reader_readLaw_94 n P F A J x1 x2) (RXc P d F0 A0) := by
  have l0 : (0 : Int32).toInt = 0 := by decide
  have l1 : (1 : Int32).toInt = 1 := by decide
  have hd := kd37 hk
  have z02 : (0 : Int32).toInt ≠ 2 := by decide
  unfold e_Reader_readLaw_94
  refine ok_call (s_readSum e5 hk hn V.1 (by decide) (by omega)) ?_
  rintro ⟨u2, P2, F2, A2, J2⟩ ⟨q2, w2⟩
  dsimp only at q2 w2 ⊢
  have ep := q2.1
  subst ep
  rw [e5]
  refine ok_chk hk ?_
  refine ok_call (s_add hk q2.2.2.2.1 (fun h => absurd h z02)) ?_
  rintro ⟨v3, P3, F3, A3, J3⟩ ⟨q3, a3, b3, c3, -⟩
  dsimp only at q3 a3 b3 c3 ⊢
  have ep := q3.1
  subst ep
  have qa := q2.tr q3
  have t3 : cf F3 37 7 = cf F2 37 7 := by unfold cf; rw [a3]
  have f3 : cf F3 37 10 = cf F2 37 10 := by unfold cf; rw [b3]
  have V3 := V.l hk qa (by
    rcases w2 with h | h
    · left; omega
    · rcases hb with g | g
      · exact .inl (qa.2.2.2.2.2.1 g)
      · right; omega)
  refine ok_call (s_take V3.1) ?_
  rintro ⟨v, P4, F4, A4, J4⟩ ⟨q4, w4⟩
  dsimp only at q4 w4 ⊢
  have V4 := V3.q hd q4
  refine ok_cond (fun _ => ok_some ⟨q4.1, V4⟩) (fun c => ?_)
  rw [i_neq, l0] at c
  have z4 : cf F4 37 10 = 0 := by omega
  have k9 : F4 37 9 = F 37 9 := (q4.2.2.1 37 9 (by simp)).trans (qa.2.1 37 9 (by simp) (fun h => hd h.1.symm))
  have r9 : 0 ≤ (F4 37 9).toInt ∧ (F4 37 9).toInt ≤ 8 := V4.1.1 37 9
  have lt : (F4 37 9).toInt < 8 := by
    rw [k9]
    rcases h9 with h | h
    · exact absurd (q4.2.2.2.2.2.1 (qa.2.2.2.2.2.1 h)) (by omega)
    · exact h
  refine ok_cpf ?_
  intro F5 U5
  have e := i_add (x := F4 37 9) (y := 1) (by omega) (by omega)
  have R5 : Rc F5 A4 := V4.1.pf U5 (show 0 ≤ (F4 37 9 + 1).toInt ∧ (F4 37 9 + 1).toInt ≤ 8 by omega)
  have V5 : RVc d F0 F5 A0 A4 := by
    obtain ⟨v1, ⟨v2, v3⟩, v4, v5, v6⟩ := V4
    have fd : ∀ k, F5 d k = F4 d k := fun k => U5.2 d k (fun h => hd h.1)
    refine ⟨R5, ⟨fun r k a b c => (U5.2 r k (fun h => a h.1)).trans (v2 r k a b c), v3⟩, by unfold cf; rw [fd]; exact v4, ?_, ?_⟩
    · unfold cf at v5 ⊢
      rw [fd, U5.2 37 7 (by simp), U5.2 37 10 (by simp)]
      exact v5
    · unfold cf at v6 ⊢
      rw [U5.2 37 12 (by simp), U5.2 37 10 (by simp)]
      exact v6.imp id (fun z => z.imp id (fun D => D.cgF fd))
  refine ok_cond (fun _ => ok_some ⟨q4.1, V5⟩) (fun c5 => ?_)
  rw [i_nlt] at c5
  have x5 : P4 37 5 = d := by rw [q4.1]; exact e5
  rw [x5]
  refine ok_chk hk ?_
  refine ok_cst (by omega) (by omega) ?_
  intro A6 U6
  have ad : ∀ o, o ≠ 14 → A6 d o = A4 d o := fun o a => U6.2.2 d o (fun h => a h.2)
  suffices V6 : RVc d F0 F5 A0 A6 from ok_some ⟨q4.1, V6⟩
  refine V5.up hd (R5.st U6 (hrow hk 14 _ trivial)) (fun _ _ _ _ => rfl) (fun r o a _ => U6.2.2 r o (fun h => a h.1)) (by rw [ci_fr (ad 5 (by decide))]; exact V5.2.2.1) rfl (.inr (.inr (fun D => ?_)))
  obtain ⟨d1, d2, d3, d4, d5, d6, d7⟩ := D
  refine ⟨?_, ?_, ?_, ?_, ?_, d6, d7.cg (ad 5 (by decide)) (U6.2.2 3 3 (by simp))⟩
  · rw [ci_fr (ad 1 (by decide)), ci_fr (ad 2 (by decide))]; exact d1
  · rw [ci_fr (ad 12 (by decide))]; exact d2
  · rw [ci_fr (ad 4 (by decide))]; exact d3
  · rw [ci_fr (ad 5 (by decide)), ci_fr (ad 11 (by decide))]; exact d4
  · unfold CVc
    rw [ci_fr (ad 15 (by decide)), ci_fr (ad 16 (by decide))]; exact d5
theorem s_readLaw_48 {x1 x2 : Int32} (e5 : P 37 5 = d) (hk : c_kind d = 6) (h1 : -1 ≤ x1.toInt ∧ x1.toInt ≤ 5) : ∀ {n : Nat} {F : Nat → Nat → Int32} {A : Nat → Nat → Nat → Int32} {J : Nat → Nat → Nat → Int64} {x3 : Int32}, RVc d F0 F A0 A → (cf F 37 10 ≠ 0 ∨ cf F d 1304 + 1 ≤ cf F 37 7) → (cf F 37 10 ≠ 0 ∨ cf F 37 9 < 8) → 0 ≤ x3.toInt ∧ x3.toInt ≤ 5 → 510 - x3.toInt < (n : Int) → ok (e_Reader_readLaw_48 n P F A J x1 x2 x3) (RXc P d F0 A0) := by
  have hd := kd37 hk
  intro n
  induction n with
  | zero => intro F A J x3 V hb h9 hx hn; exact absurd hn (by omega)
  | succ n ih =>
    intro F A J x3 V hb h9 hx hn
    have l0 : (0 : Int32).toInt = 0 := by decide
    have l1 : (1 : Int32).toInt = 1 := by decide
    have l4 : (4 : Int32).toInt = 4 := by decide
    have a := V.1.tok
    have e3 := i_add (x := x3) (y := 1) (by omega) (by omega)
    have f94 : ok (e_Reader_readLaw_94 n P F A J x1 x2) (RXc P d F0 A0) := s_readLaw_94 e5 hk V hb h1 h9 (by omega)
    -- a test, then on
    have on : x3.toInt ≤ 4 → ∀ {P2 F2 A2 J2}, QRc P P2 F F2 A A2 → ok ((e_Reader_readIf n P2 F2 A2 J2).bind fun (_, P55, F56, A57, J58) => e_Reader_readLaw_48 n P55 F56 A57 J58 x1 x2 (x3 + 1)) (RXc P d F0 A0) := by
      intro hle P2 F2 A2 J2 q2
      have ep := q2.1
      subst ep
      have V2 := V.q hd q2
      have k2 : cf F2 d 1304 = cf F d 1304 := by unfold cf; rw [q2.dd hd 1304]
      have t2 := q2.2.2.2.2.1
      have hb2 : cf F2 37 10 ≠ 0 ∨ cf F2 d 1304 + 1 ≤ cf F2 37 7 := by
        rcases hb with h | h
        · exact .inl (q2.2.2.2.2.2.1 h)
        · right; omega
      refine ok_call (s_readIf e5 hk V2.1 hb2 (by omega)) ?_
      rintro ⟨u, P3, F3, A3, J3⟩ ⟨q3, w3⟩
      dsimp only at q3 w3 ⊢
      have ep := q3.1
      subst ep
      have hb3 : cf F3 37 10 ≠ 0 ∨ cf F3 d 1304 + 1 ≤ cf F3 37 7 := by
        rcases w3 with h | h
        · exact .inl h
        · rcases hb2 with g | g
          · exact .inl (q3.2.2.2.2.2.1 g)
          · right; omega
      have k9 : F3 37 9 = F 37 9 := (q3.2.1 37 9 (by simp) (fun h => hd h.1.symm)).trans (q2.2.2.1 37 9 (by simp))
      refine ih (V2.l hk q3 (hb3.imp id (fun z => by omega))) hb3 ?_ (by omega) (by omega)
      rcases h9 with h | h
      · exact .inl (q3.2.2.2.2.2.1 (q2.2.2.2.2.2.1 h))
      · right
        unfold cf
        rw [k9]
        exact h
    unfold e_Reader_readLaw_48
    refine ok_cond (fun _ => f94) (fun c => ?_)
    rw [i_ngt] at c
    refine ok_call (s_isNext V.1) ?_
    intro v19 _
    refine ok_cond (fun _ => f94) (fun _ => ?_)
    refine ok_cond (fun _ => ?_) (fun _ => ?_)
    · unfold e_Reader_readLaw_84
      exact on (by omega) (QRc.rfl' V.1)
    · refine ok_ldn (by omega) (by omega) (fun v22 => ?_)
      refine ok_call (s_fail V.1 (by decide)) ?_
      rintro ⟨u, P2, F2, A2, J2⟩ ⟨q2, -⟩
      dsimp only at q2 ⊢
      exact on (by omega) q2
theorem s_readLaw (e5 : P 37 5 = d) (hk : c_kind d = 6) (V : RVc d F0 F A0 A) (hn : 520 ≤ n) : ok (e_Reader_readLaw n P F A J) (RXc P d F0 A0) := by
  have l0 : (0 : Int32).toInt = 0 := by decide
  have l8 : (8 : Int32).toInt = 8 := by decide
  have hd := kd37 hk
  unfold e_Reader_readLaw
  refine ok_call (s_takeFirst V.1) ?_
  rintro ⟨u2, P2, F2, A2, J2⟩ ⟨q2, w2⟩
  dsimp only at q2 w2 ⊢
  have e5' : P2 37 5 = d := by rw [q2.1]; exact e5
  rw [e5']
  refine ok_chk hk ?_
  refine ok_call (s_known_v3 q2.2.2.2.1 (by omega)) ?_
  rintro ⟨v7, P3, F3, A3, J3⟩ ⟨q3, a3, b3, c3, d3⟩
  dsimp only at q3 a3 b3 c3 d3 ⊢
  have e5'' : P3 37 5 = d := by rw [(q2.tr q3).1]; exact e5
  rw [e5'']
  refine ok_chk hk ?_
  refine ok_call (s_take q3.2.2.2.1) ?_
  rintro ⟨v13, P4, F4, A4, J4⟩ ⟨q4, -⟩
  dsimp only at q4 ⊢
  have qa := (q2.tr q3).tr q4
  have ep := qa.1
  subst ep
  have k4 : cf F4 d 1304 = cf F d 1304 := by unfold cf; rw [qa.dd hd 1304]
  have t3 := q3.2.2.2.2.1
  have t4 := q4.2.2.2.2.1
  refine s_readLaw_48 e5 hk ⟨a3, c3⟩ (V.q hd qa) ?_ ?_ (by decide) (by omega)
  · rcases w2 with h | h
    · exact .inl (q4.2.2.2.2.2.1 (q3.2.2.2.2.2.1 h))
    · rcases V.2.2.2.1 with g | g
      · exact .inl (qa.2.2.2.2.2.1 g)
      · right; omega
  · rcases w2 with h | h
    · exact .inl (q4.2.2.2.2.2.1 (q3.2.2.2.2.2.1 h))
    · right
      unfold cf
      rw [qa.2.2.1 37 9 (by simp)]
      omega
end R9d
