section
variable {F : Nat → Int32} {A : Nat → Nat → Int32} {J : Nat → Nat → Int64} {c s : Int}
theorem s_d_emit {x1 x2 : Int32} (hF : IFm F) (hA : IAm A) (h56 : (F 56).toInt < 840) (rx : 0 ≤ x1.toInt ∧ x1.toInt ≤ 5) : ok (d_emit F A J x1 x2) (fun r => IFm r.2.1 ∧ IAm r.2.2.1 ∧ (∀ q, q ≠ 56 → r.2.1 q = F q) ∧ (∀ q, q ∉ ([42, 43] : List Nat) → r.2.2.1 q = A q) ∧ (r.2.1 56).toInt = (F 56).toInt + 1 ∧ ai r.2.2.1 42 (F 56).toInt = x1.toInt ∧ ai r.2.2.1 43 (F 56).toInt = x2.toInt ∧ (∀ i, 0 ≤ i → i ≠ (F 56).toInt → ai r.2.2.1 42 i = ai A 42 i ∧ ai r.2.2.1 43 i = ai A 43 i)) := by
  have r56 : 0 ≤ (F 56).toInt ∧ (F 56).toInt ≤ 840 := hF 56
  have l1 : (1 : Int32).toInt = 1 := by decide
  have e := i_add (x := F 56) (y := 1) (by omega) (by omega)
  unfold d_emit
  refine ok_st (j := 42) hA (by omega) (by omega) (show 0 ≤ x1.toInt ∧ x1.toInt ≤ 5 from rx) ?_
  intro A1 hA1 o1 s1 n1
  refine ok_st (j := 43) hA1 (by omega) (by omega) trivial ?_
  intro A2 hA2 o2 s2 n2
  refine ok_pf hF (show 0 ≤ (F 56 + 1).toInt ∧ (F 56 + 1).toInt ≤ 840 by omega) ?_
  intro F3 hF3 k3 o3
  have a42 := ai_fr (o2 42 (by decide))
  have a43 := ai_fr (o1 43 (by decide))
  refine ok_some ⟨hF3, hA2, o3, fun q hq => (o2 q (fun e => hq (by rw [e]; decide))).trans (o1 q (fun e => hq (by rw [e]; decide))), ?_, ?_, s2, fun i h0 h1 => ⟨?_, ?_⟩⟩
  · show (F3 56).toInt = _
    rw [k3]; omega
  · show ai A2 42 _ = _
    rw [a42]; exact s1
  · show ai A2 42 _ = _
    rw [a42]; exact n1 i h0 h1
  · show ai A2 43 _ = _
    rw [n2 i h0 h1, a43]
theorem s_d_comesOut_0 {x1 : Int32} (hs : 0 ≤ s ∧ s ≤ 1) : ∀ {n : Nat} {F : Nat → Int32} {A : Nat → Nat → Int32} {J : Nat → Nat → Int64}, IFm F → IAm A → EXm F A c s 1 → (F 60).toInt < (n : Int) → ok (d_comesOut_0 n F A J x1) (fun r => IFm r.2.1 ∧ IAm r.2.2.1 ∧ (∀ q, q ∉ ([56, 60] : List Nat) → r.2.1 q = F q) ∧ (∀ q, q ∉ ([42, 43] : List Nat) → r.2.2.1 q = A q) ∧ OBm A r.2.2.1 c s ∧ EXm r.2.1 r.2.2.1 c s 1 ∧ ((r.2.1 60).toInt = 0 ∨ ai A 44 ((r.2.1 60).toInt - 1) = 6 ∨ (x1.toInt ≠ 0 ∧ (ai A 44 ((r.2.1 60).toInt - 1) = 8 ∨ ai A 44 ((r.2.1 60).toInt - 1) = 9)))) := by
  intro n
  induction n with
  | zero =>
    intro F A J hF hA E hn
    have r60 : 0 ≤ (F 60).toInt ∧ (F 60).toInt ≤ 64 := hF 60
    exact absurd hn (by omega)
  | succ n ih =>
    intro F A J hF hA E hn
    have r60 : 0 ≤ (F 60).toInt ∧ (F 60).toInt ≤ 64 := hF 60
    have r56 : 0 ≤ (F 56).toInt ∧ (F 56).toInt ≤ 840 := hF 56
    have r11 : 0 ≤ (F 11).toInt ∧ (F 11).toInt ≤ 400 := hF 11
    have r13 : 0 ≤ (F 13).toInt ∧ (F 13).toInt ≤ 5 := hF 13
    have l0 : (0 : Int32).toInt = 0 := by decide
    have l1 : (1 : Int32).toInt = 1 := by decide
    have l6 : (6 : Int32).toInt = 6 := by decide
    have l8 : (8 : Int32).toInt = 8 := by decide
    have l9 : (9 : Int32).toInt = 9 := by decide
    unfold d_comesOut_0
    refine ok_cond (fun c1 => ?_) (fun c1 => ?_)
    · rw [i_le] at c1
      exact ok_some ⟨hF, hA, fun _ _ => rfl, fun _ _ => rfl, fun _ _ _ => ⟨rfl, rfl⟩, E, .inl (show (F 60).toInt = 0 by omega)⟩
    · rw [i_nle] at c1
      have e := i_sub (x := F 60) (y := 1) (by omega) (by omega)
      rw [l1] at e
      refine ok_ld (j := 44) hA (by omega) (by omega) ?_
      intro v ve _
      rw [e] at ve
      have step : v.toInt ≠ 6 → ok (d_comesOut_42 (d_comesOut_0 n) n F A J x1 v) (fun r => IFm r.2.1 ∧ IAm r.2.2.1 ∧ (∀ q, q ∉ ([56, 60] : List Nat) → r.2.1 q = F q) ∧ (∀ q, q ∉ ([42, 43] : List Nat) → r.2.2.1 q = A q) ∧ OBm A r.2.2.1 c s ∧ EXm r.2.1 r.2.2.1 c s 1 ∧ ((r.2.1 60).toInt = 0 ∨ ai A 44 ((r.2.1 60).toInt - 1) = 6 ∨ (x1.toInt ≠ 0 ∧ (ai A 44 ((r.2.1 60).toInt - 1) = 8 ∨ ai A 44 ((r.2.1 60).toInt - 1) = 9)))) := by
        intro hv
        obtain ⟨w, w60, g, wo, cs, cw, bd⟩ := E
        obtain ⟨w', rfl⟩ : ∃ w', w = w' + 1 := ⟨w - 1, by omega⟩
        have tp : ai A 44 (w' : Int) ≠ 6 := by
          rw [show (w' : Int) = (F 60).toInt - 1 by omega, ← ve]; exact hv
        have q1 : wop A (w' + 1) = wop A w' := if_neg tp
        have q2 : wqs A (w' + 1) = wqs A w' + 1 := if_neg tp
        have wb := w_bd (A := A) w'
        unfold d_comesOut_42
        refine ok_pf hF (show 0 ≤ (F 60 - 1).toInt ∧ (F 60 - 1).toInt ≤ 64 by omega) ?_
        intro F7 hF7 k7 o7
        have f56 : F7 56 = F 56 := o7 56 (by decide)
        have st : ∀ k : Int32, 2 ≤ k.toInt ∧ k.toInt ≤ 5 → ok (d_comesOut_84 (d_comesOut_0 n) n F7 A J x1 k) (fun r => IFm r.2.1 ∧ IAm r.2.2.1 ∧ (∀ q, q ∉ ([56, 60] : List Nat) → r.2.1 q = F q) ∧ (∀ q, q ∉ ([42, 43] : List Nat) → r.2.2.1 q = A q) ∧ OBm A r.2.2.1 c s ∧ EXm r.2.1 r.2.2.1 c s 1 ∧ ((r.2.1 60).toInt = 0 ∨ ai A 44 ((r.2.1 60).toInt - 1) = 6 ∨ (x1.toInt ≠ 0 ∧ (ai A 44 ((r.2.1 60).toInt - 1) = 8 ∨ ai A 44 ((r.2.1 60).toInt - 1) = 9)))) := by
          intro k hk
          unfold d_comesOut_84
          refine ok_call (s_d_emit hF7 hA (by rw [f56]; omega) ⟨by omega, hk.2⟩) ?_
          rintro ⟨u, F2, A2, J2⟩ ⟨h1, h2, o3, o4, e5, e6, e7, e8⟩
          dsimp only at h1 h2 o3 o4 e5 e6 e7 e8 ⊢
          rw [f56] at e5 e6 e7 e8
          have k44 : A2 44 = A 44 := o4 44 (by decide)
          obtain ⟨z1, z2, z3, z4⟩ := w_fr (A := A) (A' := A2) w' (fun i _ => by rw [ai_fr k44])
          have f60 : (F2 60).toInt = (w' : Int) := by rw [o3 60 (by decide), k7, e]; omega
          have cw2 := cw.emit e8 e6 e7 (fun h => absurd h (by omega)) (fun _ => by omega)
          rw [if_neg (by omega), show wqs A (w' + 1) + 1 - 1 = wqs A w' + 1 by omega] at cw2
          have g12 : F2 12 = F 12 := (o3 12 (by decide)).trans (o7 12 (by decide))
          have g11 : F2 11 = F 11 := (o3 11 (by decide)).trans (o7 11 (by decide))
          have g13 : F2 13 = F 13 := (o3 13 (by decide)).trans (o7 13 (by decide))
          have E2 : EXm F2 A2 c s 1 := ⟨w', f60, z4 g.1, by rw [z1, g12]; omega, cs, by rw [z2, e5]; exact cw2, by rw [z2, e5, g11, g13]; omega⟩
          refine ok_mono (ih h1 h2 E2 (by omega)) ?_
          rintro ⟨ua, Fa, Aa, Ja⟩ ⟨j1, j2, j3, j4, j5, j6, j7⟩
          dsimp only at j1 j2 j3 j4 j5 j6 j7 ⊢
          rw [ai_fr k44] at j7
          refine ⟨j1, j2, fun q hq => (j3 q hq).trans ((o3 q (fun e => hq (by rw [e]; decide))).trans (o7 q (fun e => hq (by rw [e]; decide)))), fun q hq => (j4 q hq).trans (o4 q hq), OBm.tr (fun i p q => e8 i p ?_) j5, j6, j7⟩
          have := cw.2.1
          omega
        exact ok_cond (fun _ => ok_cond (fun _ => ok_cond (fun _ => st 5 (by decide)) (fun _ => st 4 (by decide))) (fun _ => st 3 (by decide))) (fun _ => st 2 (by decide))
      refine ok_cond (fun c2 => ?_) (fun c2 => ?_)
      · rw [i_eq] at c2
        exact ok_some ⟨hF, hA, fun _ _ => rfl, fun _ _ => rfl, fun _ _ _ => ⟨rfl, rfl⟩, E, .inr (.inl (show ai A 44 ((F 60).toInt - 1) = 6 by omega))⟩
      · rw [i_neq] at c2
        refine ok_cond (fun c3 => step (by omega)) (fun c3 => ?_)
        rw [i_neq] at c3
        refine ok_cond (fun c4 => ?_) (fun c4 => ?_)
        · rw [i_eq] at c4
          exact ok_some ⟨hF, hA, fun _ _ => rfl, fun _ _ => rfl, fun _ _ _ => ⟨rfl, rfl⟩, E, .inr (.inr ⟨by omega, .inl (show ai A 44 ((F 60).toInt - 1) = 8 by omega)⟩)⟩
        · refine ok_cond (fun c5 => step (by omega)) (fun c5 => ?_)
          rw [i_nne] at c5
          exact ok_some ⟨hF, hA, fun _ _ => rfl, fun _ _ => rfl, fun _ _ _ => ⟨rfl, rfl⟩, E, .inr (.inr ⟨by omega, .inr (show ai A 44 ((F 60).toInt - 1) = 9 by omega)⟩)⟩
theorem s_d_comesOut {n : Nat} {x1 : Int32} (hs : 0 ≤ s ∧ s ≤ 1) (hF : IFm F) (hA : IAm A) (E : EXm F A c s 1) (hn : (F 60).toInt < (n : Int)) : ok (d_comesOut n F A J x1) (fun r => IFm r.2.1 ∧ IAm r.2.2.1 ∧ (∀ q, q ∉ ([56, 60] : List Nat) → r.2.1 q = F q) ∧ (∀ q, q ∉ ([42, 43] : List Nat) → r.2.2.1 q = A q) ∧ OBm A r.2.2.1 c s ∧ EXm r.2.1 r.2.2.1 c s 1 ∧ ((r.2.1 60).toInt = 0 ∨ ai A 44 ((r.2.1 60).toInt - 1) = 6 ∨ (x1.toInt ≠ 0 ∧ (ai A 44 ((r.2.1 60).toInt - 1) = 8 ∨ ai A 44 ((r.2.1 60).toInt - 1) = 9)))) := by
  unfold d_comesOut
  exact s_d_comesOut_0 hs hF hA E hn
theorem s_d_unit (hs : 0 ≤ s ∧ s ≤ 1) (hF : IFm F) (hA : IAm A) (E : EXm F A c s 0) : ok (d_unit F A J) (fun r => IFm r.2.1 ∧ IAm r.2.2.1 ∧ (∀ q, q ∉ ([11, 13, 14, 56] : List Nat) → r.2.1 q = F q) ∧ (∀ q, q ∉ ([42, 43] : List Nat) → r.2.2.1 q = A q) ∧ OBm A r.2.2.1 c s ∧ (F 11).toInt ≤ (r.2.1 11).toInt ∧ ((1 ≤ (r.2.1 13).toInt ∧ c ≤ (r.2.1 56).toInt ∧ (r.2.1 56).toInt ≤ 420 * s + (r.2.1 11).toInt + 1) ∨ ((r.2.1 13).toInt = 0 ∧ (F 13).toInt = 0 ∧ (r.2.1 11).toInt = (F 11).toInt + 1 ∧ EXm r.2.1 r.2.2.1 c s 1))) := by
  have r56 : 0 ≤ (F 56).toInt ∧ (F 56).toInt ≤ 840 := hF 56
  have r11 : 0 ≤ (F 11).toInt ∧ (F 11).toInt ≤ 400 := hF 11
  have r13 : 0 ≤ (F 13).toInt ∧ (F 13).toInt ≤ 5 := hF 13
  have l0 : (0 : Int32).toInt = 0 := by decide
  have l1 : (1 : Int32).toInt = 1 := by decide
  have l2 : (2 : Int32).toInt = 2 := by decide
  have l35 : (35 : Int32).toInt = 35 := by decide
  have l40 : (40 : Int32).toInt = 40 := by decide
  obtain ⟨w, w60, g, wo, cs, cw, bd⟩ := E
  have wb := w_bd (A := A) w
  have cu := cw.2.1
  have fl : ok (d_unit_88 F A J) (fun r => IFm r.2.1 ∧ IAm r.2.2.1 ∧ (∀ q, q ∉ ([11, 13, 14, 56] : List Nat) → r.2.1 q = F q) ∧ (∀ q, q ∉ ([42, 43] : List Nat) → r.2.2.1 q = A q) ∧ OBm A r.2.2.1 c s ∧ (F 11).toInt ≤ (r.2.1 11).toInt ∧ ((1 ≤ (r.2.1 13).toInt ∧ c ≤ (r.2.1 56).toInt ∧ (r.2.1 56).toInt ≤ 420 * s + (r.2.1 11).toInt + 1) ∨ ((r.2.1 13).toInt = 0 ∧ (F 13).toInt = 0 ∧ (r.2.1 11).toInt = (F 11).toInt + 1 ∧ EXm r.2.1 r.2.2.1 c s 1))) := by
    unfold d_unit_88
    refine ok_call (s_d_fail hF hA (by decide)) ?_
    rintro ⟨u, F2, A2, J2⟩ ⟨h1, h2, o3, o4, e5⟩
    dsimp only at h1 h2 o3 o4 e5 ⊢
    have g11 : F2 11 = F 11 := o3 11 (by decide)
    have g56 : F2 56 = F 56 := o3 56 (by decide)
    have q13 : 0 ≤ (F2 13).toInt ∧ (F2 13).toInt ≤ 5 := h1 13
    have q12 := h1 12
    refine ok_some ⟨h1, h2, fun q hq => o3 q (fun e => hq ((by decide : ∀ x, x ∈ ([13, 14] : List Nat) → x ∈ ([11, 13, 14, 56] : List Nat)) q e)), fun q hq => o4 q (by simp), OBm.fr (o4 42 (by simp)) (o4 43 (by simp)), ?_, .inl ⟨e5, ?_, ?_⟩⟩
    · show (F 11).toInt ≤ (F2 11).toInt
      rw [g11]; omega
    · show c ≤ (F2 56).toInt
      rw [g56]; exact cu
    · show (F2 56).toInt ≤ 420 * s + (F2 11).toInt + 1
      rw [g56, g11]; omega
  have em : ∀ k v : Int32, (F 13).toInt = 0 → 0 ≤ k.toInt ∧ k.toInt ≤ 1 → (k.toInt = 1 → 0 ≤ v.toInt ∧ v.toInt ≤ 5) → ok ((d_emit F A J k v).bind fun (_, F10, A11, J12) => (d_goesOn F10 A11 J12).bind fun (_, F14, A15, J16) => some ((), F14, A15, J16)) (fun r => IFm r.2.1 ∧ IAm r.2.2.1 ∧ (∀ q, q ∉ ([11, 13, 14, 56] : List Nat) → r.2.1 q = F q) ∧ (∀ q, q ∉ ([42, 43] : List Nat) → r.2.2.1 q = A q) ∧ OBm A r.2.2.1 c s ∧ (F 11).toInt ≤ (r.2.1 11).toInt ∧ ((1 ≤ (r.2.1 13).toInt ∧ c ≤ (r.2.1 56).toInt ∧ (r.2.1 56).toInt ≤ 420 * s + (r.2.1 11).toInt + 1) ∨ ((r.2.1 13).toInt = 0 ∧ (F 13).toInt = 0 ∧ (r.2.1 11).toInt = (F 11).toInt + 1 ∧ EXm r.2.1 r.2.2.1 c s 1))) := by
    intro k v f0 hk hv
    refine ok_call (s_d_emit hF hA (by omega) ⟨hk.1, by omega⟩) ?_
    rintro ⟨u, F2, A2, J2⟩ ⟨h1, h2, o3, o4, e5, e6, e7, e8⟩
    dsimp only at h1 h2 o3 o4 e5 e6 e7 e8 ⊢
    have cw2 := cw.emit e8 e6 e7 hv (fun h => absurd h (by omega))
    rw [if_pos (by omega)] at cw2
    have k44 : A2 44 = A 44 := o4 44 (by decide)
    refine ok_call (s_d_goesOn h1 h2) ?_
    rintro ⟨u3, F3, A3, J3⟩ ⟨j1, j2, p3, p4, j5⟩
    dsimp only at j1 j2 p3 p4 j5 ⊢
    rw [o3 11 (by decide), o3 13 (by decide)] at j5
    have g56 : (F3 56).toInt = (F 56).toInt + 1 := by rw [p3 56 (by decide)]; exact e5
    have g60 : F3 60 = F 60 := (p3 60 (by decide)).trans (o3 60 (by decide))
    have g12 : F3 12 = F 12 := (p3 12 (by decide)).trans (o3 12 (by decide))
    have m44 : A3 44 = A 44 := (p4 44 (by simp)).trans k44
    obtain ⟨z1, z2, z3, z4⟩ := w_fr (A := A) (A' := A3) w (fun i _ => by rw [ai_fr m44])
    have ob : OBm A A3 c s := OBm.tr (fun i p q => e8 i p (by omega)) (OBm.fr (p4 42 (by simp)) (p4 43 (by simp)))
    refine ok_some ⟨j1, j2, fun q hq => (p3 q (fun e => hq ((by decide : ∀ x, x ∈ ([11, 13, 14] : List Nat) → x ∈ ([11, 13, 14, 56] : List Nat)) q e))).trans (o3 q (fun e => hq (by rw [e]; decide))), fun q hq => (p4 q (by simp)).trans (o4 q hq), ob, ?_, ?_⟩
    · show (F 11).toInt ≤ (F3 11).toInt
      omega
    · show (1 ≤ (F3 13).toInt ∧ c ≤ (F3 56).toInt ∧ (F3 56).toInt ≤ 420 * s + (F3 11).toInt + 1) ∨ ((F3 13).toInt = 0 ∧ (F 13).toInt = 0 ∧ (F3 11).toInt = (F 11).toInt + 1 ∧ EXm F3 A3 c s 1)
      rcases j5 with ⟨ja, jb⟩ | ⟨ja, jb⟩
      · refine .inr ⟨by omega, f0, ja, w, by rw [g60]; exact w60, z4 g, by rw [z1, g12]; exact wo, cs, ?_, by rw [z2, g56]; omega⟩
        rw [z2, g56, show wqs A w + 1 = wqs A w + 0 + 1 by omega]
        exact cw2.fr (p4 42 (by simp)) (p4 43 (by simp))
      · exact .inl ⟨jb, by omega, by omega⟩
  unfold d_unit
  refine ok_call (s_d_is hF hA) ?_
  intro v1 p1
  refine ok_cond (fun c1 => ?_) (fun c1 => ?_)
  · refine ok_cond (fun _ => fl) (fun c2 => ?_)
    rw [i_nne] at c2
    refine ok_ld (j := 3) hA (by omega) (by omega) ?_
    intro v4 v4e _
    refine ok_cond (fun _ => fl) (fun c3 => ?_)
    rw [i_nlt] at c3
    refine ok_ld (j := 3) hA (by omega) (by omega) ?_
    intro v6 v6e _
    refine ok_cond (fun _ => fl) (fun c4 => ?_)
    rw [i_ngt] at c4
    refine ok_ld (j := 3) hA (by omega) (by omega) ?_
    intro v8 v8e _
    have e8 := i_sub (x := v8) (y := 35) (by omega) (by omega)
    exact em 1 (v8 - 35) (by omega) (by decide) (fun _ => ⟨by omega, by omega⟩)
  · rw [i_neq] at c1
    refine ok_ld (j := 5) hA (by omega) (by omega) ?_
    intro v17 _ _
    exact em 0 v17 (by omega) (by decide) (fun h => absurd h (by decide))
end
