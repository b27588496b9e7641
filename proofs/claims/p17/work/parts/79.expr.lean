/-- what an expression leaves -/
def EQm (F : Nat → Int32) (A : Nat → Nat → Int32) (c s : Int) (r : Unit × (Nat → Int32) × (Nat → Nat → Int32) × (Nat → Nat → Int64)) : Prop := IFm r.2.1 ∧ IAm r.2.2.1 ∧ EBm F r.2.1 A r.2.2.1 c s ∧ c ≤ (r.2.1 56).toInt ∧ (r.2.1 56).toInt ≤ 420 * s + (r.2.1 11).toInt + 1 ∧ (1 ≤ (r.2.1 13).toInt ∨ ((r.2.1 56).toInt ≤ 420 * s + (r.2.1 11).toInt ∧ (r.2.1 12).toInt = 0 ∧ WFm r.2.2.1 c (r.2.1 56).toInt))
section
variable {F F0 : Nat → Int32} {A A0 : Nat → Nat → Int32} {J : Nat → Nat → Int64} {c s t : Int} {x1 : Int32}
variable {K12 : (Nat → Int32) → (Nat → Nat → Int32) → (Nat → Nat → Int64) → Int32 → Int32 → Option (Unit × (Nat → Int32) × (Nat → Nat → Int32) × (Nat → Nat → Int64))}
theorem s_d_expression_234 {n : Nat} {s1 k : Int32} (hs : 0 ≤ s ∧ s ≤ 1) (hF : IFm F) (hA : IAm A) (B : EBm F0 F A0 A c s) (E : EXm F A c s 1) (f13 : (F 13).toInt = 0) (f12 : (F 12).toInt ≤ 6) (ht : t < (F 11).toInt) (hk : ai A 3 (F 11).toInt = k.toInt) (kk : (8 ≤ k.toInt ∧ k.toInt ≤ 9 ∧ s1.toInt = 0) ∨ (10 ≤ k.toInt ∧ k.toInt ≤ 15 ∧ s1.toInt ≠ 0)) (hn : (F 60).toInt < (n : Int))
    (hK : ∀ F A J, IFm F → IAm A → EBm F0 F A0 A c s → EXm F A c s 0 → (F 12).toInt ≤ 6 → (t < (F 11).toInt ∨ 1 ≤ (F 13).toInt) → ok (K12 F A J x1 1) (EQm F0 A0 c s)) : ok (d_expression_234 K12 n F A J x1 1 s1) (EQm F0 A0 c s) := by
  have r11 : 0 ≤ (F 11).toInt ∧ (F 11).toInt ≤ 400 := hF 11
  have l1 : (1 : Int32).toInt = 1 := by decide
  unfold d_expression_234
  refine ok_call (s_d_comesOut hs hF hA E hn) ?_
  rintro ⟨u, F2, A2, J2⟩ ⟨h1, h2, o3, o4, ob, E2, tp⟩
  dsimp only at h1 h2 o3 o4 ob E2 tp ⊢
  have g11 : F2 11 = F 11 := o3 11 (by decide)
  have g12 : F2 12 = F 12 := o3 12 (by decide)
  have g13 : F2 13 = F 13 := o3 13 (by decide)
  have k3 : A2 3 = A 3 := o4 3 (by decide)
  have k44 : A2 44 = A 44 := o4 44 (by decide)
  obtain ⟨w, w60, g, wo, cs, cw, bd⟩ := E2
  have wb := w_bd (A := A2) w
  have wb2 := wb.2.2.2.2 g
  rw [g12] at wo
  rw [g11, g13] at bd
  refine ok_ld (j := 3) h2 (by rw [g11]; omega) (by rw [g11]; omega) ?_
  intro v ve _
  rw [g11, ai_fr k3, hk] at ve
  refine ok_st (j := 44) h2 (by omega) (by omega) trivial ?_
  intro A3 hA3 o5 s5 n5
  have e6 := i_add (x := F2 60) (y := 1) (by omega) (by omega)
  refine ok_pf h1 (show 0 ≤ (F2 60 + 1).toInt ∧ (F2 60 + 1).toInt ≤ 64 by omega) ?_
  intro F3 hF3 k7 o7
  refine ok_call (s_d_goesOn hF3 hA3) ?_
  rintro ⟨u4, F4, A4, J4⟩ ⟨j1, j2, p3, p4, j5⟩
  dsimp only at j1 j2 p3 p4 j5 ⊢
  have q11 : F3 11 = F 11 := (o7 11 (by decide)).trans g11
  have q13 : F3 13 = F 13 := (o7 13 (by decide)).trans g13
  rw [q11, q13] at j5
  have q12 : F4 12 = F 12 := (p3 12 (by decide)).trans ((o7 12 (by decide)).trans g12)
  have q56 : F4 56 = F2 56 := (p3 56 (by decide)).trans (o7 56 (by decide))
  have q60 : (F4 60).toInt = ((w + 1 : Nat) : Int) := by rw [p3 60 (by decide), k7]; omega
  have m44 : A4 44 = A3 44 := p4 44 (by simp)
  have bel : ∀ i : Nat, i < w → ai A4 44 (i : Int) = ai A2 44 (i : Int) := fun i hi => by rw [ai_fr m44, n5 _ (by omega) (by omega)]
  obtain ⟨z1, z2, z3, z4⟩ := w_fr (A := A2) (A' := A4) w bel
  have top : ai A4 44 (w : Int) = k.toInt := by rw [ai_fr m44, ← w60, s5]; exact ve
  have ne6 : ai A4 44 (w : Int) ≠ 6 := by rw [top]; omega
  have y1 : wop A4 (w + 1) = wop A4 w := if_neg ne6
  have y2 : wqs A4 (w + 1) = wqs A4 w + 1 := if_neg ne6
  have ru : wru A2 w = 0 ∨ (wru A2 w = 1 ∧ 10 ≤ k.toInt) := by
    rcases tp with h | h
    · have : w = 0 := by omega
      subst this
      exact .inl rfl
    · by_cases hw : w = 0
      · subst hw; exact .inl rfl
      · obtain ⟨w', rfl⟩ : ∃ w', w = w' + 1 := ⟨w - 1, by omega⟩
        rw [show (F2 60).toInt - 1 = (w' : Int) by omega, ← ai_fr k44] at h
        rcases h with h | ⟨h, h'⟩
        · exact .inl (if_pos h)
        · have n6 : ai A2 44 (w' : Int) ≠ 6 := by omega
          have y3 : wru A2 (w' + 1) = wru A2 w' + 1 := if_neg n6
          have gg := g.2
          exact .inr ⟨by omega, by omega⟩
  have E4 : EXm F4 A4 c s 0 := by
    refine ⟨w + 1, q60, ⟨z4 g, .inr (by rw [z3, top]; exact ru)⟩, by rw [y1, z1, q12]; exact wo, cs, ?_, ?_⟩
    · rw [y2, z2, q56, show wqs A2 w + 1 + 0 = wqs A2 w + 1 by omega]
      exact cw.fr ((p4 42 (by simp)).trans (o5 42 (by decide))) ((p4 43 (by simp)).trans (o5 43 (by decide)))
    · rw [y2, z2, q56]; omega
  have B4 : EBm F0 F4 A0 A4 c s := B.go (fun q hq => (p3 q (fun e => hq ((by decide : ∀ x, x ∈ ([11, 13, 14] : List Nat) → x ∈ ([11, 12, 13, 14, 56, 60] : List Nat)) q e))).trans ((o7 q (fun e => hq (by rw [e]; decide))).trans (o3 q (fun e => hq ((by decide : ∀ x, x ∈ ([56, 60] : List Nat) → x ∈ ([11, 12, 13, 14, 56, 60] : List Nat)) q e))))) (fun q hq => (p4 q (by simp)).trans ((o5 q (fun e => hq (by rw [e]; decide))).trans (o4 q (fun e => hq ((by decide : ∀ x, x ∈ ([42, 43] : List Nat) → x ∈ ([42, 43, 44] : List Nat)) q e))))) (ob.tr (OBm.fr ((p4 42 (by simp)).trans (o5 42 (by decide))) ((p4 43 (by simp)).trans (o5 43 (by decide))))) (by omega) (fun h => by omega)
  exact hK F4 A4 J4 j1 j2 B4 E4 (by rw [q12]; exact f12) (by omega)
theorem s_d_expression_186 {n : Nat} {s0 : Int32} (hs : 0 ≤ s ∧ s ≤ 1) (hF : IFm F) (hA : IAm A) (B : EBm F0 F A0 A c s) (E : EXm F A c s 1) (f12 : (F 12).toInt ≤ 6) (hx : x1.toInt = 0) (h0 : s0.toInt = 0 ∨ (s0 = 1 ∧ (F 13).toInt = 0 ∧ 8 ≤ ai A 3 (F 11).toInt ∧ (ai A 3 (F 11).toInt ≤ 10 ∨ ai A 3 (F 11).toInt = 15) ∧ t < (F 11).toInt)) (hn : (F 60).toInt < (n : Int))
    (hK : ∀ F A J, IFm F → IAm A → EBm F0 F A0 A c s → EXm F A c s 0 → (F 12).toInt ≤ 6 → (t < (F 11).toInt ∨ 1 ≤ (F 13).toInt) → ok (K12 F A J x1 1) (EQm F0 A0 c s)) : ok (d_expression_186 K12 n F A J x1 s0) (EQm F0 A0 c s) := by
  have l0 : (0 : Int32).toInt = 0 := by decide
  have l1 : (1 : Int32).toInt = 1 := by decide
  have l10 : (10 : Int32).toInt = 10 := by decide
  have l15 : (15 : Int32).toInt = 15 := by decide
  have r11 : 0 ≤ (F 11).toInt ∧ (F 11).toInt ≤ 400 := hF 11
  obtain ⟨k, hk⟩ : ∃ k : Int32, ai A 3 (F 11).toInt = k.toInt := ⟨A 3 (F 11).toInt.toNat, rfl⟩
  unfold d_expression_186
  refine ok_cond (fun c1 => ?_) (fun c1 => ?_)
  · rw [i_ne] at c1
    rcases h0 with h0 | ⟨rfl, f13, k8, k15, ht⟩
    · exact absurd h0 (by omega)
    · have go : ∀ s1 : Int32, ((8 ≤ k.toInt ∧ k.toInt ≤ 9 ∧ s1.toInt = 0) ∨ (10 ≤ k.toInt ∧ k.toInt ≤ 15 ∧ s1.toInt ≠ 0)) → ok (d_expression_234 K12 n F A J x1 1 s1) (EQm F0 A0 c s) := fun s1 h => s_d_expression_234 hs hF hA B E f13 f12 ht hk h hn hK
      refine ok_call (s_d_is hF hA) ?_
      intro v p
      refine ok_cond (fun c2 => ?_) (fun c2 => ?_)
      · rw [i_ne] at c2
        unfold d_expression_229
        exact go 1 (.inr ⟨by omega, by omega, by omega⟩)
      · rw [i_nne] at c2
        refine ok_call (s_d_is hF hA) ?_
        intro v' p'
        refine ok_cond (fun c3 => ?_) (fun c3 => ?_)
        · rw [i_eq] at c3
          exact go 0 (.inl ⟨by omega, by omega, by omega⟩)
        · rw [i_neq] at c3
          unfold d_expression_229
          exact go 1 (.inr ⟨by omega, by omega, by omega⟩)
  · have fin : ∀ {F' A' J'}, IFm F' → IAm A' → EBm F0 F' A0 A' c s → EXm F' A' c s 1 → ((F' 12).toInt = 0 ∨ 1 ≤ (F' 13).toInt) → (F' 60).toInt < (n : Int) → ok ((d_comesOut n F' A' J' 0).bind fun (_, F77, A78, J79) => some ((), F77, A78, J79)) (EQm F0 A0 c s) := by
      intro F' A' J' hF' hA' B' E' hz hn'
      refine ok_call (s_d_comesOut hs hF' hA' E' hn') ?_
      rintro ⟨u, F2, A2, J2⟩ ⟨h1, h2, o3, o4, ob, E2, tp⟩
      dsimp only at h1 h2 o3 o4 ob E2 tp ⊢
      obtain ⟨w, w60, g, wo, cs, cw, bd⟩ := E2
      have wb := w_bd (A := A2) w
      have g12 : F2 12 = F' 12 := o3 12 (by decide)
      have g13 : F2 13 = F' 13 := o3 13 (by decide)
      have g11 : F2 11 = F' 11 := o3 11 (by decide)
      have q11 : 0 ≤ (F2 11).toInt ∧ (F2 11).toInt ≤ 400 := h1 11
      have cu := cw.2.1
      have B2 : EBm F0 F2 A0 A2 c s := B'.go (fun q hq => o3 q (fun e => hq ((by decide : ∀ x, x ∈ ([56, 60] : List Nat) → x ∈ ([11, 12, 13, 14, 56, 60] : List Nat)) q e))) (fun q hq => o4 q (fun e => hq ((by decide : ∀ x, x ∈ ([42, 43] : List Nat) → x ∈ ([42, 43, 44] : List Nat)) q e))) ob (by rw [g11]; omega) (fun h => by rw [g13]; exact h)
      refine ok_some ⟨h1, h2, B2, cu, (show (F2 56).toInt ≤ 420 * s + (F2 11).toInt + 1 by omega), ?_⟩
      show 1 ≤ (F2 13).toInt ∨ ((F2 56).toInt ≤ 420 * s + (F2 11).toInt ∧ (F2 12).toInt = 0 ∧ WFm A2 c (F2 56).toInt)
      by_cases h : 1 ≤ (F2 13).toInt
      · exact .inl h
      · rw [g12]
        have h' := h
        rw [g13] at h'
        exact .inr ⟨by omega, by omega, cw.wf (by omega) (by omega)⟩
    have r12 : 0 ≤ (F 12).toInt ∧ (F 12).toInt ≤ 7 := hF 12
    refine ok_cond (fun c2 => ?_) (fun c2 => ?_)
    · rw [i_le] at c2
      unfold d_expression_204
      exact fin hF hA B E (.inl (by omega)) hn
    · refine ok_call (s_d_fail hF hA (by decide)) ?_
      rintro ⟨u, F2, A2, J2⟩ ⟨h1, h2, o3, o4, e5⟩
      dsimp only at h1 h2 o3 o4 e5 ⊢
      have g12 : F2 12 = F 12 := o3 12 (by decide)
      have g11 : F2 11 = F 11 := o3 11 (by decide)
      have g56 : F2 56 = F 56 := o3 56 (by decide)
      have g60 : F2 60 = F 60 := o3 60 (by decide)
      obtain ⟨w, w60, g, wo, cs, cw, bd⟩ := E
      obtain ⟨z1, z2, z3, z4⟩ := w_fr (A := A) (A' := A2) w (fun i _ => by rw [ai_fr (o4 44 (by simp))])
      refine fin h1 h2 (B.go (fun q hq => o3 q (fun e => hq ((by decide : ∀ x, x ∈ ([13, 14] : List Nat) → x ∈ ([11, 12, 13, 14, 56, 60] : List Nat)) q e))) (fun q hq => o4 q (by simp)) (OBm.fr (o4 42 (by simp)) (o4 43 (by simp))) (by rw [g11]; omega) (fun _ => e5)) ⟨w, by rw [g60]; exact w60, z4 g, by rw [z1, g12]; exact wo, cs, ?_, by rw [z2, g56, g11]; exact ⟨bd.1, .inl e5⟩⟩ (.inr e5) (by rw [g60]; exact hn)
      rw [z2, g56]
      exact cw.fr (o4 42 (by simp)) (o4 43 (by simp))
theorem s_d_expression_145 {n : Nat} (hs : 0 ≤ s ∧ s ≤ 1) (hF : IFm F) (hA : IAm A) (B : EBm F0 F A0 A c s) (E : EXm F A c s 1) (f12 : (F 12).toInt ≤ 6) (hx : x1.toInt = 0) (ht : t < (F 11).toInt) (hn : (F 60).toInt < (n : Int))
    (hK : ∀ F A J, IFm F → IAm A → EBm F0 F A0 A c s → EXm F A c s 0 → (F 12).toInt ≤ 6 → (t < (F 11).toInt ∨ 1 ≤ (F 13).toInt) → ok (K12 F A J x1 1) (EQm F0 A0 c s)) : ok (d_expression_145 K12 n F A J x1) (EQm F0 A0 c s) := by
  have l0 : (0 : Int32).toInt = 0 := by decide
  have l8 : (8 : Int32).toInt = 8 := by decide
  have l9 : (9 : Int32).toInt = 9 := by decide
  have l10 : (10 : Int32).toInt = 10 := by decide
  have l15 : (15 : Int32).toInt = 15 := by decide
  have r11 : 0 ≤ (F 11).toInt ∧ (F 11).toInt ≤ 400 := hF 11
  have go : (F 13).toInt = 0 → 8 ≤ ai A 3 (F 11).toInt → (ai A 3 (F 11).toInt ≤ 10 ∨ ai A 3 (F 11).toInt = 15) → ok (d_expression_181 K12 n F A J x1) (EQm F0 A0 c s) := fun h1 h2 h3 => by
    unfold d_expression_181
    exact s_d_expression_186 hs hF hA B E f12 hx (.inr ⟨rfl, h1, h2, h3, ht⟩) hn hK
  unfold d_expression_145
  refine ok_call (s_d_is hF hA) ?_
  intro v p
  refine ok_cond (fun c2 => ?_) (fun c2 => ?_)
  · rw [i_ne] at c2
    exact go (by omega) (by omega) (by omega)
  · refine ok_call (s_d_is hF hA) ?_
    intro v p
    refine ok_cond (fun c2 => ?_) (fun c2 => ?_)
    · rw [i_ne] at c2
      exact go (by omega) (by omega) (by omega)
    · refine ok_call (s_d_is hF hA) ?_
      intro v p
      refine ok_cond (fun c2 => ?_) (fun c2 => ?_)
      · rw [i_ne] at c2
        exact go (by omega) (by omega) (by omega)
      · refine ok_call (s_d_is hF hA) ?_
        intro v p
        refine ok_cond (fun c2 => ?_) (fun c2 => ?_)
        · exact s_d_expression_186 hs hF hA B E f12 hx (t := t) (.inl (by decide)) hn hK
        · rw [i_neq] at c2
          exact go (by omega) (by omega) (by omega)
theorem s_d_expression_96 (hs : 0 ≤ s ∧ s ≤ 1) (hx : x1.toInt = 0)
    (hK : ∀ F A J, IFm F → IAm A → EBm F0 F A0 A c s → EXm F A c s 0 → (F 12).toInt ≤ 6 → (t < (F 11).toInt ∨ 1 ≤ (F 13).toInt) → ok (K12 F A J x1 1) (EQm F0 A0 c s)) : ∀ {n : Nat} {F : Nat → Int32} {A : Nat → Nat → Int32} {J : Nat → Nat → Int64}, IFm F → IAm A → EBm F0 F A0 A c s → EXm F A c s 1 → (F 12).toInt ≤ 6 → t < (F 11).toInt → (F 12).toInt + 70 < (n : Int) → ok (d_expression_96 K12 n F A J x1) (EQm F0 A0 c s) := by
  intro n
  induction n with
  | zero =>
    intro F A J hF hA B E f12 ht hn
    have r12 : 0 ≤ (F 12).toInt ∧ (F 12).toInt ≤ 7 := hF 12
    exact absurd hn (by omega)
  | succ n ih =>
    intro F A J hF hA B E f12 ht hn
    have r60 : 0 ≤ (F 60).toInt ∧ (F 60).toInt ≤ 64 := hF 60
    have r12 : 0 ≤ (F 12).toInt ∧ (F 12).toInt ≤ 7 := hF 12
    have r11 : 0 ≤ (F 11).toInt ∧ (F 11).toInt ≤ 400 := hF 11
    have l0 : (0 : Int32).toInt = 0 := by decide
    have l1 : (1 : Int32).toInt = 1 := by decide
    have go : ok (d_expression_145 K12 n F A J x1) (EQm F0 A0 c s) := s_d_expression_145 hs hF hA B E f12 hx ht (by omega) hK
    unfold d_expression_96
    refine ok_call (s_d_is hF hA) ?_
    intro v p
    refine ok_cond (fun c1 => go) (fun c1 => ?_)
    rw [i_neq] at c1
    refine ok_cond (fun c2 => go) (fun c2 => ?_)
    rw [i_nle] at c2
    refine ok_call (s_d_comesOut hs hF hA E (by omega)) ?_
    rintro ⟨u, F2, A2, J2⟩ ⟨h1, h2, o3, o4, ob, E2, tp⟩
    dsimp only at h1 h2 o3 o4 ob E2 tp ⊢
    obtain ⟨w, w60, g, wo, cs, cw, bd⟩ := E2
    have wb := w_bd (A := A2) w
    have g11 : F2 11 = F 11 := o3 11 (by decide)
    have g12 : F2 12 = F 12 := o3 12 (by decide)
    have g13 : F2 13 = F 13 := o3 13 (by decide)
    have k44 : A2 44 = A 44 := o4 44 (by decide)
    have q60 : 0 ≤ (F2 60).toInt ∧ (F2 60).toInt ≤ 64 := h1 60
    rw [g12] at wo
    rw [g11, g13] at bd
    obtain ⟨w', rfl⟩ : ∃ w', w = w' + 1 := ⟨w - 1, by
      by_cases hw : w = 0
      · subst hw
        have : wop A2 0 = 0 := rfl
        omega
      · omega⟩
    have t6 : ai A2 44 (w' : Int) = 6 := by
      rw [show (F2 60).toInt - 1 = (w' : Int) by omega, ← ai_fr k44] at tp
      omega
    have y1 : wop A2 (w' + 1) = wop A2 w' + 1 := if_pos t6
    have y2 : wqs A2 (w' + 1) = wqs A2 w' := if_pos t6
    have e3 := i_sub (x := F2 60) (y := 1) (by omega) (by omega)
    refine ok_pf h1 (show 0 ≤ (F2 60 - 1).toInt ∧ (F2 60 - 1).toInt ≤ 64 by omega) ?_
    intro F3 hF3 k3 p3
    have q12 : F3 12 = F 12 := (p3 12 (by decide)).trans g12
    have e4 := i_sub (x := F3 12) (y := 1) (by rw [q12]; omega) (by rw [q12]; omega)
    refine ok_pf hF3 (show 0 ≤ (F3 12 - 1).toInt ∧ (F3 12 - 1).toInt ≤ 7 by rw [e4, q12]; omega) ?_
    intro F4 hF4 k4 p4
    refine ok_call (s_d_goesOn hF4 h2) ?_
    rintro ⟨u5, F5, A5, J5⟩ ⟨j1, j2, m3, m4, j5⟩
    dsimp only at j1 j2 m3 m4 j5 ⊢
    have q11 : F4 11 = F 11 := (p4 11 (by decide)).trans ((p3 11 (by decide)).trans g11)
    have q13 : F4 13 = F 13 := (p4 13 (by decide)).trans ((p3 13 (by decide)).trans g13)
    rw [q11, q13] at j5
    have z60 : (F5 60).toInt = (w' : Int) := by rw [m3 60 (by decide), p4 60 (by decide), k3]; omega
    have z12 : (F5 12).toInt = (F 12).toInt - 1 := by rw [m3 12 (by decide), k4, e4, q12]; omega
    have z56 : F5 56 = F2 56 := (m3 56 (by decide)).trans ((p4 56 (by decide)).trans (p3 56 (by decide)))
    obtain ⟨z1, z2, z3, z4⟩ := w_fr (A := A2) (A' := A5) w' (fun i _ => by rw [ai_fr (m4 44 (by simp))])
    refine ih j1 j2 (B.go (fun q hq => (m3 q (fun e => hq ((by decide : ∀ x, x ∈ ([11, 13, 14] : List Nat) → x ∈ ([11, 12, 13, 14, 56, 60] : List Nat)) q e))).trans ((p4 q (fun e => hq (by rw [e]; decide))).trans ((p3 q (fun e => hq (by rw [e]; decide))).trans (o3 q (fun e => hq ((by decide : ∀ x, x ∈ ([56, 60] : List Nat) → x ∈ ([11, 12, 13, 14, 56, 60] : List Nat)) q e)))))) (fun q hq => (m4 q (by simp)).trans (o4 q (fun e => hq ((by decide : ∀ x, x ∈ ([42, 43] : List Nat) → x ∈ ([42, 43, 44] : List Nat)) q e)))) (ob.tr (OBm.fr (m4 42 (by simp)) (m4 43 (by simp)))) (by omega) (fun h => by omega)) ⟨w', z60, z4 g.1, by rw [z1, z12]; omega, cs, ?_, by rw [z2, z56]; omega⟩ (by omega) (by omega) (by omega)
    rw [z2, z56, ← y2]
    exact cw.fr (m4 42 (by simp)) (m4 43 (by simp))
theorem s_d_expression_23 (hs : 0 ≤ s ∧ s ≤ 1) (hx : x1.toInt = 0)
    (hK : ∀ F A J, IFm F → IAm A → EBm F0 F A0 A c s → EXm F A c s 0 → (F 12).toInt ≤ 6 → (t < (F 11).toInt ∨ 1 ≤ (F 13).toInt) → ok (K12 F A J x1 1) (EQm F0 A0 c s)) : ∀ {n : Nat} {F : Nat → Int32} {A : Nat → Nat → Int32} {J : Nat → Nat → Int64}, IFm F → IAm A → EBm F0 F A0 A c s → EXm F A c s 0 → ((F 12).toInt ≤ 6 ∨ 1 ≤ (F 13).toInt) → t ≤ (F 11).toInt → 90 - (F 12).toInt < (n : Int) → ok (d_expression_23 K12 n F A J x1) (EQm F0 A0 c s) := by
  intro n
  induction n with
  | zero =>
    intro F A J hF hA B E f12 ht hn
    have r12 : 0 ≤ (F 12).toInt ∧ (F 12).toInt ≤ 7 := hF 12
    exact absurd hn (by omega)
  | succ n ih =>
    intro F A J hF hA B E f12 ht hn
    have r60 : 0 ≤ (F 60).toInt ∧ (F 60).toInt ≤ 64 := hF 60
    have r12 : 0 ≤ (F 12).toInt ∧ (F 12).toInt ≤ 7 := hF 12
    have r11 : 0 ≤ (F 11).toInt ∧ (F 11).toInt ≤ 400 := hF 11
    have l0 : (0 : Int32).toInt = 0 := by decide
    have l1 : (1 : Int32).toInt = 1 := by decide
    have l6 : (6 : Int32).toInt = 6 := by decide
    unfold d_expression_23
    refine ok_call (s_d_is hF hA) ?_
    intro v p
    refine ok_cond (fun c1 => ?_) (fun c1 => ?_)
    · refine ok_call (s_d_unit hs hF hA E) ?_
      rintro ⟨u, F2, A2, J2⟩ ⟨h1, h2, o3, o4, ob, m11, un⟩
      dsimp only at h1 h2 o3 o4 ob m11 un ⊢
      have r13 : 0 ≤ (F 13).toInt ∧ (F 13).toInt ≤ 5 := hF 13
      have B2 : EBm F0 F2 A0 A2 c s := B.go (fun q hq => o3 q (fun e => hq ((by decide : ∀ x, x ∈ ([11, 13, 14, 56] : List Nat) → x ∈ ([11, 12, 13, 14, 56, 60] : List Nat)) q e))) (fun q hq => o4 q (fun e => hq ((by decide : ∀ x, x ∈ ([42, 43] : List Nat) → x ∈ ([42, 43, 44] : List Nat)) q e))) ob m11 (fun h => by omega)
      have g12 : F2 12 = F 12 := o3 12 (by decide)
      refine ok_cond (fun c2 => ?_) (fun c2 => ?_)
      · rw [i_le] at c2
        rcases un with ⟨ua, ub, uc⟩ | ⟨ua, ub, uc, ud⟩
        · exact absurd ua (by omega)
        · exact s_d_expression_96 hs hx hK h1 h2 B2 ud (by rw [g12]; omega) (by omega) (by rw [g12]; omega)
      · rw [i_nle] at c2
        rcases un with ⟨ua, ub, uc⟩ | ⟨ua, ub, uc, ud⟩
        · exact ok_some ⟨h1, h2, B2, ub, uc, .inl ua⟩
        · exact absurd ua (by omega)
    · rw [i_neq] at c1
      obtain ⟨w, w60, g, wo, cs, cw, bd⟩ := E
      have wb := w_bd (A := A) w
      have wb2 := wb.2.2.2.2 g
      have e3 := i_add (x := F 12) (y := 1) (by omega) (by omega)
      have push : ∀ {F1 A1 J1}, IFm F1 → (∀ q, q ∉ ([13, 14] : List Nat) → F1 q = F q) → (∀ q, q ∉ ([] : List Nat) → A1 q = A q) → IAm A1 → ((F 12).toInt < 6 ∨ 1 ≤ (F1 13).toInt) → ok ((m_pf F1 12 ((F1 12) + 1)).bind fun F36 => (d_goesOn F36 A1 J1).bind fun (_, F38, A39, J40) => (m_st A39 44 64 (F38 60) 6).bind fun A41 => (m_pf F38 60 ((F38 60) + 1)).bind fun F42 => d_expression_23 K12 n F42 A41 J40 x1) (EQm F0 A0 c s) := by
        intro F1 A1 J1 hF1 oF oA hA1 hb
        have a12 : F1 12 = F 12 := oF 12 (by decide)
        refine ok_pf hF1 (show 0 ≤ (F1 12 + 1).toInt ∧ (F1 12 + 1).toInt ≤ 7 by rw [a12]; omega) ?_
        intro F2 hF2 k2 p2
        refine ok_call (s_d_goesOn hF2 hA1) ?_
        rintro ⟨u3, F3, A3, J3⟩ ⟨j1, j2, m3, m4, j5⟩
        dsimp only at j1 j2 m3 m4 j5 ⊢
        have q11 : F2 11 = F 11 := (p2 11 (by decide)).trans (oF 11 (by decide))
        have q13 : F2 13 = F1 13 := p2 13 (by decide)
        have q60 : F3 60 = F 60 := (m3 60 (by decide)).trans ((p2 60 (by decide)).trans (oF 60 (by decide)))
        have q12 : (F3 12).toInt = (F 12).toInt + 1 := by rw [m3 12 (by decide), k2, a12]; omega
        have q56 : F3 56 = F 56 := (m3 56 (by decide)).trans ((p2 56 (by decide)).trans (oF 56 (by decide)))
        rw [q11, q13] at j5
        have r1 : 0 ≤ (F1 13).toInt ∧ (F1 13).toInt ≤ 5 := hF1 13
        refine ok_st (j := 44) j2 (by rw [q60]; omega) (by rw [q60]; omega) trivial ?_
        intro A4 hA4 o4 s4 n4
        rw [q60] at s4 n4
        have e5 := i_add (x := F3 60) (y := 1) (by rw [q60]; omega) (by rw [q60]; omega)
        refine ok_pf j1 (show 0 ≤ (F3 60 + 1).toInt ∧ (F3 60 + 1).toInt ≤ 64 by rw [e5, q60]; omega) ?_
        intro F5 hF5 k5 p5
        have x60 : (F5 60).toInt = ((w + 1 : Nat) : Int) := by rw [k5, e5, q60]; omega
        have x12 : (F5 12).toInt = (F 12).toInt + 1 := by rw [p5 12 (by decide)]; exact q12
        have x11 : F5 11 = F3 11 := p5 11 (by decide)
        have x13 : F5 13 = F3 13 := p5 13 (by decide)
        have x56 : F5 56 = F 56 := (p5 56 (by decide)).trans q56
        have a44 : ∀ q, A3 q = A q := fun q => (m4 q (by simp)).trans (oA q (by simp))
        obtain ⟨z1, z2, z3, z4⟩ := w_fr (A := A) (A' := A4) w (fun i hi => by rw [n4 _ (by omega) (by omega), ai_fr (a44 44)])
        have t6 : ai A4 44 (w : Int) = 6 := by rw [← w60, s4]; exact l6
        have y1 : wop A4 (w + 1) = wop A4 w + 1 := if_pos t6
        have y2 : wqs A4 (w + 1) = wqs A4 w := if_pos t6
        have o42 : A4 42 = A 42 := (o4 42 (by decide)).trans (a44 42)
        have o43 : A4 43 = A 43 := (o4 43 (by decide)).trans (a44 43)
        refine ih hF5 hA4 (B.go (fun q hq => (p5 q (fun e => hq (by rw [e]; decide))).trans ((m3 q (fun e => hq ((by decide : ∀ x, x ∈ ([11, 13, 14] : List Nat) → x ∈ ([11, 12, 13, 14, 56, 60] : List Nat)) q e))).trans ((p2 q (fun e => hq (by rw [e]; decide))).trans (oF q (fun e => hq ((by decide : ∀ x, x ∈ ([13, 14] : List Nat) → x ∈ ([11, 12, 13, 14, 56, 60] : List Nat)) q e)))))) (fun q hq => (o4 q (fun e => hq (by rw [e]; decide))).trans (a44 q)) (OBm.fr o42 o43) (by rw [x11]; omega) (fun h => by rw [x13]; omega)) ⟨w + 1, x60, ⟨z4 g, .inl t6⟩, by rw [y1, z1, x12]; omega, cs, ?_, by rw [y2, z2, x56, x11, x13]; omega⟩ (by rw [x12, x13]; omega) (by rw [x11]; omega) (by omega)
        rw [y2, z2, x56]
        exact cw.fr o42 o43
      refine ok_cond (fun c2 => ?_) (fun c2 => ?_)
      · rw [i_ne] at c2
        unfold d_expression_46
        exact push hF (fun _ _ => rfl) (fun _ _ => rfl) hA (.inl (by omega))
      · refine ok_call (s_d_fail hF hA (by decide)) ?_
        rintro ⟨u3, F3, A3, J3⟩ ⟨j1, j2, m3, m4, j5⟩
        dsimp only at j1 j2 m3 m4 j5 ⊢
        exact push j1 m3 m4 j2 (.inr j5)
end
theorem s_d_expression_12 {c s : Int} {F0 : Nat → Int32} {A0 : Nat → Nat → Int32} {x1 : Int32} (hs : 0 ≤ s ∧ s ≤ 1) (hx : x1.toInt = 0) : ∀ {n : Nat} {F : Nat → Int32} {A : Nat → Nat → Int32} {J : Nat → Nat → Int64}, IFm F → IAm A → EBm F0 F A0 A c s → EXm F A c s 0 → (F 12).toInt ≤ 6 → ((1 ≤ (F 13).toInt ∧ 1 ≤ n) ∨ 600 - (F 11).toInt < (n : Int)) → ok (d_expression_12 n F A J x1 1) (EQm F0 A0 c s) := by
  intro n
  induction n with
  | zero =>
    intro F A J hF hA B E f12 hn
    have r11 : 0 ≤ (F 11).toInt ∧ (F 11).toInt ≤ 400 := hF 11
    exact absurd hn (by omega)
  | succ n ih =>
    intro F A J hF hA B E f12 hn
    have r11 : 0 ≤ (F 11).toInt ∧ (F 11).toInt ≤ 400 := hF 11
    have r12 : 0 ≤ (F 12).toInt ∧ (F 12).toInt ≤ 7 := hF 12
    have r13 : 0 ≤ (F 13).toInt ∧ (F 13).toInt ≤ 5 := hF 13
    have l0 : (0 : Int32).toInt = 0 := by decide
    unfold d_expression_12
    refine ok_cond (fun c1 => absurd c1 (by decide)) (fun _ => ?_)
    refine ok_cond (fun c1 => ?_) (fun c1 => ?_)
    · rw [i_ne] at c1
      obtain ⟨w, w60, g, wo, cs, cw, bd⟩ := E
      have wb := w_bd (A := A) w
      exact ok_some ⟨hF, hA, B, cw.2.1, (show (F 56).toInt ≤ 420 * s + (F 11).toInt + 1 by omega), .inl (show 1 ≤ (F 13).toInt by omega)⟩
    · rw [i_nne] at c1
      exact s_d_expression_23 (t := (F 11).toInt) hs hx (fun F' A' J' a1 a2 a3 a4 a5 a6 => ih a1 a2 a3 a4 a5 (by omega)) hF hA B E (.inl f12) (by omega) (by omega)
theorem s_d_expression {n : Nat} {s : Int} {F : Nat → Int32} {A : Nat → Nat → Int32} {J : Nat → Nat → Int64} (hs : 0 ≤ s ∧ s ≤ 1) (hF : IFm F) (hA : IAm A) (h56 : 420 * s ≤ (F 56).toInt ∧ (F 56).toInt ≤ 420 * s + (F 11).toInt + 1) (h12 : 1 ≤ (F 13).toInt ∨ ((F 12).toInt = 0 ∧ (F 56).toInt ≤ 420 * s + (F 11).toInt)) (hn : 610 ≤ n) : ok (d_expression n F A J) (EQm F A (F 56).toInt s) := by
  have r11 : 0 ≤ (F 11).toInt ∧ (F 11).toInt ≤ 400 := hF 11
  have r56 : 0 ≤ (F 56).toInt ∧ (F 56).toInt ≤ 840 := hF 56
  unfold d_expression
  refine ok_pf hF (show 0 ≤ (0 : Int32).toInt ∧ (0 : Int32).toInt ≤ 64 by decide) ?_
  intro F1 hF1 k1 o1
  have g11 : F1 11 = F 11 := o1 11 (by decide)
  have g12 : F1 12 = F 12 := o1 12 (by decide)
  have g13 : F1 13 = F 13 := o1 13 (by decide)
  have g56 : F1 56 = F 56 := o1 56 (by decide)
  have B1 : EBm F F1 A A (F 56).toInt s := EBm.go EBm.rfl' (fun q hq => o1 q (fun e => hq (by rw [e]; decide))) (fun _ _ => rfl) (fun _ _ _ => ⟨rfl, rfl⟩) (by rw [g11]; omega) (fun h => by rw [g13]; exact h)
  by_cases h13 : 1 ≤ (F 13).toInt
  · obtain ⟨m, rfl⟩ : ∃ m, n = m + 1 := ⟨n - 1, by omega⟩
    have l0 : (0 : Int32).toInt = 0 := by decide
    unfold d_expression_12
    refine ok_cond (fun c1 => absurd c1 (by decide)) (fun _ => ?_)
    refine ok_cond (fun c1 => ?_) (fun c1 => ?_)
    · exact ok_some ⟨hF1, hA, B1, by rw [show ((), F1, A, J).2.1 56 = F 56 from g56]; omega, by rw [show ((), F1, A, J).2.1 56 = F 56 from g56, show ((), F1, A, J).2.1 11 = F 11 from g11]; exact h56.2, .inl (by rw [show ((), F1, A, J).2.1 13 = F 13 from g13]; exact h13)⟩
    · rw [i_nne, g13] at c1
      exact absurd c1 (by omega)
  · have hz := h12.resolve_left h13
    refine s_d_expression_12 hs (by rw [g12]; exact hz.1) hF1 hA B1 ⟨0, by rw [k1]; decide, trivial, by rw [g12, hz.1]; rfl, h56.1, ?_, ?_⟩ (by rw [g12]; omega) (.inr (by rw [g11]; omega))
    · rw [g56]
      refine ⟨by omega, by omega, ?_, fun k h => absurd h (by omega), fun i h1 h2 => absurd h2 (by omega)⟩
      rw [show ((F 56).toInt - (F 56).toInt).toNat = 0 by omega]
      rfl
    · rw [g56, g11]
      have : wqs A 0 = 0 := rfl
      omega
