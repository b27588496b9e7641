section Qz65
/-! a step is told -/
/-- nothing but the place in the text and the faults have changed -/
def QCm (F F' : Nat → Int32) (A A' : Nat → Nat → Int32) : Prop := IFm F' ∧ IAm A' ∧ (∀ q, q ∉ ([11, 13, 14, 15, 16] : List Nat) → F' q = F q) ∧ (∀ q, A' q = A q) ∧ (F 11).toInt ≤ (F' 11).toInt ∧ (1 ≤ (F 13).toInt → 1 ≤ (F' 13).toInt) ∧ (1 ≤ (F 15).toInt → 1 ≤ (F' 15).toInt)
section QC
variable {F F' F1 : Nat → Int32} {A A' A1 : Nat → Nat → Int32} {J : Nat → Nat → Int64}
theorem QCm.tr (h : QCm F F1 A A1) (h' : QCm F1 F' A1 A') : QCm F F' A A' := ⟨h'.1, h'.2.1, fun q hq => (h'.2.2.1 q hq).trans (h.2.2.1 q hq), fun q => (h'.2.2.2.1 q).trans (h.2.2.2.1 q), by have a := h.2.2.2.2.1; have b := h'.2.2.2.2.1; omega, fun q => h'.2.2.2.2.2.1 (h.2.2.2.2.2.1 q), fun q => h'.2.2.2.2.2.2 (h.2.2.2.2.2.2 q)⟩
theorem q_must {x1 : Int32} (hF : IFm F) (hA : IAm A) : ok (d_must F A J x1) (fun r => QCm F r.2.1 A r.2.2.1) := by
  refine ok_mono (s_d_must hF hA) ?_
  rintro ⟨u, F2, A2, J2⟩ ⟨h1, h2, o3, o4, h5⟩
  dsimp only at h1 h2 o3 o4 h5 ⊢
  exact ⟨h1, h2, fun q hq => o3 q (fun e => hq ((by decide : ∀ x, x ∈ ([11, 13, 14] : List Nat) → x ∈ ([11, 13, 14, 15, 16] : List Nat)) q e)), fun q => o4 q (by simp), by omega, fun h => by omega, fun h => by rw [o3 15 (by decide)]; exact h⟩
theorem q_goesOn (hF : IFm F) (hA : IAm A) : ok (d_goesOn F A J) (fun r => QCm F r.2.1 A r.2.2.1) := by
  refine ok_mono (s_d_goesOn hF hA) ?_
  rintro ⟨u, F2, A2, J2⟩ ⟨h1, h2, o3, o4, h5⟩
  dsimp only at h1 h2 o3 o4 h5 ⊢
  exact ⟨h1, h2, fun q hq => o3 q (fun e => hq ((by decide : ∀ x, x ∈ ([11, 13, 14] : List Nat) → x ∈ ([11, 13, 14, 15, 16] : List Nat)) q e)), fun q => o4 q (by simp), by omega, fun h => by omega, fun h => by rw [o3 15 (by decide)]; exact h⟩
theorem q_fail {x1 : Int32} (hF : IFm F) (hA : IAm A) (rx : 1 ≤ x1.toInt ∧ x1.toInt ≤ 5) : ok (d_fail F A J x1) (fun r => QCm F r.2.1 A r.2.2.1 ∧ 1 ≤ (r.2.1 13).toInt) := by
  refine ok_mono (s_d_fail hF hA rx) ?_
  rintro ⟨u, F2, A2, J2⟩ ⟨h1, h2, o3, o4, h5⟩
  dsimp only at h1 h2 o3 o4 h5 ⊢
  exact ⟨⟨h1, h2, fun q hq => o3 q (fun e => hq ((by decide : ∀ x, x ∈ ([13, 14] : List Nat) → x ∈ ([11, 13, 14, 15, 16] : List Nat)) q e)), fun q => o4 q (by simp), by rw [o3 11 (by decide)]; omega, fun h => h5, fun h => by rw [o3 15 (by decide)]; exact h⟩, h5⟩
theorem q_failAt {x1 x2 : Int32} (hF : IFm F) (hA : IAm A) (rx : 1 ≤ x1.toInt ∧ x1.toInt ≤ 5) (rx2 : 0 ≤ x2.toInt ∧ x2.toInt ≤ 402) : ok (d_failAt F A J x1 x2) (fun r => QCm F r.2.1 A r.2.2.1 ∧ 1 ≤ (r.2.1 13).toInt) := by
  refine ok_mono (s_d_failAt hF hA rx rx2) ?_
  rintro ⟨u, F2, A2, J2⟩ ⟨h1, h2, o3, o4, h5⟩
  dsimp only at h1 h2 o3 o4 h5 ⊢
  exact ⟨⟨h1, h2, fun q hq => o3 q (fun e => hq ((by decide : ∀ x, x ∈ ([13, 14] : List Nat) → x ∈ ([11, 13, 14, 15, 16] : List Nat)) q e)), fun q => o4 q (by simp), by rw [o3 11 (by decide)]; omega, fun h => h5, fun h => by rw [o3 15 (by decide)]; exact h⟩, h5⟩
theorem q_bounded {x1 x2 : Int32} (hF : IFm F) (hA : IAm A) (rx : 0 ≤ x1.toInt ∧ x1.toInt ≤ 1) : ok (d_bounded F A J x1 x2) (fun r => QCm F r.2.1 A r.2.2.1 ∧ 0 ≤ r.1.toInt ∧ r.1.toInt ≤ 9999 ∧ (r.1.toInt ≤ x2.toInt ∨ 1 ≤ (r.2.1 13).toInt ∨ 1 ≤ (r.2.1 15).toInt)) := by
  refine ok_mono (s_d_bounded hF hA rx) ?_
  rintro ⟨v, F2, A2, J2⟩ ⟨h1, h2, o3, o4, h5, h6, h7, h8, h9⟩
  dsimp only at h1 h2 o3 o4 h5 h6 h7 h8 h9 ⊢
  exact ⟨⟨h1, h2, o3, fun q => o4 q (by simp), by omega, fun h => by omega, fun h => by omega⟩, h5, h6, by omega⟩
theorem q_known {n : Nat} {x1 : Int32} (hF : IFm F) (hA : IAm A) (hn : 40 ≤ n) (N : NMm F A) (rx : 0 ≤ x1.toInt ∧ x1.toInt ≤ 3) : ok (d_known n F A J x1) (fun r => QCm F r.2.1 A r.2.2.1 ∧ -1 ≤ r.1.toInt ∧ (0 ≤ r.1.toInt ∨ 1 ≤ (r.2.1 13).toInt ∨ 1 ≤ (r.2.1 15).toInt) ∧ (r.1.toInt < 0 ∨ (x1.toInt = 0 ∧ r.1.toInt < ai A 11 (F 19).toInt) ∨ (x1.toInt = 1 ∧ r.1.toInt < ai A 17 (F 19).toInt) ∨ (x1.toInt = 2 ∧ r.1.toInt < ai A 19 (F 19).toInt) ∨ (x1.toInt = 3 ∧ r.1.toInt < ai A 29 (F 19).toInt))) := by
  refine ok_mono (s_d_known hF hA hn N rx) ?_
  rintro ⟨v, F2, A2, J2⟩ ⟨h1, h2, o3, o4, h5, h6, h7, h8, h9, h10⟩
  dsimp only at h1 h2 o3 o4 h5 h6 h7 h8 h9 h10 ⊢
  exact ⟨⟨h1, h2, o3, fun q => o4 q (by simp), by omega, fun h => by omega, fun h => by omega⟩, h5, h7, h9⟩
theorem QCm.nm (h : QCm F F' A A') (N : NCm F A) : NCm F' A' := N.fr0 (h.2.2.1 19 (by decide)) (h.2.2.1 20 (by decide)) (fun q _ => h.2.2.2.1 q)
theorem QCm.eq (h : QCm F F' A A') : A' = A := funext h.2.2.2.1
end QC
/-- what the telling of a step leaves -/
def STm (l : Int) (F : Nat → Int32) (A : Nat → Nat → Int32) (r : Unit × (Nat → Int32) × (Nat → Nat → Int32) × (Nat → Nat → Int64)) : Prop := IFm r.2.1 ∧ IAm r.2.2.1 ∧ (∀ q, q ∉ ([11, 13, 14, 15, 16] : List Nat) → r.2.1 q = F q) ∧ (∀ q, q ∉ ([22, 23, 24, 25, 26, 27, 28] : List Nat) → r.2.2.1 q = A q) ∧ LSm l A r.2.2.1 ∧ (F 11).toInt ≤ (r.2.1 11).toInt ∧ (1 ≤ (F 13).toInt → 1 ≤ (r.2.1 13).toInt) ∧ (1 ≤ (F 15).toInt → 1 ≤ (r.2.1 15).toInt) ∧ (1 ≤ (r.2.1 13).toInt ∨ 1 ≤ (r.2.1 15).toInt ∨ ((XUm A (F 19).toInt → XUm r.2.2.1 (F 19).toInt) ∧ (XMm A (F 19).toInt → XMm r.2.2.1 (F 19).toInt)))
/-- what holds of the step's task (x2), its place (x4) -/
def SHm (F : Nat → Int32) (A : Nat → Nat → Int32) (x2 x4 : Int) : Prop := (x2 < 0 ∧ 1 ≤ (F 15).toInt) ∨ 1 ≤ (F 13).toInt ∨ (0 ≤ x2 ∧ x2 ≤ 5 ∧ x4 = 6 * (6 * (F 19).toInt + x2) + ai A 22 (6 * (F 19).toInt + x2) ∧ ai A 22 (6 * (F 19).toInt + x2) ≤ 5)
section SH
variable {F F' : Nat → Int32} {A A' : Nat → Nat → Int32} {J : Nat → Nat → Int64} {l : Int} {n : Nat}
theorem SHm.go {x2 x4 : Int} (h : SHm F A x2 x4) (q : QCm F F' A A') : SHm F' A' x2 x4 := by
  have e := q.eq
  subst e
  unfold SHm at h ⊢
  rw [q.2.2.1 19 (by decide)]
  have a := q.2.2.2.2.2.1
  have b := q.2.2.2.2.2.2
  rcases h with ⟨h1, h2⟩ | h | h
  · exact .inl ⟨h1, b h2⟩
  · exact .inr (.inl (a h))
  · exact .inr (.inr h)
theorem STm.go {r : Unit × (Nat → Int32) × (Nat → Nat → Int32) × (Nat → Nat → Int64)} (q : QCm F F' A A') (h : STm l F' A' r) : STm l F A r := by
  have e := q.eq
  subst e
  obtain ⟨a, b, c, d, e, f, g, i, j⟩ := h
  rw [q.2.2.1 19 (by decide)] at j
  exact ⟨a, b, fun p hp => (c p hp).trans (q.2.2.1 p hp), d, e, by have := q.2.2.2.2.1; omega, fun h => g (q.2.2.2.2.2.1 h), fun h => i (q.2.2.2.2.2.2 h), j⟩
theorem s_d_tellStep_174 {x2 x4 x5 x6 x7 x8 x9 x10 : Int32} (hF : IFm F) (hA : IAm A) (hl : 0 ≤ l ∧ (F 18).toInt = l ∧ (F 19).toInt = 1 - l) (H : SHm F A x2.toInt x4.toInt) (r9 : -1 ≤ x9.toInt ∧ x9.toInt ≤ 5) (h10 : x10.toInt ≤ 5 ∨ 1 ≤ (F 13).toInt ∨ 1 ≤ (F 15).toInt) : ok (d_tellStep_174 n F A J x2 x4 x5 x6 x7 x8 x9 x10) (STm l F A) := by
  have l0 : (0 : Int32).toInt = 0 := by decide
  have l1 : (1 : Int32).toInt = 1 := by decide
  have l6 : (6 : Int32).toInt = 6 := by decide
  unfold d_tellStep_174
  refine ok_call (q_must hF hA) ?_
  rintro ⟨u, F2, A2, J2⟩ q
  dsimp only at q ⊢
  have H2 := H.go q
  have e := q.eq
  subst e
  have g13 := q.2.2.2.2.2.1
  have g15 := q.2.2.2.2.2.2
  have g19 : F2 19 = F 19 := q.2.2.1 19 (by decide)
  have r13 : 0 ≤ (F2 13).toInt ∧ (F2 13).toInt ≤ 5 := q.1 13
  have r19 : 0 ≤ (F 19).toInt ∧ (F 19).toInt ≤ 1 := hF 19
  have quiet : (1 ≤ (F2 13).toInt ∨ 1 ≤ (F2 15).toInt) → STm l F A2 ((), F2, A2, J2) := fun h => ⟨q.1, hA, q.2.2.1, fun _ _ => rfl, LSm.rfl' l A2, q.2.2.2.2.1, g13, g15, h.elim .inl (fun h => .inr (.inl h))⟩
  refine ok_cond (fun c1 => ?_) (fun c1 => ?_)
  · rw [i_gt] at c1
    exact ok_some (quiet (.inl (by omega)))
  · rw [i_ngt] at c1
    unfold SHm at H2
    refine ok_cond (fun c2 => ?_) (fun c2 => ?_)
    · rw [i_ge] at c2
      rw [g19] at H2
      have H3 : x2.toInt ≤ 5 ∧ x4.toInt = 6 * (6 * (F 19).toInt + x2.toInt) + ai A2 22 (6 * (F 19).toInt + x2.toInt) ∧ ai A2 22 (6 * (F 19).toInt + x2.toInt) ≤ 5 := by omega
      obtain ⟨b5, b4, bn⟩ := H3
      have bn0 : 0 ≤ ai A2 22 (6 * (F 19).toInt + x2.toInt) ∧ ai A2 22 (6 * (F 19).toInt + x2.toInt) ≤ 6 := hA 22 _ (by omega)
      have e1 := i_mulL (c := 6) (k := 6) (x := F2 19) (by decide) (by rw [g19]; omega) (by rw [g19]; omega)
      rw [g19] at e1
      have e2 := i_add (x := 6 * F2 19) (y := x2) (by rw [g19]; omega) (by rw [g19]; omega)
      rw [g19] at e2 ⊢
      refine ok_st (j := 23) hA (by omega) (by omega) trivial ?_
      intro A3 a3 o3 s3 n3
      refine ok_st (j := 24) a3 (by omega) (by omega) trivial ?_
      intro A4 a4 o4 s4 n4
      refine ok_st (j := 25) a4 (by omega) (by omega) trivial ?_
      intro A5 a5 o5 s5 n5
      refine ok_st (j := 26) a5 (by omega) (by omega) trivial ?_
      intro A6 a6 o6 s6 n6
      refine ok_st (j := 27) a6 (by omega) (by omega) (show -1 ≤ x9.toInt ∧ x9.toInt ≤ 5 from r9) ?_
      intro A7 a7 o7 s7 n7
      refine ok_st (j := 28) a7 (by omega) (by omega) trivial ?_
      intro A8 a8 o8 s8 n8
      have k22 : A8 22 = A2 22 := (o8 22 (by decide)).trans ((o7 22 (by decide)).trans ((o6 22 (by decide)).trans ((o5 22 (by decide)).trans ((o4 22 (by decide)).trans (o3 22 (by decide))))))
      have k28 : A7 28 = A2 28 := (o7 28 (by decide)).trans ((o6 28 (by decide)).trans ((o5 28 (by decide)).trans ((o4 28 (by decide)).trans (o3 28 (by decide)))))
      refine ok_ld (j := 22) a8 (by omega) (by omega) ?_
      intro v ve _
      rw [ai_fr k22, show (6 * F 19 + x2).toInt = 6 * (F 19).toInt + x2.toInt by omega] at ve
      have e3 := i_add (x := v) (y := 1) (by omega) (by omega)
      refine ok_st (j := 22) a8 (by omega) (by omega) (show 0 ≤ (v + 1).toInt ∧ (v + 1).toInt ≤ 6 by omega) ?_
      intro A9 a9 o9 s9 n9
      rw [show (6 * F 19 + x2).toInt = 6 * (F 19).toInt + x2.toInt by omega] at s9 n9
      have L3 : LSm l A2 A3 := (LSm.rfl' l A2).st hl.1 36 rfl o3 n3 ⟨by omega, by omega⟩ (by omega)
      have L4 := L3.st hl.1 36 rfl o4 n4 ⟨by omega, by omega⟩ (by omega)
      have L5 := L4.st hl.1 36 rfl o5 n5 ⟨by omega, by omega⟩ (by omega)
      have L6 := L5.st hl.1 36 rfl o6 n6 ⟨by omega, by omega⟩ (by omega)
      have L7 := L6.st hl.1 36 rfl o7 n7 ⟨by omega, by omega⟩ (by omega)
      have L8 := L7.st hl.1 36 rfl o8 n8 ⟨by omega, by omega⟩ (by omega)
      have L9 := L8.st hl.1 6 rfl o9 n9 ⟨by omega, by omega⟩ (by omega)
      have oth : ∀ q, q ∉ ([22, 23, 24, 25, 26, 27, 28] : List Nat) → A9 q = A2 q := fun q hq => (o9 q (fun e => hq (by rw [e]; decide))).trans ((o8 q (fun e => hq (by rw [e]; decide))).trans ((o7 q (fun e => hq (by rw [e]; decide))).trans ((o6 q (fun e => hq (by rw [e]; decide))).trans ((o5 q (fun e => hq (by rw [e]; decide))).trans ((o4 q (fun e => hq (by rw [e]; decide))).trans (o3 q (fun e => hq (by rw [e]; decide))))))))
      have z22 : ai A9 22 (6 * (F 19).toInt + x2.toInt) = ai A2 22 (6 * (F 19).toInt + x2.toInt) + 1 := by rw [s9]; omega
      have w22 : ∀ i, 0 ≤ i → i ≠ 6 * (F 19).toInt + x2.toInt → ai A9 22 i = ai A2 22 i := fun i p r => by rw [n9 i p r, ai_fr k22]
      have z28 : ai A9 28 x4.toInt = x10.toInt := by rw [ai_fr (o9 28 (by decide))]; exact s8
      have w28 : ∀ i, 0 ≤ i → i ≠ x4.toInt → ai A9 28 i = ai A2 28 i := fun i p r => by rw [ai_fr (o9 28 (by decide)), n8 i p r, ai_fr k28]
      rw [b4] at z28 w28
      refine ok_some ⟨q.1, a9, q.2.2.1, oth, L9, q.2.2.2.2.1, g13, g15, ?_⟩
      show 1 ≤ (F2 13).toInt ∨ 1 ≤ (F2 15).toInt ∨ ((XUm A2 (F 19).toInt → XUm A9 (F 19).toInt) ∧ (XMm A2 (F 19).toInt → XMm A9 (F 19).toInt))
      rcases h10 with h | h | h
      · exact .inr (.inr ⟨fun x => x.sp (oth 19 (by decide)) z22 w22 w28 (by rw [z28]; exact h) rfl (fun q hq => (show 0 ≤ ai A2 22 q ∧ ai A2 22 q ≤ 6 from hA 22 q hq).2) ⟨bn0.1, bn⟩ r19.1, fun x => x.sp (oth 19 (by decide)) z22 w22 (fun q hq => oth q (by rcases hq with rfl | rfl | rfl | rfl <;> decide)) r19.1⟩)
      · exact .inl (g13 h)
      · exact .inr (.inl (g15 h))
    · rw [i_nge] at c2
      exact ok_some (quiet (by omega))
theorem s_d_tellStep_169 {x2 x4 x5 x6 x7 x8 x9 s2 : Int32} (hF : IFm F) (hA : IAm A) (hl : 0 ≤ l ∧ (F 18).toInt = l ∧ (F 19).toInt = 1 - l) (H : SHm F A x2.toInt x4.toInt) (r9 : -1 ≤ x9.toInt ∧ x9.toInt ≤ 5) (h2 : s2.toInt ≤ 5 ∨ 1 ≤ (F 13).toInt ∨ 1 ≤ (F 15).toInt) : ok (d_tellStep_169 n F A J x2 x4 x5 x6 x7 x8 x9 0 s2) (STm l F A) := by
  unfold d_tellStep_169
  refine ok_call (q_bounded hF hA (by decide)) ?_
  rintro ⟨v, F2, A2, J2⟩ ⟨q, v0, v1, v2⟩
  dsimp only at q v0 v1 v2 ⊢
  have g13 := q.2.2.2.2.2.1
  have g15 := q.2.2.2.2.2.2
  refine ok_mono (s_d_tellStep_174 (l := l) q.1 q.2.1 (by rw [q.2.2.1 18 (by decide), q.2.2.1 19 (by decide)]; exact hl) (H.go q) r9 ?_) (fun r h => h.go q)
  rcases h2 with h | h | h
  · omega
  · exact .inr (.inl (g13 h))
  · exact .inr (.inr (g15 h))
theorem s_d_tellStep_134 {x2 x3 x4 x5 x6 x7 x8 x9 : Int32} (hF : IFm F) (hA : IAm A) (hl : 0 ≤ l ∧ (F 18).toInt = l ∧ (F 19).toInt = 1 - l) (H : SHm F A x2.toInt x4.toInt) (r9 : -1 ≤ x9.toInt ∧ x9.toInt ≤ 5) (r3 : 0 ≤ x3.toInt ∧ x3.toInt ≤ 6) : ok (d_tellStep_134 n F A J x2 x3 x4 x5 x6 x7 x8 x9 (-1)) (STm l F A) := by
  have l0 : (0 : Int32).toInt = 0 := by decide
  have l1 : (1 : Int32).toInt = 1 := by decide
  have go : ok (d_tellStep_174 n F A J x2 x4 x5 x6 x7 x8 x9 (-1)) (STm l F A) := s_d_tellStep_174 hF hA hl H r9 (.inl (by decide))
  have r13 : 0 ≤ (F 13).toInt ∧ (F 13).toInt ≤ 5 := hF 13
  unfold d_tellStep_134
  refine ok_cond (fun _ => go) (fun c0 => ?_)
  refine ok_call (s_d_is hF hA) ?_
  intro v p
  refine ok_cond (fun _ => go) (fun c1 => ?_)
  refine ok_call (q_goesOn hF hA) ?_
  rintro ⟨u, F2, A2, J2⟩ q
  dsimp only at q ⊢
  have hl2 : 0 ≤ l ∧ (F2 18).toInt = l ∧ (F2 19).toInt = 1 - l := by rw [q.2.2.1 18 (by decide), q.2.2.1 19 (by decide)]; exact hl
  refine ok_cond (fun c2 => ?_) (fun c2 => ?_)
  · have e := i_sub (x := x3) (y := 1) (by omega) (by omega)
    exact ok_mono (s_d_tellStep_169 q.1 q.2.1 hl2 (H.go q) r9 (.inl (by omega))) (fun r h => h.go q)
  · rw [i_nge] at c2
    refine ok_mono (s_d_tellStep_169 q.1 q.2.1 hl2 (H.go q) r9 (.inr ?_)) (fun r h => h.go q)
    have H2 := H.go q
    unfold SHm at H2
    omega
theorem s_d_tellStep_59 {x2 x3 s2 : Int32} (hF : IFm F) (hA : IAm A) (hn : 50 ≤ n) (N : NCm F A) (hl : 0 ≤ l ∧ (F 18).toInt = l ∧ (F 19).toInt = 1 - l) (H : SHm F A x2.toInt (6 * (6 * (F 19).toInt + s2.toInt) + x3.toInt)) (r3 : 0 ≤ x3.toInt ∧ x3.toInt ≤ 6) (rs : 0 ≤ s2.toInt ∧ s2.toInt ≤ 7) : ok (d_tellStep_59 n F A J x2 x3 6 (6 * (F 19)) s2) (STm l F A) := by
  have l0 : (0 : Int32).toInt = 0 := by decide
  have l1 : (1 : Int32).toInt = 1 := by decide
  have r19 : 0 ≤ (F 19).toInt ∧ (F 19).toInt ≤ 1 := hF 19
  have e1 := i_mulL (c := 6) (k := 6) (x := F 19) (by decide) (by omega) (by omega)
  have e2 := i_add (x := 6 * F 19) (y := s2) (by omega) (by omega)
  have e3 := i_mulL (c := 6) (k := 6) (x := 6 * F 19 + s2) (by decide) (by omega) (by omega)
  have e4 := i_add (x := 6 * (6 * F 19 + s2)) (y := x3) (by omega) (by omega)
  rw [show 6 * (6 * (F 19).toInt + s2.toInt) + x3.toInt = (6 * (6 * F 19 + s2) + x3).toInt by omega] at H
  unfold d_tellStep_59
  generalize 6 * (6 * F 19 + s2) + x3 = x4 at H e4 ⊢
  refine ok_call (q_bounded hF hA (by decide)) ?_
  rintro ⟨v1, F1, A1, J1⟩ ⟨q1, -⟩
  dsimp only at q1 ⊢
  refine ok_call (q_bounded q1.1 q1.2.1 (by decide)) ?_
  rintro ⟨v2, F2, A2, J2⟩ ⟨q2, -⟩
  dsimp only at q2 ⊢
  refine ok_call (q_bounded q2.1 q2.2.1 (by decide)) ?_
  rintro ⟨v3, F3, A3, J3⟩ ⟨q3, -⟩
  dsimp only at q3 ⊢
  refine ok_call (q_bounded q3.1 q3.2.1 (by decide)) ?_
  rintro ⟨v4, F4, A4, J4⟩ ⟨q4, -⟩
  dsimp only at q4 ⊢
  have q := ((q1.tr q2).tr q3).tr q4
  have hl4 : 0 ≤ l ∧ (F4 18).toInt = l ∧ (F4 19).toInt = 1 - l := by rw [q.2.2.1 18 (by decide), q.2.2.1 19 (by decide)]; exact hl
  have go : ok (d_tellStep_134 n F4 A4 J4 x2 x3 x4 v1 v2 v3 v4 (-1) (-1)) (STm l F A) := ok_mono (s_d_tellStep_134 q.1 q.2.1 hl4 (H.go q) (by decide) r3) (fun r h => h.go q)
  refine ok_cond (fun _ => go) (fun c0 => ?_)
  refine ok_call (s_d_is q.1 q.2.1) ?_
  intro v p
  refine ok_cond (fun _ => go) (fun c1 => ?_)
  refine ok_call (q_goesOn q.1 q.2.1) ?_
  rintro ⟨u, F5, A5, J5⟩ q5
  dsimp only at q5 ⊢
  have qq := q.tr q5
  have N5 := qq.nm N
  have r17 : 0 ≤ ai A5 17 (F5 19).toInt ∧ ai A5 17 (F5 19).toInt ≤ 6 := qq.2.1 17 _ (show 0 ≤ (F5 19).toInt ∧ (F5 19).toInt ≤ 1 from qq.1 19).1
  refine ok_call (q_known qq.1 qq.2.1 (by omega) N5.1 (by decide)) ?_
  rintro ⟨v6, F6, A6, J6⟩ ⟨q6, w1, w2, w3⟩
  dsimp only at q6 w1 w2 w3 ⊢
  have q7 := qq.tr q6
  have hl7 : 0 ≤ l ∧ (F6 18).toInt = l ∧ (F6 19).toInt = 1 - l := by rw [q7.2.2.1 18 (by decide), q7.2.2.1 19 (by decide)]; exact hl
  exact ok_mono (s_d_tellStep_134 q7.1 q7.2.1 hl7 (H.go q7) ⟨w1, by omega⟩ r3) (fun r h => h.go q7)
theorem s_d_tellStep_41 {x2 x3 : Int32} (hF : IFm F) (hA : IAm A) (hn : 50 ≤ n) (N : NCm F A) (hl : 0 ≤ l ∧ (F 18).toInt = l ∧ (F 19).toInt = 1 - l) (r2 : x2.toInt ≤ 5) (H : (x2.toInt < 0 ∧ 1 ≤ (F 15).toInt) ∨ 1 ≤ (F 13).toInt ∨ (0 ≤ x2.toInt ∧ x3.toInt = ai A 22 (6 * (F 19).toInt + x2.toInt) ∧ x3.toInt ≤ 5)) (r3 : 0 ≤ x3.toInt ∧ x3.toInt ≤ 6) : ok (d_tellStep_41 n F A J x2 x3) (STm l F A) := by
  have l0 : (0 : Int32).toInt = 0 := by decide
  unfold d_tellStep_41
  refine ok_cond (fun c1 => ?_) (fun c1 => ?_)
  · rw [i_ge] at c1
    refine s_d_tellStep_59 hF hA hn N hl ?_ r3 ⟨by omega, by omega⟩
    unfold SHm
    rcases H with h | h | h
    · omega
    · exact .inr (.inl h)
    · exact .inr (.inr ⟨by omega, by omega, by omega, by omega⟩)
  · rw [i_nge] at c1
    refine s_d_tellStep_59 hF hA hn N hl ?_ r3 (by decide)
    unfold SHm
    rcases H with h | h | h
    · exact .inl h
    · exact .inr (.inl h)
    · omega
theorem s_d_tellStep {x1 : Int32} (hF : IFm F) (hA : IAm A) (hn : 50 ≤ n) (N : NCm F A) (hl : 0 ≤ l ∧ (F 18).toInt = l ∧ (F 19).toInt = 1 - l) (r1 : 0 ≤ x1.toInt ∧ x1.toInt ≤ 402) : ok (d_tellStep n F A J x1) (STm l F A) := by
  have l0 : (0 : Int32).toInt = 0 := by decide
  have l6 : (6 : Int32).toInt = 6 := by decide
  have r19 : 0 ≤ (F 19).toInt ∧ (F 19).toInt ≤ 1 := hF 19
  have b19 : 0 ≤ ai A 19 (F 19).toInt ∧ ai A 19 (F 19).toInt ≤ 6 := hA 19 _ r19.1
  unfold d_tellStep
  refine ok_call (q_known hF hA (by omega) N.1 (by decide)) ?_
  rintro ⟨v, F2, A2, J2⟩ ⟨q, w1, w2, w3⟩
  dsimp only at q w1 w2 w3 ⊢
  have l2 : (2 : Int32).toInt = 2 := by decide
  have v5 : v.toInt ≤ 5 := by omega
  have hl2 : 0 ≤ l ∧ (F2 18).toInt = l ∧ (F2 19).toInt = 1 - l := by rw [q.2.2.1 18 (by decide), q.2.2.1 19 (by decide)]; exact hl
  have q19 : F2 19 = F 19 := q.2.2.1 19 (by decide)
  have r13 : 0 ≤ (F2 13).toInt ∧ (F2 13).toInt ≤ 5 := q.1 13
  refine ok_cond (fun c1 => ?_) (fun c1 => ?_)
  · rw [i_ge] at c1
    have e1 := i_mulL (c := 6) (k := 6) (x := F2 19) (by decide) (by rw [q19]; omega) (by rw [q19]; omega)
    rw [q19] at e1
    have e2 := i_add (x := 6 * F2 19) (y := v) (by rw [q19]; omega) (by rw [q19]; omega)
    rw [q19] at e2
    refine ok_ld (j := 22) q.2.1 (by rw [q19]; omega) (by rw [q19]; omega) ?_
    intro v6 v6e v6r
    change 0 ≤ v6.toInt ∧ v6.toInt ≤ 6 at v6r
    rw [q19, show (6 * F 19 + v).toInt = 6 * (F 19).toInt + v.toInt by omega] at v6e
    refine ok_cond (fun c2 => ?_) (fun c2 => ?_)
    · rw [i_ne] at c2
      exact ok_mono (s_d_tellStep_41 q.1 q.2.1 hn (q.nm N) hl2 v5 (.inr (.inr ⟨by omega, by rw [q19]; exact v6e, by omega⟩)) v6r) (fun r h => h.go q)
    · refine ok_call (q_failAt q.1 q.2.1 (by decide) r1) ?_
      rintro ⟨u, F3, A3, J3⟩ ⟨q3, q13⟩
      dsimp only at q3 q13 ⊢
      have qq := q.tr q3
      have hl3 : 0 ≤ l ∧ (F3 18).toInt = l ∧ (F3 19).toInt = 1 - l := by rw [qq.2.2.1 18 (by decide), qq.2.2.1 19 (by decide)]; exact hl
      exact ok_mono (s_d_tellStep_59 qq.1 qq.2.1 hn (qq.nm N) hl3 (.inr (.inl q13)) v6r ⟨by omega, by omega⟩) (fun r h => h.go qq)
  · rw [i_nge] at c1
    unfold d_tellStep_28
    refine ok_cond (fun c2 => ?_) (fun c2 => absurd c2 (by decide))
    refine ok_mono (s_d_tellStep_41 q.1 q.2.1 hn (q.nm N) hl2 v5 ?_ (by decide)) (fun r h => h.go q)
    omega
end SH
end Qz65
section Qz66
/-! what waits while an expression is read; codes that are being written -/
def wop (A : Nat → Nat → Int32) : Nat → Int
  | 0 => 0
  | w + 1 => if ai A 44 (w : Int) = 6 then wop A w + 1 else wop A w
def wqs (A : Nat → Nat → Int32) : Nat → Int
  | 0 => 0
  | w + 1 => if ai A 44 (w : Int) = 6 then wqs A w else wqs A w + 1
def wru (A : Nat → Nat → Int32) : Nat → Int
  | 0 => 0
  | w + 1 => if ai A 44 (w : Int) = 6 then 0 else wru A w + 1
def WGm (A : Nat → Nat → Int32) : Nat → Prop
  | 0 => True
  | w + 1 => WGm A w ∧ (ai A 44 (w : Int) = 6 ∨ wru A w = 0 ∨ (wru A w = 1 ∧ 10 ≤ ai A 44 (w : Int)))
section EXW
variable {A A' : Nat → Nat → Int32}
theorem w_fr (w : Nat) (h : ∀ i : Nat, i < w → ai A' 44 (i : Int) = ai A 44 (i : Int)) : wop A' w = wop A w ∧ wqs A' w = wqs A w ∧ wru A' w = wru A w ∧ (WGm A w → WGm A' w) := by
  induction w with
  | zero => exact ⟨rfl, rfl, rfl, id⟩
  | succ w ih =>
    obtain ⟨a, b, c, d⟩ := ih (fun i hi => h i (by omega))
    have e := h w (by omega)
    refine ⟨?_, ?_, ?_, ?_⟩
    · show (if ai A' 44 (w : Int) = 6 then wop A' w + 1 else wop A' w) = _
      rw [e, a]; rfl
    · show (if ai A' 44 (w : Int) = 6 then wqs A' w else wqs A' w + 1) = _
      rw [e, b]; rfl
    · show (if ai A' 44 (w : Int) = 6 then 0 else wru A' w + 1) = _
      rw [e, c]; rfl
    · rintro ⟨g, k⟩
      refine ⟨d g, ?_⟩
      rw [e, c]
      exact k
theorem w_bd (w : Nat) : 0 ≤ wop A w ∧ 0 ≤ wqs A w ∧ 0 ≤ wru A w ∧ (w : Int) = wop A w + wqs A w ∧ (WGm A w → wru A w ≤ 2 ∧ (w : Int) ≤ 3 * wop A w + wru A w) := by
  induction w with
  | zero => exact ⟨Int.le_refl 0, Int.le_refl 0, Int.le_refl 0, rfl, fun _ => ⟨by show (0 : Int) ≤ 2; omega, by show ((0 : Nat) : Int) ≤ 3 * 0 + 0; omega⟩⟩
  | succ w ih =>
    obtain ⟨a, b, c, d, e⟩ := ih
    by_cases h : ai A 44 (w : Int) = 6
    · have e1 : wop A (w + 1) = wop A w + 1 := if_pos h
      have e2 : wqs A (w + 1) = wqs A w := if_pos h
      have e3 : wru A (w + 1) = 0 := if_pos h
      rw [e1, e2, e3]
      refine ⟨by omega, by omega, by omega, by omega, fun g => ?_⟩
      have k := e g.1
      exact ⟨by omega, by omega⟩
    · have e1 : wop A (w + 1) = wop A w := if_neg h
      have e2 : wqs A (w + 1) = wqs A w + 1 := if_neg h
      have e3 : wru A (w + 1) = wru A w + 1 := if_neg h
      rw [e1, e2, e3]
      refine ⟨by omega, by omega, by omega, by omega, fun g => ?_⟩
      have k := e g.1
      have k2 := g.2
      exact ⟨by omega, by omega⟩
theorem dpm_bl {u c : Int} (hu : 0 ≤ u) (h : ∀ i, 0 ≤ i → i < c → ai A' 42 i = ai A 42 i) : ∀ k : Nat, u + k ≤ c → dpm A' u k = dpm A u k
  | 0, _ => rfl
  | k + 1, hk => by
    have ih := dpm_bl hu h k (by omega)
    show (if ai A' 42 (u + (k : Int)) < 2 then dpm A' u k + 1 else dpm A' u k - 1) = _
    rw [ih, h (u + k) (by omega) (by omega)]
    rfl
theorem WFm.bl {u v : Int} (w : WFm A u v) (h : ∀ i, 0 ≤ i → i < v → ai A' 42 i = ai A 42 i ∧ ai A' 43 i = ai A 43 i) : WFm A' u v := by
  obtain ⟨a, b, c, d, e, f⟩ := w
  refine ⟨a, b, c, d, fun k h1 h2 => ?_, fun i h1 h2 h3 => ?_⟩
  · rw [dpm_bl a (fun i p q => (h i p q).1) k (by omega)]
    rw [(h (u + k) (by omega) (by omega)).1] at h2
    exact e k h1 h2
  · rw [(h i (by omega) h2).1] at h3
    rw [(h i (by omega) h2).2]
    exact f i h1 h2 h3
def CWm (A : Nat → Nat → Int32) (u c q : Int) : Prop := 0 ≤ u ∧ u ≤ c ∧ dpm A u (c - u).toNat = q ∧ (∀ k : Nat, u + k < c → 2 ≤ ai A 42 (u + k) → 2 ≤ dpm A u k) ∧ (∀ i, u ≤ i → i < c → ai A 42 i = 1 → 0 ≤ ai A 43 i ∧ ai A 43 i ≤ 5)
theorem CWm.fr {u c q : Int} (w : CWm A u c q) (h42 : A' 42 = A 42) (h43 : A' 43 = A 43) : CWm A' u c q := by
  unfold CWm
  simp only [ai_fr h42, ai_fr h43, dpm_fr h42]
  exact w
theorem CWm.emit {u c q k v : Int} (w : CWm A u c q) (h : ∀ i, 0 ≤ i → i ≠ c → ai A' 42 i = ai A 42 i ∧ ai A' 43 i = ai A 43 i) (hk : ai A' 42 c = k) (hv : ai A' 43 c = v) (h1 : k = 1 → 0 ≤ v ∧ v ≤ 5) (h2 : 2 ≤ k → 2 ≤ q) : CWm A' u (c + 1) (if k < 2 then q + 1 else q - 1) := by
  obtain ⟨a, b, e, f, g⟩ := w
  have bl : ∀ k : Nat, u + k ≤ c → dpm A' u k = dpm A u k := dpm_bl a (fun i p r => (h i p (by omega)).1)
  refine ⟨a, by omega, ?_, fun k1 k2 k3 => ?_, fun i p r s => ?_⟩
  · rw [dpm_step (by omega), hk, bl _ (by omega), e]
  · by_cases z : u + (k1 : Int) = c
    · rw [z, hk] at k3
      have y : k1 = (c - u).toNat := by omega
      rw [y, bl _ (by omega), e]
      exact h2 k3
    · rw [bl _ (by omega)]
      rw [(h _ (by omega) z).1] at k3
      exact f k1 (by omega) k3
  · by_cases z : i = c
    · rw [z, hk] at s
      rw [z, hv]
      exact h1 s
    · rw [(h i (by omega) z).1] at s
      rw [(h i (by omega) z).2]
      exact g i p (by omega) s
theorem CWm.wf {u c q : Int} (w : CWm A u c q) (h1 : c ≤ u + 400) (h2 : c ≤ 840) : WFm A u c := ⟨w.1, w.2.1, h1, h2, w.2.2.2.1, w.2.2.2.2⟩
end EXW
def OBm (A A' : Nat → Nat → Int32) (c s : Int) : Prop := ∀ i, 0 ≤ i → (i < c ∨ 420 * s + 420 ≤ i) → ai A' 42 i = ai A 42 i ∧ ai A' 43 i = ai A 43 i
def EXm (F : Nat → Int32) (A : Nat → Nat → Int32) (c s d : Int) : Prop := ∃ w : Nat, (F 60).toInt = w ∧ WGm A w ∧ wop A w = (F 12).toInt ∧ 420 * s ≤ c ∧ CWm A c (F 56).toInt (wqs A w + d) ∧ (F 56).toInt + wqs A w ≤ 420 * s + (F 11).toInt + 1 ∧ (1 ≤ (F 13).toInt ∨ (F 56).toInt + wqs A w ≤ 420 * s + (F 11).toInt)
/-- what stays while an expression is read -/
def EBm (F F' : Nat → Int32) (A A' : Nat → Nat → Int32) (c s : Int) : Prop := (∀ q, q ∉ ([11, 12, 13, 14, 56, 60] : List Nat) → F' q = F q) ∧ (∀ q, q ∉ ([42, 43, 44] : List Nat) → A' q = A q) ∧ OBm A A' c s ∧ (F 11).toInt ≤ (F' 11).toInt ∧ (1 ≤ (F 13).toInt → 1 ≤ (F' 13).toInt)
section EXB
variable {F F' F1 : Nat → Int32} {A A' A1 : Nat → Nat → Int32} {c s : Int}
theorem OBm.tr (h : OBm A A1 c s) (h' : OBm A1 A' c s) : OBm A A' c s := fun i p q => ⟨(h' i p q).1.trans (h i p q).1, (h' i p q).2.trans (h i p q).2⟩
theorem OBm.fr (h42 : A' 42 = A 42) (h43 : A' 43 = A 43) : OBm A A' c s := fun i _ _ => ⟨by rw [ai_fr h42], by rw [ai_fr h43]⟩
theorem EBm.go (h : EBm F F1 A A1 c s) (oF : ∀ q, q ∉ ([11, 12, 13, 14, 56, 60] : List Nat) → F' q = F1 q) (oA : ∀ q, q ∉ ([42, 43, 44] : List Nat) → A' q = A1 q) (ob : OBm A1 A' c s) (h11 : (F1 11).toInt ≤ (F' 11).toInt) (h13 : 1 ≤ (F1 13).toInt → 1 ≤ (F' 13).toInt) : EBm F F' A A' c s :=
  ⟨fun q hq => (oF q hq).trans (h.1 q hq), fun q hq => (oA q hq).trans (h.2.1 q hq), h.2.2.1.tr ob, by have := h.2.2.2.1; omega, fun q => h13 (h.2.2.2.2 q)⟩
theorem EBm.rfl' : EBm F F A A c s := ⟨fun _ _ => rfl, fun _ _ => rfl, fun _ _ _ => ⟨rfl, rfl⟩, Int.le_refl _, id⟩
end EXB
end Qz66
section Qz67
section
variable {F : Nat → Int32} {A : Nat → Nat → Int32} {J : Nat → Nat → Int64} {c s : Int}
theorem s_d_emit {x1 x2 : Int32} (hF : IFm F) (hA : IAm A) (h56 : (F 56).toInt < 840) (rx : 0 ≤ x1.toInt ∧ x1.toInt ≤ 5) : ok (d_emit F A J x1 x2) (fun r => IFm r.2.1 ∧ IAm r.2.2.1 ∧ (∀ q, q ≠ 56 → r.2.1 q = F q) ∧ (∀ q, q ∉ ([42, 43] : List Nat) → r.2.2.1 q = A q) ∧ (r.2.1 56).toInt = (F 56).toInt + 1 ∧ ai r.2.2.1 42 (F 56).toInt = x1.toInt ∧ ai r.2.2.1 43 (F 56).toInt = x2.toInt ∧ (∀ i, 0 ≤ i → i ≠ (F 56).toInt → ai r.2.2.1 42 i = ai A 42 i ∧ ai r.2.2.1 43 i = ai A 43 i)) := by
  have r56 : 0 ≤ (F 56).toInt ∧ (F 56).toInt ≤ 840 := hF 56
  have l1 : (1 : Int32).toInt = 1 := by decide
  have e := i_add (x := F 56) (y := 1) (by omega) (by omega)
  unfold d_emit
  refine ok_st (j := 42) hA (by omega) (by omega) (show 0 ≤ x1.toInt ∧ x1.toInt ≤ 5 from rx) ?_
  intro A1 hA1 o1 s1 n1
  refine ok_st (j := 43) hA1 (by omega) (by omega) trivial ?_
  intro A2 hA2 o2 s2 n2
  refine ok_pf hF (show 0 ≤ (F 56 + 1).toInt ∧ (F 56 + 1).toInt ≤ 840 by omega) ?_
  intro F3 hF3 k3 o3
  have a42 := ai_fr (o2 42 (by decide))
  have a43 := ai_fr (o1 43 (by decide))
  refine ok_some ⟨hF3, hA2, o3, fun q hq => (o2 q (fun e => hq (by rw [e]; decide))).trans (o1 q (fun e => hq (by rw [e]; decide))), ?_, ?_, s2, fun i h0 h1 => ⟨?_, ?_⟩⟩
  · show (F3 56).toInt = _
    rw [k3]; omega
  · show ai A2 42 _ = _
    rw [a42]; exact s1
  · show ai A2 42 _ = _
    rw [a42]; exact n1 i h0 h1
  · show ai A2 43 _ = _
    rw [n2 i h0 h1, a43]
theorem s_d_comesOut_0 {x1 : Int32} (hs : 0 ≤ s ∧ s ≤ 1) : ∀ {n : Nat} {F : Nat → Int32} {A : Nat → Nat → Int32} {J : Nat → Nat → Int64}, IFm F → IAm A → EXm F A c s 1 → (F 60).toInt < (n : Int) → ok (d_comesOut_0 n F A J x1) (fun r => IFm r.2.1 ∧ IAm r.2.2.1 ∧ (∀ q, q ∉ ([56, 60] : List Nat) → r.2.1 q = F q) ∧ (∀ q, q ∉ ([42, 43] : List Nat) → r.2.2.1 q = A q) ∧ OBm A r.2.2.1 c s ∧ EXm r.2.1 r.2.2.1 c s 1 ∧ ((r.2.1 60).toInt = 0 ∨ ai A 44 ((r.2.1 60).toInt - 1) = 6 ∨ (x1.toInt ≠ 0 ∧ (ai A 44 ((r.2.1 60).toInt - 1) = 8 ∨ ai A 44 ((r.2.1 60).toInt - 1) = 9)))) := by
  intro n
  induction n with
  | zero =>
    intro F A J hF hA E hn
    have r60 : 0 ≤ (F 60).toInt ∧ (F 60).toInt ≤ 64 := hF 60
    exact absurd hn (by omega)
  | succ n ih =>
    intro F A J hF hA E hn
    have r60 : 0 ≤ (F 60).toInt ∧ (F 60).toInt ≤ 64 := hF 60
    have r56 : 0 ≤ (F 56).toInt ∧ (F 56).toInt ≤ 840 := hF 56
    have r11 : 0 ≤ (F 11).toInt ∧ (F 11).toInt ≤ 400 := hF 11
    have r13 : 0 ≤ (F 13).toInt ∧ (F 13).toInt ≤ 5 := hF 13
    have l0 : (0 : Int32).toInt = 0 := by decide
    have l1 : (1 : Int32).toInt = 1 := by decide
    have l6 : (6 : Int32).toInt = 6 := by decide
    have l8 : (8 : Int32).toInt = 8 := by decide
    have l9 : (9 : Int32).toInt = 9 := by decide
    unfold d_comesOut_0
    refine ok_cond (fun c1 => ?_) (fun c1 => ?_)
    · rw [i_le] at c1
      exact ok_some ⟨hF, hA, fun _ _ => rfl, fun _ _ => rfl, fun _ _ _ => ⟨rfl, rfl⟩, E, .inl (show (F 60).toInt = 0 by omega)⟩
    · rw [i_nle] at c1
      have e := i_sub (x := F 60) (y := 1) (by omega) (by omega)
      rw [l1] at e
      refine ok_ld (j := 44) hA (by omega) (by omega) ?_
      intro v ve _
      rw [e] at ve
      have step : v.toInt ≠ 6 → ok (d_comesOut_42 (d_comesOut_0 n) n F A J x1 v) (fun r => IFm r.2.1 ∧ IAm r.2.2.1 ∧ (∀ q, q ∉ ([56, 60] : List Nat) → r.2.1 q = F q) ∧ (∀ q, q ∉ ([42, 43] : List Nat) → r.2.2.1 q = A q) ∧ OBm A r.2.2.1 c s ∧ EXm r.2.1 r.2.2.1 c s 1 ∧ ((r.2.1 60).toInt = 0 ∨ ai A 44 ((r.2.1 60).toInt - 1) = 6 ∨ (x1.toInt ≠ 0 ∧ (ai A 44 ((r.2.1 60).toInt - 1) = 8 ∨ ai A 44 ((r.2.1 60).toInt - 1) = 9)))) := by
        intro hv
        obtain ⟨w, w60, g, wo, cs, cw, bd⟩ := E
        obtain ⟨w', rfl⟩ : ∃ w', w = w' + 1 := ⟨w - 1, by omega⟩
        have tp : ai A 44 (w' : Int) ≠ 6 := by
          rw [show (w' : Int) = (F 60).toInt - 1 by omega, ← ve]; exact hv
        have q1 : wop A (w' + 1) = wop A w' := if_neg tp
        have q2 : wqs A (w' + 1) = wqs A w' + 1 := if_neg tp
        have wb := w_bd (A := A) w'
        unfold d_comesOut_42
        refine ok_pf hF (show 0 ≤ (F 60 - 1).toInt ∧ (F 60 - 1).toInt ≤ 64 by omega) ?_
        intro F7 hF7 k7 o7
        have f56 : F7 56 = F 56 := o7 56 (by decide)
        have st : ∀ k : Int32, 2 ≤ k.toInt ∧ k.toInt ≤ 5 → ok (d_comesOut_84 (d_comesOut_0 n) n F7 A J x1 k) (fun r => IFm r.2.1 ∧ IAm r.2.2.1 ∧ (∀ q, q ∉ ([56, 60] : List Nat) → r.2.1 q = F q) ∧ (∀ q, q ∉ ([42, 43] : List Nat) → r.2.2.1 q = A q) ∧ OBm A r.2.2.1 c s ∧ EXm r.2.1 r.2.2.1 c s 1 ∧ ((r.2.1 60).toInt = 0 ∨ ai A 44 ((r.2.1 60).toInt - 1) = 6 ∨ (x1.toInt ≠ 0 ∧ (ai A 44 ((r.2.1 60).toInt - 1) = 8 ∨ ai A 44 ((r.2.1 60).toInt - 1) = 9)))) := by
          intro k hk
          unfold d_comesOut_84
          refine ok_call (s_d_emit hF7 hA (by rw [f56]; omega) ⟨by omega, hk.2⟩) ?_
          rintro ⟨u, F2, A2, J2⟩ ⟨h1, h2, o3, o4, e5, e6, e7, e8⟩
          dsimp only at h1 h2 o3 o4 e5 e6 e7 e8 ⊢
          rw [f56] at e5 e6 e7 e8
          have k44 : A2 44 = A 44 := o4 44 (by decide)
          obtain ⟨z1, z2, z3, z4⟩ := w_fr (A := A) (A' := A2) w' (fun i _ => by rw [ai_fr k44])
          have f60 : (F2 60).toInt = (w' : Int) := by rw [o3 60 (by decide), k7, e]; omega
          have cw2 := cw.emit e8 e6 e7 (fun h => absurd h (by omega)) (fun _ => by omega)
          rw [if_neg (by omega), show wqs A (w' + 1) + 1 - 1 = wqs A w' + 1 by omega] at cw2
          have g12 : F2 12 = F 12 := (o3 12 (by decide)).trans (o7 12 (by decide))
          have g11 : F2 11 = F 11 := (o3 11 (by decide)).trans (o7 11 (by decide))
          have g13 : F2 13 = F 13 := (o3 13 (by decide)).trans (o7 13 (by decide))
          have E2 : EXm F2 A2 c s 1 := ⟨w', f60, z4 g.1, by rw [z1, g12]; omega, cs, by rw [z2, e5]; exact cw2, by rw [z2, e5, g11, g13]; omega⟩
          refine ok_mono (ih h1 h2 E2 (by omega)) ?_
          rintro ⟨ua, Fa, Aa, Ja⟩ ⟨j1, j2, j3, j4, j5, j6, j7⟩
          dsimp only at j1 j2 j3 j4 j5 j6 j7 ⊢
          rw [ai_fr k44] at j7
          refine ⟨j1, j2, fun q hq => (j3 q hq).trans ((o3 q (fun e => hq (by rw [e]; decide))).trans (o7 q (fun e => hq (by rw [e]; decide)))), fun q hq => (j4 q hq).trans (o4 q hq), OBm.tr (fun i p q => e8 i p ?_) j5, j6, j7⟩
          have := cw.2.1
          omega
        exact ok_cond (fun _ => ok_cond (fun _ => ok_cond (fun _ => st 5 (by decide)) (fun _ => st 4 (by decide))) (fun _ => st 3 (by decide))) (fun _ => st 2 (by decide))
      refine ok_cond (fun c2 => ?_) (fun c2 => ?_)
      · rw [i_eq] at c2
        exact ok_some ⟨hF, hA, fun _ _ => rfl, fun _ _ => rfl, fun _ _ _ => ⟨rfl, rfl⟩, E, .inr (.inl (show ai A 44 ((F 60).toInt - 1) = 6 by omega))⟩
      · rw [i_neq] at c2
        refine ok_cond (fun c3 => step (by omega)) (fun c3 => ?_)
        rw [i_neq] at c3
        refine ok_cond (fun c4 => ?_) (fun c4 => ?_)
        · rw [i_eq] at c4
          exact ok_some ⟨hF, hA, fun _ _ => rfl, fun _ _ => rfl, fun _ _ _ => ⟨rfl, rfl⟩, E, .inr (.inr ⟨by omega, .inl (show ai A 44 ((F 60).toInt - 1) = 8 by omega)⟩)⟩
        · refine ok_cond (fun c5 => step (by omega)) (fun c5 => ?_)
          rw [i_nne] at c5
          exact ok_some ⟨hF, hA, fun _ _ => rfl, fun _ _ => rfl, fun _ _ _ => ⟨rfl, rfl⟩, E, .inr (.inr ⟨by omega, .inr (show ai A 44 ((F 60).toInt - 1) = 9 by omega)⟩)⟩
theorem s_d_comesOut {n : Nat} {x1 : Int32} (hs : 0 ≤ s ∧ s ≤ 1) (hF : IFm F) (hA : IAm A) (E : EXm F A c s 1) (hn : (F 60).toInt < (n : Int)) : ok (d_comesOut n F A J x1) (fun r => IFm r.2.1 ∧ IAm r.2.2.1 ∧ (∀ q, q ∉ ([56, 60] : List Nat) → r.2.1 q = F q) ∧ (∀ q, q ∉ ([42, 43] : List Nat) → r.2.2.1 q = A q) ∧ OBm A r.2.2.1 c s ∧ EXm r.2.1 r.2.2.1 c s 1 ∧ ((r.2.1 60).toInt = 0 ∨ ai A 44 ((r.2.1 60).toInt - 1) = 6 ∨ (x1.toInt ≠ 0 ∧ (ai A 44 ((r.2.1 60).toInt - 1) = 8 ∨ ai A 44 ((r.2.1 60).toInt - 1) = 9)))) := by
  unfold d_comesOut
  exact s_d_comesOut_0 hs hF hA E hn
theorem s_d_unit (hs : 0 ≤ s ∧ s ≤ 1) (hF : IFm F) (hA : IAm A) (E : EXm F A c s 0) : ok (d_unit F A J) (fun r => IFm r.2.1 ∧ IAm r.2.2.1 ∧ (∀ q, q ∉ ([11, 13, 14, 56] : List Nat) → r.2.1 q = F q) ∧ (∀ q, q ∉ ([42, 43] : List Nat) → r.2.2.1 q = A q) ∧ OBm A r.2.2.1 c s ∧ (F 11).toInt ≤ (r.2.1 11).toInt ∧ ((1 ≤ (r.2.1 13).toInt ∧ c ≤ (r.2.1 56).toInt ∧ (r.2.1 56).toInt ≤ 420 * s + (r.2.1 11).toInt + 1) ∨ ((r.2.1 13).toInt = 0 ∧ (F 13).toInt = 0 ∧ (r.2.1 11).toInt = (F 11).toInt + 1 ∧ EXm r.2.1 r.2.2.1 c s 1))) := by
  have r56 : 0 ≤ (F 56).toInt ∧ (F 56).toInt ≤ 840 := hF 56
  have r11 : 0 ≤ (F 11).toInt ∧ (F 11).toInt ≤ 400 := hF 11
  have r13 : 0 ≤ (F 13).toInt ∧ (F 13).toInt ≤ 5 := hF 13
  have l0 : (0 : Int32).toInt = 0 := by decide
  have l1 : (1 : Int32).toInt = 1 := by decide
  have l2 : (2 : Int32).toInt = 2 := by decide
  have l35 : (35 : Int32).toInt = 35 := by decide
  have l40 : (40 : Int32).toInt = 40 := by decide
  obtain ⟨w, w60, g, wo, cs, cw, bd⟩ := E
  have wb := w_bd (A := A) w
  have cu := cw.2.1
  have fl : ok (d_unit_88 F A J) (fun r => IFm r.2.1 ∧ IAm r.2.2.1 ∧ (∀ q, q ∉ ([11, 13, 14, 56] : List Nat) → r.2.1 q = F q) ∧ (∀ q, q ∉ ([42, 43] : List Nat) → r.2.2.1 q = A q) ∧ OBm A r.2.2.1 c s ∧ (F 11).toInt ≤ (r.2.1 11).toInt ∧ ((1 ≤ (r.2.1 13).toInt ∧ c ≤ (r.2.1 56).toInt ∧ (r.2.1 56).toInt ≤ 420 * s + (r.2.1 11).toInt + 1) ∨ ((r.2.1 13).toInt = 0 ∧ (F 13).toInt = 0 ∧ (r.2.1 11).toInt = (F 11).toInt + 1 ∧ EXm r.2.1 r.2.2.1 c s 1))) := by
    unfold d_unit_88
    refine ok_call (s_d_fail hF hA (by decide)) ?_
    rintro ⟨u, F2, A2, J2⟩ ⟨h1, h2, o3, o4, e5⟩
    dsimp only at h1 h2 o3 o4 e5 ⊢
    have g11 : F2 11 = F 11 := o3 11 (by decide)
    have g56 : F2 56 = F 56 := o3 56 (by decide)
    have q13 : 0 ≤ (F2 13).toInt ∧ (F2 13).toInt ≤ 5 := h1 13
    have q12 := h1 12
    refine ok_some ⟨h1, h2, fun q hq => o3 q (fun e => hq ((by decide : ∀ x, x ∈ ([13, 14] : List Nat) → x ∈ ([11, 13, 14, 56] : List Nat)) q e)), fun q hq => o4 q (by simp), OBm.fr (o4 42 (by simp)) (o4 43 (by simp)), ?_, .inl ⟨e5, ?_, ?_⟩⟩
    · show (F 11).toInt ≤ (F2 11).toInt
      rw [g11]; omega
    · show c ≤ (F2 56).toInt
      rw [g56]; exact cu
    · show (F2 56).toInt ≤ 420 * s + (F2 11).toInt + 1
      rw [g56, g11]; omega
  have em : ∀ k v : Int32, (F 13).toInt = 0 → 0 ≤ k.toInt ∧ k.toInt ≤ 1 → (k.toInt = 1 → 0 ≤ v.toInt ∧ v.toInt ≤ 5) → ok ((d_emit F A J k v).bind fun (_, F10, A11, J12) => (d_goesOn F10 A11 J12).bind fun (_, F14, A15, J16) => some ((), F14, A15, J16)) (fun r => IFm r.2.1 ∧ IAm r.2.2.1 ∧ (∀ q, q ∉ ([11, 13, 14, 56] : List Nat) → r.2.1 q = F q) ∧ (∀ q, q ∉ ([42, 43] : List Nat) → r.2.2.1 q = A q) ∧ OBm A r.2.2.1 c s ∧ (F 11).toInt ≤ (r.2.1 11).toInt ∧ ((1 ≤ (r.2.1 13).toInt ∧ c ≤ (r.2.1 56).toInt ∧ (r.2.1 56).toInt ≤ 420 * s + (r.2.1 11).toInt + 1) ∨ ((r.2.1 13).toInt = 0 ∧ (F 13).toInt = 0 ∧ (r.2.1 11).toInt = (F 11).toInt + 1 ∧ EXm r.2.1 r.2.2.1 c s 1))) := by
    intro k v f0 hk hv
    refine ok_call (s_d_emit hF hA (by omega) ⟨hk.1, by omega⟩) ?_
    rintro ⟨u, F2, A2, J2⟩ ⟨h1, h2, o3, o4, e5, e6, e7, e8⟩
    dsimp only at h1 h2 o3 o4 e5 e6 e7 e8 ⊢
    have cw2 := cw.emit e8 e6 e7 hv (fun h => absurd h (by omega))
    rw [if_pos (by omega)] at cw2
    have k44 : A2 44 = A 44 := o4 44 (by decide)
    refine ok_call (s_d_goesOn h1 h2) ?_
    rintro ⟨u3, F3, A3, J3⟩ ⟨j1, j2, p3, p4, j5⟩
    dsimp only at j1 j2 p3 p4 j5 ⊢
    rw [o3 11 (by decide), o3 13 (by decide)] at j5
    have g56 : (F3 56).toInt = (F 56).toInt + 1 := by rw [p3 56 (by decide)]; exact e5
    have g60 : F3 60 = F 60 := (p3 60 (by decide)).trans (o3 60 (by decide))
    have g12 : F3 12 = F 12 := (p3 12 (by decide)).trans (o3 12 (by decide))
    have m44 : A3 44 = A 44 := (p4 44 (by simp)).trans k44
    obtain ⟨z1, z2, z3, z4⟩ := w_fr (A := A) (A' := A3) w (fun i _ => by rw [ai_fr m44])
    have ob : OBm A A3 c s := OBm.tr (fun i p q => e8 i p (by omega)) (OBm.fr (p4 42 (by simp)) (p4 43 (by simp)))
    refine ok_some ⟨j1, j2, fun q hq => (p3 q (fun e => hq ((by decide : ∀ x, x ∈ ([11, 13, 14] : List Nat) → x ∈ ([11, 13, 14, 56] : List Nat)) q e))).trans (o3 q (fun e => hq (by rw [e]; decide))), fun q hq => (p4 q (by simp)).trans (o4 q hq), ob, ?_, ?_⟩
    · show (F 11).toInt ≤ (F3 11).toInt
      omega
    · show (1 ≤ (F3 13).toInt ∧ c ≤ (F3 56).toInt ∧ (F3 56).toInt ≤ 420 * s + (F3 11).toInt + 1) ∨ ((F3 13).toInt = 0 ∧ (F 13).toInt = 0 ∧ (F3 11).toInt = (F 11).toInt + 1 ∧ EXm F3 A3 c s 1)
      rcases j5 with ⟨ja, jb⟩ | ⟨ja, jb⟩
      · refine .inr ⟨by omega, f0, ja, w, by rw [g60]; exact w60, z4 g, by rw [z1, g12]; exact wo, cs, ?_, by rw [z2, g56]; omega⟩
        rw [z2, g56, show wqs A w + 1 = wqs A w + 0 + 1 by omega]
        exact cw2.fr (p4 42 (by simp)) (p4 43 (by simp))
      · exact .inl ⟨jb, by omega, by omega⟩
  unfold d_unit
  refine ok_call (s_d_is hF hA) ?_
  intro v1 p1
  refine ok_cond (fun c1 => ?_) (fun c1 => ?_)
  · refine ok_cond (fun _ => fl) (fun c2 => ?_)
    rw [i_nne] at c2
    refine ok_ld (j := 3) hA (by omega) (by omega) ?_
    intro v4 v4e _
    refine ok_cond (fun _ => fl) (fun c3 => ?_)
    rw [i_nlt] at c3
    refine ok_ld (j := 3) hA (by omega) (by omega) ?_
    intro v6 v6e _
    refine ok_cond (fun _ => fl) (fun c4 => ?_)
    rw [i_ngt] at c4
    refine ok_ld (j := 3) hA (by omega) (by omega) ?_
    intro v8 v8e _
    have e8 := i_sub (x := v8) (y := 35) (by omega) (by omega)
    exact em 1 (v8 - 35) (by omega) (by decide) (fun _ => ⟨by omega, by omega⟩)
  · rw [i_neq] at c1
    refine ok_ld (j := 5) hA (by omega) (by omega) ?_
    intro v17 _ _
    exact em 0 v17 (by omega) (by decide) (fun h => absurd h (by decide))
end
end Qz67
section Qz68
/-- what an expression leaves -/
def EQm (F : Nat → Int32) (A : Nat → Nat → Int32) (c s : Int) (r : Unit × (Nat → Int32) × (Nat → Nat → Int32) × (Nat → Nat → Int64)) : Prop := IFm r.2.1 ∧ IAm r.2.2.1 ∧ EBm F r.2.1 A r.2.2.1 c s ∧ c ≤ (r.2.1 56).toInt ∧ (r.2.1 56).toInt ≤ 420 * s + (r.2.1 11).toInt + 1 ∧ (1 ≤ (r.2.1 13).toInt ∨ ((r.2.1 56).toInt ≤ 420 * s + (r.2.1 11).toInt ∧ (r.2.1 12).toInt = 0 ∧ WFm r.2.2.1 c (r.2.1 56).toInt))
section
variable {F F0 : Nat → Int32} {A A0 : Nat → Nat → Int32} {J : Nat → Nat → Int64} {c s t : Int} {x1 : Int32}
variable {K12 : (Nat → Int32) → (Nat → Nat → Int32) → (Nat → Nat → Int64) → Int32 → Int32 → Option (Unit × (Nat → Int32) × (Nat → Nat → Int32) × (Nat → Nat → Int64))}
theorem s_d_expression_234 {n : Nat} {s1 k : Int32} (hs : 0 ≤ s ∧ s ≤ 1) (hF : IFm F) (hA : IAm A) (B : EBm F0 F A0 A c s) (E : EXm F A c s 1) (f13 : (F 13).toInt = 0) (f12 : (F 12).toInt ≤ 6) (ht : t < (F 11).toInt) (hk : ai A 3 (F 11).toInt = k.toInt) (kk : (8 ≤ k.toInt ∧ k.toInt ≤ 9 ∧ s1.toInt = 0) ∨ (10 ≤ k.toInt ∧ k.toInt ≤ 15 ∧ s1.toInt ≠ 0)) (hn : (F 60).toInt < (n : Int))
    (hK : ∀ F A J, IFm F → IAm A → EBm F0 F A0 A c s → EXm F A c s 0 → (F 12).toInt ≤ 6 → (t < (F 11).toInt ∨ 1 ≤ (F 13).toInt) → ok (K12 F A J x1 1) (EQm F0 A0 c s)) : ok (d_expression_234 K12 n F A J x1 1 s1) (EQm F0 A0 c s) := by
  have r11 : 0 ≤ (F 11).toInt ∧ (F 11).toInt ≤ 400 := hF 11
  have l1 : (1 : Int32).toInt = 1 := by decide
  unfold d_expression_234
  refine ok_call (s_d_comesOut hs hF hA E hn) ?_
  rintro ⟨u, F2, A2, J2⟩ ⟨h1, h2, o3, o4, ob, E2, tp⟩
  dsimp only at h1 h2 o3 o4 ob E2 tp ⊢
  have g11 : F2 11 = F 11 := o3 11 (by decide)
  have g12 : F2 12 = F 12 := o3 12 (by decide)
  have g13 : F2 13 = F 13 := o3 13 (by decide)
  have k3 : A2 3 = A 3 := o4 3 (by decide)
  have k44 : A2 44 = A 44 := o4 44 (by decide)
  obtain ⟨w, w60, g, wo, cs, cw, bd⟩ := E2
  have wb := w_bd (A := A2) w
  have wb2 := wb.2.2.2.2 g
  rw [g12] at wo
  rw [g11, g13] at bd
  refine ok_ld (j := 3) h2 (by rw [g11]; omega) (by rw [g11]; omega) ?_
  intro v ve _
  rw [g11, ai_fr k3, hk] at ve
  refine ok_st (j := 44) h2 (by omega) (by omega) trivial ?_
  intro A3 hA3 o5 s5 n5
  have e6 := i_add (x := F2 60) (y := 1) (by omega) (by omega)
  refine ok_pf h1 (show 0 ≤ (F2 60 + 1).toInt ∧ (F2 60 + 1).toInt ≤ 64 by omega) ?_
  intro F3 hF3 k7 o7
  refine ok_call (s_d_goesOn hF3 hA3) ?_
  rintro ⟨u4, F4, A4, J4⟩ ⟨j1, j2, p3, p4, j5⟩
  dsimp only at j1 j2 p3 p4 j5 ⊢
  have q11 : F3 11 = F 11 := (o7 11 (by decide)).trans g11
  have q13 : F3 13 = F 13 := (o7 13 (by decide)).trans g13
  rw [q11, q13] at j5
  have q12 : F4 12 = F 12 := (p3 12 (by decide)).trans ((o7 12 (by decide)).trans g12)
  have q56 : F4 56 = F2 56 := (p3 56 (by decide)).trans (o7 56 (by decide))
  have q60 : (F4 60).toInt = ((w + 1 : Nat) : Int) := by rw [p3 60 (by decide), k7]; omega
  have m44 : A4 44 = A3 44 := p4 44 (by simp)
  have bel : ∀ i : Nat, i < w → ai A4 44 (i : Int) = ai A2 44 (i : Int) := fun i hi => by rw [ai_fr m44, n5 _ (by omega) (by omega)]
  obtain ⟨z1, z2, z3, z4⟩ := w_fr (A := A2) (A' := A4) w bel
  have top : ai A4 44 (w : Int) = k.toInt := by rw [ai_fr m44, ← w60, s5]; exact ve
  have ne6 : ai A4 44 (w : Int) ≠ 6 := by rw [top]; omega
  have y1 : wop A4 (w + 1) = wop A4 w := if_neg ne6
  have y2 : wqs A4 (w + 1) = wqs A4 w + 1 := if_neg ne6
  have ru : wru A2 w = 0 ∨ (wru A2 w = 1 ∧ 10 ≤ k.toInt) := by
    rcases tp with h | h
    · have : w = 0 := by omega
      subst this
      exact .inl rfl
    · by_cases hw : w = 0
      · subst hw; exact .inl rfl
      · obtain ⟨w', rfl⟩ : ∃ w', w = w' + 1 := ⟨w - 1, by omega⟩
        rw [show (F2 60).toInt - 1 = (w' : Int) by omega, ← ai_fr k44] at h
        rcases h with h | ⟨h, h'⟩
        · exact .inl (if_pos h)
        · have n6 : ai A2 44 (w' : Int) ≠ 6 := by omega
          have y3 : wru A2 (w' + 1) = wru A2 w' + 1 := if_neg n6
          have gg := g.2
          exact .inr ⟨by omega, by omega⟩
  have E4 : EXm F4 A4 c s 0 := by
    refine ⟨w + 1, q60, ⟨z4 g, .inr (by rw [z3, top]; exact ru)⟩, by rw [y1, z1, q12]; exact wo, cs, ?_, ?_⟩
    · rw [y2, z2, q56, show wqs A2 w + 1 + 0 = wqs A2 w + 1 by omega]
      exact cw.fr ((p4 42 (by simp)).trans (o5 42 (by decide))) ((p4 43 (by simp)).trans (o5 43 (by decide)))
    · rw [y2, z2, q56]; omega
  have B4 : EBm F0 F4 A0 A4 c s := B.go (fun q hq => (p3 q (fun e => hq ((by decide : ∀ x, x ∈ ([11, 13, 14] : List Nat) → x ∈ ([11, 12, 13, 14, 56, 60] : List Nat)) q e))).trans ((o7 q (fun e => hq (by rw [e]; decide))).trans (o3 q (fun e => hq ((by decide : ∀ x, x ∈ ([56, 60] : List Nat) → x ∈ ([11, 12, 13, 14, 56, 60] : List Nat)) q e))))) (fun q hq => (p4 q (by simp)).trans ((o5 q (fun e => hq (by rw [e]; decide))).trans (o4 q (fun e => hq ((by decide : ∀ x, x ∈ ([42, 43] : List Nat) → x ∈ ([42, 43, 44] : List Nat)) q e))))) (ob.tr (OBm.fr ((p4 42 (by simp)).trans (o5 42 (by decide))) ((p4 43 (by simp)).trans (o5 43 (by decide))))) (by omega) (fun h => by omega)
  exact hK F4 A4 J4 j1 j2 B4 E4 (by rw [q12]; exact f12) (by omega)
theorem s_d_expression_186 {n : Nat} {s0 : Int32} (hs : 0 ≤ s ∧ s ≤ 1) (hF : IFm F) (hA : IAm A) (B : EBm F0 F A0 A c s) (E : EXm F A c s 1) (f12 : (F 12).toInt ≤ 6) (hx : x1.toInt = 0) (h0 : s0.toInt = 0 ∨ (s0 = 1 ∧ (F 13).toInt = 0 ∧ 8 ≤ ai A 3 (F 11).toInt ∧ (ai A 3 (F 11).toInt ≤ 10 ∨ ai A 3 (F 11).toInt = 15) ∧ t < (F 11).toInt)) (hn : (F 60).toInt < (n : Int))
    (hK : ∀ F A J, IFm F → IAm A → EBm F0 F A0 A c s → EXm F A c s 0 → (F 12).toInt ≤ 6 → (t < (F 11).toInt ∨ 1 ≤ (F 13).toInt) → ok (K12 F A J x1 1) (EQm F0 A0 c s)) : ok (d_expression_186 K12 n F A J x1 s0) (EQm F0 A0 c s) := by
  have l0 : (0 : Int32).toInt = 0 := by decide
  have l1 : (1 : Int32).toInt = 1 := by decide
  have l10 : (10 : Int32).toInt = 10 := by decide
  have l15 : (15 : Int32).toInt = 15 := by decide
  have r11 : 0 ≤ (F 11).toInt ∧ (F 11).toInt ≤ 400 := hF 11
  obtain ⟨k, hk⟩ : ∃ k : Int32, ai A 3 (F 11).toInt = k.toInt := ⟨A 3 (F 11).toInt.toNat, rfl⟩
  unfold d_expression_186
  refine ok_cond (fun c1 => ?_) (fun c1 => ?_)
  · rw [i_ne] at c1
    rcases h0 with h0 | ⟨rfl, f13, k8, k15, ht⟩
    · exact absurd h0 (by omega)
    · have go : ∀ s1 : Int32, ((8 ≤ k.toInt ∧ k.toInt ≤ 9 ∧ s1.toInt = 0) ∨ (10 ≤ k.toInt ∧ k.toInt ≤ 15 ∧ s1.toInt ≠ 0)) → ok (d_expression_234 K12 n F A J x1 1 s1) (EQm F0 A0 c s) := fun s1 h => s_d_expression_234 hs hF hA B E f13 f12 ht hk h hn hK
      refine ok_call (s_d_is hF hA) ?_
      intro v p
      refine ok_cond (fun c2 => ?_) (fun c2 => ?_)
      · rw [i_ne] at c2
        unfold d_expression_229
        exact go 1 (.inr ⟨by omega, by omega, by omega⟩)
      · rw [i_nne] at c2
        refine ok_call (s_d_is hF hA) ?_
        intro v' p'
        refine ok_cond (fun c3 => ?_) (fun c3 => ?_)
        · rw [i_eq] at c3
          exact go 0 (.inl ⟨by omega, by omega, by omega⟩)
        · rw [i_neq] at c3
          unfold d_expression_229
          exact go 1 (.inr ⟨by omega, by omega, by omega⟩)
  · have fin : ∀ {F' A' J'}, IFm F' → IAm A' → EBm F0 F' A0 A' c s → EXm F' A' c s 1 → ((F' 12).toInt = 0 ∨ 1 ≤ (F' 13).toInt) → (F' 60).toInt < (n : Int) → ok ((d_comesOut n F' A' J' 0).bind fun (_, F77, A78, J79) => some ((), F77, A78, J79)) (EQm F0 A0 c s) := by
      intro F' A' J' hF' hA' B' E' hz hn'
      refine ok_call (s_d_comesOut hs hF' hA' E' hn') ?_
      rintro ⟨u, F2, A2, J2⟩ ⟨h1, h2, o3, o4, ob, E2, tp⟩
      dsimp only at h1 h2 o3 o4 ob E2 tp ⊢
      obtain ⟨w, w60, g, wo, cs, cw, bd⟩ := E2
      have wb := w_bd (A := A2) w
      have g12 : F2 12 = F' 12 := o3 12 (by decide)
      have g13 : F2 13 = F' 13 := o3 13 (by decide)
      have g11 : F2 11 = F' 11 := o3 11 (by decide)
      have q11 : 0 ≤ (F2 11).toInt ∧ (F2 11).toInt ≤ 400 := h1 11
      have cu := cw.2.1
      have B2 : EBm F0 F2 A0 A2 c s := B'.go (fun q hq => o3 q (fun e => hq ((by decide : ∀ x, x ∈ ([56, 60] : List Nat) → x ∈ ([11, 12, 13, 14, 56, 60] : List Nat)) q e))) (fun q hq => o4 q (fun e => hq ((by decide : ∀ x, x ∈ ([42, 43] : List Nat) → x ∈ ([42, 43, 44] : List Nat)) q e))) ob (by rw [g11]; omega) (fun h => by rw [g13]; exact h)
      refine ok_some ⟨h1, h2, B2, cu, (show (F2 56).toInt ≤ 420 * s + (F2 11).toInt + 1 by omega), ?_⟩
      show 1 ≤ (F2 13).toInt ∨ ((F2 56).toInt ≤ 420 * s + (F2 11).toInt ∧ (F2 12).toInt = 0 ∧ WFm A2 c (F2 56).toInt)
      by_cases h : 1 ≤ (F2 13).toInt
      · exact .inl h
      · rw [g12]
        have h' := h
        rw [g13] at h'
        exact .inr ⟨by omega, by omega, cw.wf (by omega) (by omega)⟩
    have r12 : 0 ≤ (F 12).toInt ∧ (F 12).toInt ≤ 7 := hF 12
    refine ok_cond (fun c2 => ?_) (fun c2 => ?_)
    · rw [i_le] at c2
      unfold d_expression_204
      exact fin hF hA B E (.inl (by omega)) hn
    · refine ok_call (s_d_fail hF hA (by decide)) ?_
      rintro ⟨u, F2, A2, J2⟩ ⟨h1, h2, o3, o4, e5⟩
      dsimp only at h1 h2 o3 o4 e5 ⊢
      have g12 : F2 12 = F 12 := o3 12 (by decide)
      have g11 : F2 11 = F 11 := o3 11 (by decide)
      have g56 : F2 56 = F 56 := o3 56 (by decide)
      have g60 : F2 60 = F 60 := o3 60 (by decide)
      obtain ⟨w, w60, g, wo, cs, cw, bd⟩ := E
      obtain ⟨z1, z2, z3, z4⟩ := w_fr (A := A) (A' := A2) w (fun i _ => by rw [ai_fr (o4 44 (by simp))])
      refine fin h1 h2 (B.go (fun q hq => o3 q (fun e => hq ((by decide : ∀ x, x ∈ ([13, 14] : List Nat) → x ∈ ([11, 12, 13, 14, 56, 60] : List Nat)) q e))) (fun q hq => o4 q (by simp)) (OBm.fr (o4 42 (by simp)) (o4 43 (by simp))) (by rw [g11]; omega) (fun _ => e5)) ⟨w, by rw [g60]; exact w60, z4 g, by rw [z1, g12]; exact wo, cs, ?_, by rw [z2, g56, g11]; exact ⟨bd.1, .inl e5⟩⟩ (.inr e5) (by rw [g60]; exact hn)
      rw [z2, g56]
      exact cw.fr (o4 42 (by simp)) (o4 43 (by simp))
theorem s_d_expression_145 {n : Nat} (hs : 0 ≤ s ∧ s ≤ 1) (hF : IFm F) (hA : IAm A) (B : EBm F0 F A0 A c s) (E : EXm F A c s 1) (f12 : (F 12).toInt ≤ 6) (hx : x1.toInt = 0) (ht : t < (F 11).toInt) (hn : (F 60).toInt < (n : Int))
    (hK : ∀ F A J, IFm F → IAm A → EBm F0 F A0 A c s → EXm F A c s 0 → (F 12).toInt ≤ 6 → (t < (F 11).toInt ∨ 1 ≤ (F 13).toInt) → ok (K12 F A J x1 1) (EQm F0 A0 c s)) : ok (d_expression_145 K12 n F A J x1) (EQm F0 A0 c s) := by
  have l0 : (0 : Int32).toInt = 0 := by decide
  have l8 : (8 : Int32).toInt = 8 := by decide
  have l9 : (9 : Int32).toInt = 9 := by decide
  have l10 : (10 : Int32).toInt = 10 := by decide
  have l15 : (15 : Int32).toInt = 15 := by decide
  have r11 : 0 ≤ (F 11).toInt ∧ (F 11).toInt ≤ 400 := hF 11
  have go : (F 13).toInt = 0 → 8 ≤ ai A 3 (F 11).toInt → (ai A 3 (F 11).toInt ≤ 10 ∨ ai A 3 (F 11).toInt = 15) → ok (d_expression_181 K12 n F A J x1) (EQm F0 A0 c s) := fun h1 h2 h3 => by
    unfold d_expression_181
    exact s_d_expression_186 hs hF hA B E f12 hx (.inr ⟨rfl, h1, h2, h3, ht⟩) hn hK
  unfold d_expression_145
  refine ok_call (s_d_is hF hA) ?_
  intro v p
  refine ok_cond (fun c2 => ?_) (fun c2 => ?_)
  · rw [i_ne] at c2
    exact go (by omega) (by omega) (by omega)
  · refine ok_call (s_d_is hF hA) ?_
    intro v p
    refine ok_cond (fun c2 => ?_) (fun c2 => ?_)
    · rw [i_ne] at c2
      exact go (by omega) (by omega) (by omega)
    · refine ok_call (s_d_is hF hA) ?_
      intro v p
      refine ok_cond (fun c2 => ?_) (fun c2 => ?_)
      · rw [i_ne] at c2
        exact go (by omega) (by omega) (by omega)
      · refine ok_call (s_d_is hF hA) ?_
        intro v p
        refine ok_cond (fun c2 => ?_) (fun c2 => ?_)
        · exact s_d_expression_186 hs hF hA B E f12 hx (t := t) (.inl (by decide)) hn hK
        · rw [i_neq] at c2
          exact go (by omega) (by omega) (by omega)
theorem s_d_expression_96 (hs : 0 ≤ s ∧ s ≤ 1) (hx : x1.toInt = 0)
    (hK : ∀ F A J, IFm F → IAm A → EBm F0 F A0 A c s → EXm F A c s 0 → (F 12).toInt ≤ 6 → (t < (F 11).toInt ∨ 1 ≤ (F 13).toInt) → ok (K12 F A J x1 1) (EQm F0 A0 c s)) : ∀ {n : Nat} {F : Nat → Int32} {A : Nat → Nat → Int32} {J : Nat → Nat → Int64}, IFm F → IAm A → EBm F0 F A0 A c s → EXm F A c s 1 → (F 12).toInt ≤ 6 → t < (F 11).toInt → (F 12).toInt + 70 < (n : Int) → ok (d_expression_96 K12 n F A J x1) (EQm F0 A0 c s) := by
  intro n
  induction n with
  | zero =>
    intro F A J hF hA B E f12 ht hn
    have r12 : 0 ≤ (F 12).toInt ∧ (F 12).toInt ≤ 7 := hF 12
    exact absurd hn (by omega)
  | succ n ih =>
    intro F A J hF hA B E f12 ht hn
    have r60 : 0 ≤ (F 60).toInt ∧ (F 60).toInt ≤ 64 := hF 60
    have r12 : 0 ≤ (F 12).toInt ∧ (F 12).toInt ≤ 7 := hF 12
    have r11 : 0 ≤ (F 11).toInt ∧ (F 11).toInt ≤ 400 := hF 11
    have l0 : (0 : Int32).toInt = 0 := by decide
    have l1 : (1 : Int32).toInt = 1 := by decide
    have go : ok (d_expression_145 K12 n F A J x1) (EQm F0 A0 c s) := s_d_expression_145 hs hF hA B E f12 hx ht (by omega) hK
    unfold d_expression_96
    refine ok_call (s_d_is hF hA) ?_
    intro v p
    refine ok_cond (fun c1 => go) (fun c1 => ?_)
    rw [i_neq] at c1
    refine ok_cond (fun c2 => go) (fun c2 => ?_)
    rw [i_nle] at c2
    refine ok_call (s_d_comesOut hs hF hA E (by omega)) ?_
    rintro ⟨u, F2, A2, J2⟩ ⟨h1, h2, o3, o4, ob, E2, tp⟩
    dsimp only at h1 h2 o3 o4 ob E2 tp ⊢
    obtain ⟨w, w60, g, wo, cs, cw, bd⟩ := E2
    have wb := w_bd (A := A2) w
    have g11 : F2 11 = F 11 := o3 11 (by decide)
    have g12 : F2 12 = F 12 := o3 12 (by decide)
    have g13 : F2 13 = F 13 := o3 13 (by decide)
    have k44 : A2 44 = A 44 := o4 44 (by decide)
    have q60 : 0 ≤ (F2 60).toInt ∧ (F2 60).toInt ≤ 64 := h1 60
    rw [g12] at wo
    rw [g11, g13] at bd
    obtain ⟨w', rfl⟩ : ∃ w', w = w' + 1 := ⟨w - 1, by
      by_cases hw : w = 0
      · subst hw
        have : wop A2 0 = 0 := rfl
        omega
      · omega⟩
    have t6 : ai A2 44 (w' : Int) = 6 := by
      rw [show (F2 60).toInt - 1 = (w' : Int) by omega, ← ai_fr k44] at tp
      omega
    have y1 : wop A2 (w' + 1) = wop A2 w' + 1 := if_pos t6
    have y2 : wqs A2 (w' + 1) = wqs A2 w' := if_pos t6
    have e3 := i_sub (x := F2 60) (y := 1) (by omega) (by omega)
    refine ok_pf h1 (show 0 ≤ (F2 60 - 1).toInt ∧ (F2 60 - 1).toInt ≤ 64 by omega) ?_
    intro F3 hF3 k3 p3
    have q12 : F3 12 = F 12 := (p3 12 (by decide)).trans g12
    have e4 := i_sub (x := F3 12) (y := 1) (by rw [q12]; omega) (by rw [q12]; omega)
    refine ok_pf hF3 (show 0 ≤ (F3 12 - 1).toInt ∧ (F3 12 - 1).toInt ≤ 7 by rw [e4, q12]; omega) ?_
    intro F4 hF4 k4 p4
    refine ok_call (s_d_goesOn hF4 h2) ?_
    rintro ⟨u5, F5, A5, J5⟩ ⟨j1, j2, m3, m4, j5⟩
    dsimp only at j1 j2 m3 m4 j5 ⊢
    have q11 : F4 11 = F 11 := (p4 11 (by decide)).trans ((p3 11 (by decide)).trans g11)
    have q13 : F4 13 = F 13 := (p4 13 (by decide)).trans ((p3 13 (by decide)).trans g13)
    rw [q11, q13] at j5
    have z60 : (F5 60).toInt = (w' : Int) := by rw [m3 60 (by decide), p4 60 (by decide), k3]; omega
    have z12 : (F5 12).toInt = (F 12).toInt - 1 := by rw [m3 12 (by decide), k4, e4, q12]; omega
    have z56 : F5 56 = F2 56 := (m3 56 (by decide)).trans ((p4 56 (by decide)).trans (p3 56 (by decide)))
    obtain ⟨z1, z2, z3, z4⟩ := w_fr (A := A2) (A' := A5) w' (fun i _ => by rw [ai_fr (m4 44 (by simp))])
    refine ih j1 j2 (B.go (fun q hq => (m3 q (fun e => hq ((by decide : ∀ x, x ∈ ([11, 13, 14] : List Nat) → x ∈ ([11, 12, 13, 14, 56, 60] : List Nat)) q e))).trans ((p4 q (fun e => hq (by rw [e]; decide))).trans ((p3 q (fun e => hq (by rw [e]; decide))).trans (o3 q (fun e => hq ((by decide : ∀ x, x ∈ ([56, 60] : List Nat) → x ∈ ([11, 12, 13, 14, 56, 60] : List Nat)) q e)))))) (fun q hq => (m4 q (by simp)).trans (o4 q (fun e => hq ((by decide : ∀ x, x ∈ ([42, 43] : List Nat) → x ∈ ([42, 43, 44] : List Nat)) q e)))) (ob.tr (OBm.fr (m4 42 (by simp)) (m4 43 (by simp)))) (by omega) (fun h => by omega)) ⟨w', z60, z4 g.1, by rw [z1, z12]; omega, cs, ?_, by rw [z2, z56]; omega⟩ (by omega) (by omega) (by omega)
    rw [z2, z56, ← y2]
    exact cw.fr (m4 42 (by simp)) (m4 43 (by simp))
theorem s_d_expression_23 (hs : 0 ≤ s ∧ s ≤ 1) (hx : x1.toInt = 0)
    (hK : ∀ F A J, IFm F → IAm A → EBm F0 F A0 A c s → EXm F A c s 0 → (F 12).toInt ≤ 6 → (t < (F 11).toInt ∨ 1 ≤ (F 13).toInt) → ok (K12 F A J x1 1) (EQm F0 A0 c s)) : ∀ {n : Nat} {F : Nat → Int32} {A : Nat → Nat → Int32} {J : Nat → Nat → Int64}, IFm F → IAm A → EBm F0 F A0 A c s → EXm F A c s 0 → ((F 12).toInt ≤ 6 ∨ 1 ≤ (F 13).toInt) → t ≤ (F 11).toInt → 90 - (F 12).toInt < (n : Int) → ok (d_expression_23 K12 n F A J x1) (EQm F0 A0 c s) := by
  intro n
  induction n with
  | zero =>
    intro F A J hF hA B E f12 ht hn
    have r12 : 0 ≤ (F 12).toInt ∧ (F 12).toInt ≤ 7 := hF 12
    exact absurd hn (by omega)
  | succ n ih =>
    intro F A J hF hA B E f12 ht hn
    have r60 : 0 ≤ (F 60).toInt ∧ (F 60).toInt ≤ 64 := hF 60
    have r12 : 0 ≤ (F 12).toInt ∧ (F 12).toInt ≤ 7 := hF 12
    have r11 : 0 ≤ (F 11).toInt ∧ (F 11).toInt ≤ 400 := hF 11
    have l0 : (0 : Int32).toInt = 0 := by decide
    have l1 : (1 : Int32).toInt = 1 := by decide
    have l6 : (6 : Int32).toInt = 6 := by decide
    unfold d_expression_23
    refine ok_call (s_d_is hF hA) ?_
    intro v p
    refine ok_cond (fun c1 => ?_) (fun c1 => ?_)
    · refine ok_call (s_d_unit hs hF hA E) ?_
      rintro ⟨u, F2, A2, J2⟩ ⟨h1, h2, o3, o4, ob, m11, un⟩
      dsimp only at h1 h2 o3 o4 ob m11 un ⊢
      have r13 : 0 ≤ (F 13).toInt ∧ (F 13).toInt ≤ 5 := hF 13
      have B2 : EBm F0 F2 A0 A2 c s := B.go (fun q hq => o3 q (fun e => hq ((by decide : ∀ x, x ∈ ([11, 13, 14, 56] : List Nat) → x ∈ ([11, 12, 13, 14, 56, 60] : List Nat)) q e))) (fun q hq => o4 q (fun e => hq ((by decide : ∀ x, x ∈ ([42, 43] : List Nat) → x ∈ ([42, 43, 44] : List Nat)) q e))) ob m11 (fun h => by omega)
      have g12 : F2 12 = F 12 := o3 12 (by decide)
      refine ok_cond (fun c2 => ?_) (fun c2 => ?_)
      · rw [i_le] at c2
        rcases un with ⟨ua, ub, uc⟩ | ⟨ua, ub, uc, ud⟩
        · exact absurd ua (by omega)
        · exact s_d_expression_96 hs hx hK h1 h2 B2 ud (by rw [g12]; omega) (by omega) (by rw [g12]; omega)
      · rw [i_nle] at c2
        rcases un with ⟨ua, ub, uc⟩ | ⟨ua, ub, uc, ud⟩
        · exact ok_some ⟨h1, h2, B2, ub, uc, .inl ua⟩
        · exact absurd ua (by omega)
    · rw [i_neq] at c1
      obtain ⟨w, w60, g, wo, cs, cw, bd⟩ := E
      have wb := w_bd (A := A) w
      have wb2 := wb.2.2.2.2 g
      have e3 := i_add (x := F 12) (y := 1) (by omega) (by omega)
      have push : ∀ {F1 A1 J1}, IFm F1 → (∀ q, q ∉ ([13, 14] : List Nat) → F1 q = F q) → (∀ q, q ∉ ([] : List Nat) → A1 q = A q) → IAm A1 → ((F 12).toInt < 6 ∨ 1 ≤ (F1 13).toInt) → ok ((m_pf F1 12 ((F1 12) + 1)).bind fun F36 => (d_goesOn F36 A1 J1).bind fun (_, F38, A39, J40) => (m_st A39 44 64 (F38 60) 6).bind fun A41 => (m_pf F38 60 ((F38 60) + 1)).bind fun F42 => d_expression_23 K12 n F42 A41 J40 x1) (EQm F0 A0 c s) := by
        intro F1 A1 J1 hF1 oF oA hA1 hb
        have a12 : F1 12 = F 12 := oF 12 (by decide)
        refine ok_pf hF1 (show 0 ≤ (F1 12 + 1).toInt ∧ (F1 12 + 1).toInt ≤ 7 by rw [a12]; omega) ?_
        intro F2 hF2 k2 p2
        refine ok_call (s_d_goesOn hF2 hA1) ?_
        rintro ⟨u3, F3, A3, J3⟩ ⟨j1, j2, m3, m4, j5⟩
        dsimp only at j1 j2 m3 m4 j5 ⊢
        have q11 : F2 11 = F 11 := (p2 11 (by decide)).trans (oF 11 (by decide))
        have q13 : F2 13 = F1 13 := p2 13 (by decide)
        have q60 : F3 60 = F 60 := (m3 60 (by decide)).trans ((p2 60 (by decide)).trans (oF 60 (by decide)))
        have q12 : (F3 12).toInt = (F 12).toInt + 1 := by rw [m3 12 (by decide), k2, a12]; omega
        have q56 : F3 56 = F 56 := (m3 56 (by decide)).trans ((p2 56 (by decide)).trans (oF 56 (by decide)))
        rw [q11, q13] at j5
        have r1 : 0 ≤ (F1 13).toInt ∧ (F1 13).toInt ≤ 5 := hF1 13
        refine ok_st (j := 44) j2 (by rw [q60]; omega) (by rw [q60]; omega) trivial ?_
        intro A4 hA4 o4 s4 n4
        rw [q60] at s4 n4
        have e5 := i_add (x := F3 60) (y := 1) (by rw [q60]; omega) (by rw [q60]; omega)
        refine ok_pf j1 (show 0 ≤ (F3 60 + 1).toInt ∧ (F3 60 + 1).toInt ≤ 64 by rw [e5, q60]; omega) ?_
        intro F5 hF5 k5 p5
        have x60 : (F5 60).toInt = ((w + 1 : Nat) : Int) := by rw [k5, e5, q60]; omega
        have x12 : (F5 12).toInt = (F 12).toInt + 1 := by rw [p5 12 (by decide)]; exact q12
        have x11 : F5 11 = F3 11 := p5 11 (by decide)
        have x13 : F5 13 = F3 13 := p5 13 (by decide)
        have x56 : F5 56 = F 56 := (p5 56 (by decide)).trans q56
        have a44 : ∀ q, A3 q = A q := fun q => (m4 q (by simp)).trans (oA q (by simp))
        obtain ⟨z1, z2, z3, z4⟩ := w_fr (A := A) (A' := A4) w (fun i hi => by rw [n4 _ (by omega) (by omega), ai_fr (a44 44)])
        have t6 : ai A4 44 (w : Int) = 6 := by rw [← w60, s4]; exact l6
        have y1 : wop A4 (w + 1) = wop A4 w + 1 := if_pos t6
        have y2 : wqs A4 (w + 1) = wqs A4 w := if_pos t6
        have o42 : A4 42 = A 42 := (o4 42 (by decide)).trans (a44 42)
        have o43 : A4 43 = A 43 := (o4 43 (by decide)).trans (a44 43)
        refine ih hF5 hA4 (B.go (fun q hq => (p5 q (fun e => hq (by rw [e]; decide))).trans ((m3 q (fun e => hq ((by decide : ∀ x, x ∈ ([11, 13, 14] : List Nat) → x ∈ ([11, 12, 13, 14, 56, 60] : List Nat)) q e))).trans ((p2 q (fun e => hq (by rw [e]; decide))).trans (oF q (fun e => hq ((by decide : ∀ x, x ∈ ([13, 14] : List Nat) → x ∈ ([11, 12, 13, 14, 56, 60] : List Nat)) q e)))))) (fun q hq => (o4 q (fun e => hq (by rw [e]; decide))).trans (a44 q)) (OBm.fr o42 o43) (by rw [x11]; omega) (fun h => by rw [x13]; omega)) ⟨w + 1, x60, ⟨z4 g, .inl t6⟩, by rw [y1, z1, x12]; omega, cs, ?_, by rw [y2, z2, x56, x11, x13]; omega⟩ (by rw [x12, x13]; omega) (by rw [x11]; omega) (by omega)
        rw [y2, z2, x56]
        exact cw.fr o42 o43
      refine ok_cond (fun c2 => ?_) (fun c2 => ?_)
      · rw [i_ne] at c2
        unfold d_expression_46
        exact push hF (fun _ _ => rfl) (fun _ _ => rfl) hA (.inl (by omega))
      · refine ok_call (s_d_fail hF hA (by decide)) ?_
        rintro ⟨u3, F3, A3, J3⟩ ⟨j1, j2, m3, m4, j5⟩
        dsimp only at j1 j2 m3 m4 j5 ⊢
        exact push j1 m3 m4 j2 (.inr j5)
end
theorem s_d_expression_12 {c s : Int} {F0 : Nat → Int32} {A0 : Nat → Nat → Int32} {x1 : Int32} (hs : 0 ≤ s ∧ s ≤ 1) (hx : x1.toInt = 0) : ∀ {n : Nat} {F : Nat → Int32} {A : Nat → Nat → Int32} {J : Nat → Nat → Int64}, IFm F → IAm A → EBm F0 F A0 A c s → EXm F A c s 0 → (F 12).toInt ≤ 6 → ((1 ≤ (F 13).toInt ∧ 1 ≤ n) ∨ 600 - (F 11).toInt < (n : Int)) → ok (d_expression_12 n F A J x1 1) (EQm F0 A0 c s) := by
  intro n
  induction n with
  | zero =>
    intro F A J hF hA B E f12 hn
    have r11 : 0 ≤ (F 11).toInt ∧ (F 11).toInt ≤ 400 := hF 11
    exact absurd hn (by omega)
  | succ n ih =>
    intro F A J hF hA B E f12 hn
    have r11 : 0 ≤ (F 11).toInt ∧ (F 11).toInt ≤ 400 := hF 11
    have r12 : 0 ≤ (F 12).toInt ∧ (F 12).toInt ≤ 7 := hF 12
    have r13 : 0 ≤ (F 13).toInt ∧ (F 13).toInt ≤ 5 := hF 13
    have l0 : (0 : Int32).toInt = 0 := by decide
    unfold d_expression_12
    refine ok_cond (fun c1 => absurd c1 (by decide)) (fun _ => ?_)
    refine ok_cond (fun c1 => ?_) (fun c1 => ?_)
    · rw [i_ne] at c1
      obtain ⟨w, w60, g, wo, cs, cw, bd⟩ := E
      have wb := w_bd (A := A) w
      exact ok_some ⟨hF, hA, B, cw.2.1, (show (F 56).toInt ≤ 420 * s + (F 11).toInt + 1 by omega), .inl (show 1 ≤ (F 13).toInt by omega)⟩
    · rw [i_nne] at c1
      exact s_d_expression_23 (t := (F 11).toInt) hs hx (fun F' A' J' a1 a2 a3 a4 a5 a6 => ih a1 a2 a3 a4 a5 (by omega)) hF hA B E (.inl f12) (by omega) (by omega)
theorem s_d_expression {n : Nat} {s : Int} {F : Nat → Int32} {A : Nat → Nat → Int32} {J : Nat → Nat → Int64} (hs : 0 ≤ s ∧ s ≤ 1) (hF : IFm F) (hA : IAm A) (h56 : 420 * s ≤ (F 56).toInt ∧ (F 56).toInt ≤ 420 * s + (F 11).toInt + 1) (h12 : 1 ≤ (F 13).toInt ∨ ((F 12).toInt = 0 ∧ (F 56).toInt ≤ 420 * s + (F 11).toInt)) (hn : 610 ≤ n) : ok (d_expression n F A J) (EQm F A (F 56).toInt s) := by
  have r11 : 0 ≤ (F 11).toInt ∧ (F 11).toInt ≤ 400 := hF 11
  have r56 : 0 ≤ (F 56).toInt ∧ (F 56).toInt ≤ 840 := hF 56
  unfold d_expression
  refine ok_pf hF (show 0 ≤ (0 : Int32).toInt ∧ (0 : Int32).toInt ≤ 64 by decide) ?_
  intro F1 hF1 k1 o1
  have g11 : F1 11 = F 11 := o1 11 (by decide)
  have g12 : F1 12 = F 12 := o1 12 (by decide)
  have g13 : F1 13 = F 13 := o1 13 (by decide)
  have g56 : F1 56 = F 56 := o1 56 (by decide)
  have B1 : EBm F F1 A A (F 56).toInt s := EBm.go EBm.rfl' (fun q hq => o1 q (fun e => hq (by rw [e]; decide))) (fun _ _ => rfl) (fun _ _ _ => ⟨rfl, rfl⟩) (by rw [g11]; omega) (fun h => by rw [g13]; exact h)
  by_cases h13 : 1 ≤ (F 13).toInt
  · obtain ⟨m, rfl⟩ : ∃ m, n = m + 1 := ⟨n - 1, by omega⟩
    have l0 : (0 : Int32).toInt = 0 := by decide
    unfold d_expression_12
    refine ok_cond (fun c1 => absurd c1 (by decide)) (fun _ => ?_)
    refine ok_cond (fun c1 => ?_) (fun c1 => ?_)
    · exact ok_some ⟨hF1, hA, B1, by rw [show ((), F1, A, J).2.1 56 = F 56 from g56]; omega, by rw [show ((), F1, A, J).2.1 56 = F 56 from g56, show ((), F1, A, J).2.1 11 = F 11 from g11]; exact h56.2, .inl (by rw [show ((), F1, A, J).2.1 13 = F 13 from g13]; exact h13)⟩
    · rw [i_nne, g13] at c1
      exact absurd c1 (by omega)
  · have hz := h12.resolve_left h13
    refine s_d_expression_12 hs (by rw [g12]; exact hz.1) hF1 hA B1 ⟨0, by rw [k1]; decide, trivial, by rw [g12, hz.1]; rfl, h56.1, ?_, ?_⟩ (by rw [g12]; omega) (.inr (by rw [g11]; omega))
    · rw [g56]
      refine ⟨by omega, by omega, ?_, fun k h => absurd h (by omega), fun i h1 h2 => absurd h2 (by omega)⟩
      rw [show ((F 56).toInt - (F 56).toInt).toNat = 0 by omega]
      rfl
    · rw [g56, g11]
      have : wqs A 0 = 0 := rfl
      omega
end Qz68
section Qz69
/-! a law is told -/
def CSm (F : Nat → Int32) (s : Int) : Prop := 420 * s ≤ (F 56).toInt ∧ (F 56).toInt ≤ 420 * s + (F 11).toInt + 1 ∧ (1 ≤ (F 13).toInt ∨ ((F 12).toInt = 0 ∧ (F 56).toInt ≤ 420 * s + (F 11).toInt))
def LUm (A : Nat → Nat → Int32) (s b : Int) : Prop := LWm A b ∧ 420 * s ≤ ai A 39 b ∧ (ai A 36 b = 1 → 420 * s ≤ ai A 37 b)
def LBm (F : Nat → Int32) (A : Nat → Nat → Int32) (s : Int) : Prop := ∀ b, 50 * s ≤ b → b < (F 49).toInt → LUm A s b ∧ ai A 40 b ≤ (F 56).toInt
def LLm (F : Nat → Int32) (A : Nat → Nat → Int32) (s : Int) : Prop := ∀ m, 0 ≤ m → m < 6 → ∀ b, ai A 34 (6 * s + m) ≤ b → b < ai A 35 (6 * s + m) → 50 * s ≤ b ∧ b < (F 49).toInt
def TMm (F : Nat → Int32) (A : Nat → Nat → Int32) (s : Int) (r : Unit × (Nat → Int32) × (Nat → Nat → Int32) × (Nat → Nat → Int64)) : Prop := IFm r.2.1 ∧ IAm r.2.2.1 ∧ (∀ q, q ∉ ([11, 12, 13, 14, 49, 56, 60] : List Nat) → r.2.1 q = F q) ∧ (∀ q, q ∉ ([39, 40, 42, 43, 44] : List Nat) → r.2.2.1 q = A q) ∧ OBm A r.2.2.1 (F 56).toInt s ∧ (∀ i, 0 ≤ i → i ≠ (F 49).toInt → ai r.2.2.1 39 i = ai A 39 i ∧ ai r.2.2.1 40 i = ai A 40 i) ∧ (F 11).toInt ≤ (r.2.1 11).toInt ∧ (1 ≤ (F 13).toInt → 1 ≤ (r.2.1 13).toInt) ∧ (r.2.1 49).toInt = (F 49).toInt + 1 ∧ CSm r.2.1 s ∧ (F 56).toInt ≤ (r.2.1 56).toInt ∧ (1 ≤ (r.2.1 13).toInt ∨ (ai r.2.2.1 39 (F 49).toInt = (F 56).toInt ∧ ai r.2.2.1 40 (F 49).toInt = (r.2.1 56).toInt ∧ WFm r.2.2.1 (F 56).toInt (r.2.1 56).toInt))
section LW
variable {F F' F0 : Nat → Int32} {A A' A0 : Nat → Nat → Int32} {J : Nat → Nat → Int64} {l s c : Int} {n : Nat}
theorem LSm.ob (h : LSm l A0 A) (o : ∀ q, q ∉ ([42, 43, 44] : List Nat) → A' q = A q) (ob : OBm A A' c s) (hc : 420 * s ≤ c) (hl : 0 ≤ l) (hs : 0 ≤ s ∧ s = 1 - l) : LSm l A0 A' := fun q p a b => by
  by_cases e : q ∈ ([42, 43, 44] : List Nat)
  · have e' : q = 42 ∨ q = 43 ∨ q = 44 := by simpa using e
    rcases e' with rfl | rfl | rfl
    · change 420 * l ≤ p at a
      change p < 420 * l + 420 at b
      rw [(ob p (by omega) (by omega)).1]
      exact h 42 p a b
    · change 420 * l ≤ p at a
      change p < 420 * l + 420 at b
      rw [(ob p (by omega) (by omega)).2]
      exact h 43 p a b
    · change 0 * l ≤ p at a
      change p < 0 * l + 0 at b
      omega
  · rw [ai_fr (o q e)]
    exact h q p a b
theorem LWm.bl {b : Int} (w : LWm A b) (h40 : ai A 40 b ≤ c) (hr : ∀ q, q = 36 ∨ q = 37 ∨ q = 38 ∨ q = 39 ∨ q = 40 → ai A' q b = ai A q b) (h : ∀ i, 0 ≤ i → i < c → ai A' 42 i = ai A 42 i ∧ ai A' 43 i = ai A 43 i) : LWm A' b := by
  unfold LWm
  rw [hr 36 (by omega), hr 37 (by omega), hr 38 (by omega), hr 39 (by omega), hr 40 (by omega)]
  have w2 := w.2.2.1
  refine ⟨fun e => ?_, w.2.bl (fun i p q => h i p (by omega))⟩
  obtain ⟨w3, w4⟩ := w.1 e
  have w5 := w4.2.1
  exact ⟨w3.bl (fun i p q => h i p (by omega)), w4.bl (fun i p q => h i p (by omega))⟩
theorem LUm.bl {b : Int} (w : LUm A s b) (h40 : ai A 40 b ≤ c) (hr : ∀ q, q = 36 ∨ q = 37 ∨ q = 38 ∨ q = 39 ∨ q = 40 → ai A' q b = ai A q b) (h : ∀ i, 0 ≤ i → i < c → ai A' 42 i = ai A 42 i ∧ ai A' 43 i = ai A 43 i) : LUm A' s b := by
  refine ⟨w.1.bl h40 hr h, ?_⟩
  rw [hr 36 (by omega), hr 37 (by omega), hr 39 (by omega)]
  exact w.2
theorem LBm.nw {r : Unit × (Nat → Int32) × (Nat → Nat → Int32) × (Nat → Nat → Int64)} (h : LBm F A s) (hs : 0 ≤ s) (T : TMm F A s r) (z : ¬ 1 ≤ (r.2.1 13).toInt) (h56 : 420 * s ≤ (F 56).toInt) (w : ai A 36 (F 49).toInt = 1 → 420 * s ≤ ai A 37 (F 49).toInt ∧ WFm A (ai A 37 (F 49).toInt) (ai A 38 (F 49).toInt) ∧ WFm A (ai A 38 (F 49).toInt) (F 56).toInt) : LBm r.2.1 r.2.2.1 s := by
  obtain ⟨t1, t2, t3, t4, t5, t6, t7, t8, t9, t10, t11, t12⟩ := T
  obtain ⟨u1, u2, u3⟩ := t12.resolve_left z
  have k36 := ai_fr (t4 36 (by decide))
  have k37 := ai_fr (t4 37 (by decide))
  have k38 := ai_fr (t4 38 (by decide))
  intro b h0 h1
  by_cases e : b = (F 49).toInt
  · subst e
    refine ⟨⟨⟨fun q => ?_, by rw [u1, u2]; exact u3⟩, by rw [u1]; exact h56, fun q => by rw [k36] at q; rw [k37]; exact (w q).1⟩, by omega⟩
    rw [k36] at q
    obtain ⟨_, w1, w2⟩ := w q
    have w3 := w2.2.1
    rw [k37, k38, u1]
    exact ⟨w1.bl (fun i p q => t5 i p (.inl (by omega))), w2.bl (fun i p q => t5 i p (.inl q))⟩
  · obtain ⟨g1, g2⟩ := h b h0 (by omega)
    refine ⟨g1.bl g2 (fun q hq => ?_) (fun i p q => t5 i p (.inl q)), by rw [(t6 b (by omega) e).2]; omega⟩
    rcases hq with rfl | rfl | rfl | rfl | rfl
    · rw [k36]
    · rw [k37]
    · rw [k38]
    · exact (t6 b (by omega) e).1
    · exact (t6 b (by omega) e).2
theorem s_d_term (hs : 0 ≤ s ∧ s ≤ 1) (hF : IFm F) (hA : IAm A) (C : CSm F s) (h49 : (F 49).toInt ≤ 99) (hn : 610 ≤ n) : ok (d_term n F A J) (TMm F A s) := by
  have r49 : 0 ≤ (F 49).toInt ∧ (F 49).toInt ≤ 100 := hF 49
  have r56 : 0 ≤ (F 56).toInt ∧ (F 56).toInt ≤ 840 := hF 56
  have r13 : 0 ≤ (F 13).toInt ∧ (F 13).toInt ≤ 5 := hF 13
  have l1 : (1 : Int32).toInt = 1 := by decide
  have l0 : (0 : Int32).toInt = 0 := by decide
  obtain ⟨C1, C2, C3⟩ := C
  unfold d_term
  refine ok_st (j := 39) hA (by omega) (by omega) (show 0 ≤ (F 56).toInt ∧ (F 56).toInt ≤ 840 from r56) ?_
  intro A1 a1 o1 s1 n1
  refine ok_cond (fun c1 => ?_) (fun c1 => ?_)
  · rw [i_ne] at c1
    unfold d_term_24
    refine ok_st (j := 40) a1 (by omega) (by omega) (show 0 ≤ (F 56).toInt ∧ (F 56).toInt ≤ 840 from r56) ?_
    intro A2 a2 o2 s2 n2
    have e := i_add (x := F 49) (y := 1) (by omega) (by omega)
    refine ok_pf hF (show 0 ≤ (F 49 + 1).toInt ∧ (F 49 + 1).toInt ≤ 100 by omega) ?_
    intro F3 hF3 k3 o3
    have g11 : F3 11 = F 11 := o3 11 (by decide)
    have g13 : F3 13 = F 13 := o3 13 (by decide)
    have g56 : F3 56 = F 56 := o3 56 (by decide)
    have z13 : 1 ≤ (F3 13).toInt := by rw [g13]; omega
    refine ok_some ⟨hF3, a2, fun q hq => o3 q (fun e => hq (by rw [e]; decide)), fun q hq => (o2 q (fun e => hq (by rw [e]; decide))).trans (o1 q (fun e => hq (by rw [e]; decide))), OBm.fr ((o2 42 (by decide)).trans (o1 42 (by decide))) ((o2 43 (by decide)).trans (o1 43 (by decide))), fun i p q => ⟨?_, ?_⟩, ?_, fun _ => z13, ?_, ⟨?_, ?_, .inl z13⟩, ?_, .inl z13⟩
    · show ai A2 39 i = _
      rw [ai_fr (o2 39 (by decide)), n1 i p q]
    · show ai A2 40 i = _
      rw [n2 i p q, ai_fr (o1 40 (by decide))]
    · show (F 11).toInt ≤ (F3 11).toInt
      rw [g11]; omega
    · show (F3 49).toInt = _
      rw [k3]; omega
    · show _ ≤ (F3 56).toInt
      rw [g56]; exact C1
    · show (F3 56).toInt ≤ 420 * s + (F3 11).toInt + 1
      rw [g56, g11]; exact C2
    · show _ ≤ (F3 56).toInt
      rw [g56]; omega
  · rw [i_nne] at c1
    refine ok_call (s_d_expression hs hF a1 ⟨C1, C2⟩ C3 hn) ?_
    rintro ⟨u, F2, A2, J2⟩ ⟨h1, h2, B, e1, e2, e3⟩
    dsimp only at h1 h2 B e1 e2 e3 ⊢
    obtain ⟨b1, b2, b3, b4, b5⟩ := B
    have g49 : F2 49 = F 49 := b1 49 (by decide)
    have q56 : 0 ≤ (F2 56).toInt ∧ (F2 56).toInt ≤ 840 := h1 56
    refine ok_st (j := 40) h2 (by rw [g49]; omega) (by rw [g49]; omega) (show 0 ≤ (F2 56).toInt ∧ (F2 56).toInt ≤ 840 from q56) ?_
    intro A3 a3 o3 s3 n3
    rw [g49] at s3 n3
    have e := i_add (x := F2 49) (y := 1) (by rw [g49]; omega) (by rw [g49]; omega)
    rw [g49] at e
    refine ok_pf h1 (show 0 ≤ (F2 49 + 1).toInt ∧ (F2 49 + 1).toInt ≤ 100 by rw [g49]; omega) ?_
    intro F3 hF3 k3 p3
    have g11 : F3 11 = F2 11 := p3 11 (by decide)
    have g13 : F3 13 = F2 13 := p3 13 (by decide)
    have g12 : F3 12 = F2 12 := p3 12 (by decide)
    have g56 : F3 56 = F2 56 := p3 56 (by decide)
    have k39 : A3 39 = A1 39 := (o3 39 (by decide)).trans (b2 39 (by decide))
    have ob : OBm A A3 (F 56).toInt s := OBm.tr (OBm.fr (o1 42 (by decide)) (o1 43 (by decide))) (b3.tr (OBm.fr (o3 42 (by decide)) (o3 43 (by decide))))
    refine ok_some ⟨hF3, a3, fun q hq => (p3 q (fun e => hq (by rw [e]; decide))).trans (b1 q (fun e => hq ((by decide : ∀ x, x ∈ ([11, 12, 13, 14, 56, 60] : List Nat) → x ∈ ([11, 12, 13, 14, 49, 56, 60] : List Nat)) q e))), fun q hq => (o3 q (fun e => hq (by rw [e]; decide))).trans ((b2 q (fun e => hq ((by decide : ∀ x, x ∈ ([42, 43, 44] : List Nat) → x ∈ ([39, 40, 42, 43, 44] : List Nat)) q e))).trans (o1 q (fun e => hq (by rw [e]; decide)))), ob, fun i p q => ⟨?_, ?_⟩, ?_, ?_, ?_, ⟨?_, ?_, ?_⟩, ?_, ?_⟩
    · show ai A3 39 i = _
      rw [ai_fr k39, n1 i p q]
    · show ai A3 40 i = _
      rw [n3 i p q, ai_fr (b2 40 (by decide)), ai_fr (o1 40 (by decide))]
    · show (F 11).toInt ≤ (F3 11).toInt
      rw [g11]; exact b4
    · show 1 ≤ (F 13).toInt → 1 ≤ (F3 13).toInt
      rw [g13]; exact b5
    · show (F3 49).toInt = _
      rw [k3, g49]; omega
    · show _ ≤ (F3 56).toInt
      rw [g56]; omega
    · show (F3 56).toInt ≤ 420 * s + (F3 11).toInt + 1
      rw [g56, g11]; exact e2
    · show 1 ≤ (F3 13).toInt ∨ ((F3 12).toInt = 0 ∧ (F3 56).toInt ≤ 420 * s + (F3 11).toInt)
      rw [g13, g12, g56, g11]; omega
    · show _ ≤ (F3 56).toInt
      rw [g56]; exact e1
    · show 1 ≤ (F3 13).toInt ∨ (ai A3 39 (F 49).toInt = (F 56).toInt ∧ ai A3 40 (F 49).toInt = (F3 56).toInt ∧ WFm A3 (F 56).toInt (F3 56).toInt)
      rw [g13, g56]
      rcases e3 with h | ⟨h, h', h''⟩
      · exact .inl h
      · exact .inr ⟨by rw [ai_fr k39]; exact s1, s3, h''.fr (o3 42 (by decide)) (o3 43 (by decide))⟩
end LW
/-- while a law is told: at a branch's head -/
def LHm (l s : Int) (F0 F : Nat → Int32) (A0 A : Nat → Nat → Int32) (k : Int) : Prop := IFm F ∧ IAm A ∧ (∀ q, q ∉ ([11, 12, 13, 14, 15, 16, 49, 56, 60] : List Nat) → F q = F0 q) ∧ (∀ q, q ∉ ([36, 37, 38, 39, 40, 42, 43, 44] : List Nat) → A q = A0 q) ∧ LSm l A0 A ∧ (F0 11).toInt ≤ (F 11).toInt ∧ (1 ≤ (F0 13).toInt → 1 ≤ (F 13).toInt) ∧ (1 ≤ (F0 15).toInt → 1 ≤ (F 15).toInt) ∧ CSm F s ∧ (F 49).toInt = (F0 49).toInt + k ∧ (1 ≤ (F 13).toInt ∨ LBm F A s)
/-- what a law leaves -/
def LPm (l s : Int) (F0 : Nat → Int32) (A0 : Nat → Nat → Int32) (r : Unit × (Nat → Int32) × (Nat → Nat → Int32) × (Nat → Nat → Int64)) : Prop := IFm r.2.1 ∧ IAm r.2.2.1 ∧ (∀ q, q ∉ ([11, 12, 13, 14, 15, 16, 49, 56, 60] : List Nat) → r.2.1 q = F0 q) ∧ (∀ q, q ∉ ([33, 34, 35, 36, 37, 38, 39, 40, 42, 43, 44] : List Nat) → r.2.2.1 q = A0 q) ∧ LSm l A0 r.2.2.1 ∧ (F0 11).toInt ≤ (r.2.1 11).toInt ∧ (1 ≤ (F0 13).toInt → 1 ≤ (r.2.1 13).toInt) ∧ (1 ≤ (F0 15).toInt → 1 ≤ (r.2.1 15).toInt) ∧ CSm r.2.1 s ∧ (1 ≤ (r.2.1 13).toInt ∨ (LBm r.2.1 r.2.2.1 s ∧ (F0 49).toInt ≤ (r.2.1 49).toInt ∧ (r.2.1 49).toInt ≤ (F0 49).toInt + 5 ∧ ai r.2.2.1 33 s = ai A0 33 s + 1 ∧ (LLm F0 A0 s → LLm r.2.1 r.2.2.1 s)))
section LH
variable {F F' F0 : Nat → Int32} {A A' A0 : Nat → Nat → Int32} {J : Nat → Nat → Int64} {l s k : Int} {n : Nat}
theorem LHm.q (h : LHm l s F0 F A0 A k) (q : QCm F F' A A') : LHm l s F0 F' A0 A' k := by
  have e := q.eq
  subst e
  obtain ⟨h1, h2, h3, h4, h5, h6, h7, h8, ⟨c1, c2, c3⟩, h10, h11⟩ := h
  obtain ⟨q1, q2, q3, q4, q5, q6, q7⟩ := q
  have g12 : F' 12 = F 12 := q3 12 (by decide)
  have g49 : F' 49 = F 49 := q3 49 (by decide)
  have g56 : F' 56 = F 56 := q3 56 (by decide)
  refine ⟨q1, h2, fun p hp => (q3 p (fun e => hp ((by decide : ∀ x, x ∈ ([11, 13, 14, 15, 16] : List Nat) → x ∈ ([11, 12, 13, 14, 15, 16, 49, 56, 60] : List Nat)) p e))).trans (h3 p hp), h4, h5, by omega, fun p => q6 (h7 p), fun p => q7 (h8 p), ⟨by rw [g56]; exact c1, by rw [g56]; omega, ?_⟩, by rw [g49]; exact h10, ?_⟩
  · rw [g12, g56]
    rcases c3 with h | h
    · exact .inl (q6 h)
    · exact .inr ⟨h.1, by omega⟩
  · rcases h11 with h | h
    · exact .inl (q6 h)
    · refine .inr (fun b p r => ?_)
      rw [g49] at r
      rw [g56]
      exact h b p r
/-- a branch's term -/
theorem lh_term (hs : 0 ≤ s ∧ s ≤ 1 ∧ s = 1 - l) (hn : 610 ≤ n) (h : LHm l s F0 F A0 A k) (hb : 50 * s ≤ (F 49).toInt ∧ (F 49).toInt ≤ 50 * s + 48)
    (w : 1 ≤ (F 13).toInt ∨ (ai A 36 (F 49).toInt = 1 → 420 * s ≤ ai A 37 (F 49).toInt ∧ WFm A (ai A 37 (F 49).toInt) (ai A 38 (F 49).toInt) ∧ WFm A (ai A 38 (F 49).toInt) (F 56).toInt)) : ok (d_term n F A J) (fun r => LHm l s F0 r.2.1 A0 r.2.2.1 (k + 1)) := by
  obtain ⟨a1, a2, a3, a4, a5, a6, a7, a8, a9, a10, a11⟩ := h
  refine ok_mono (s_d_term ⟨hs.1, hs.2.1⟩ a1 a2 a9 (by omega) hn) ?_
  rintro ⟨u2, F2, A2, J2⟩ T
  dsimp only at T ⊢
  have T' := T
  obtain ⟨t1, t2, t3, t4, t5, t6, t7, t8, t9, t10, t11, t12⟩ := T'
  dsimp only at t1 t2 t3 t4 t5 t6 t7 t8 t9 t10 t11 t12
  have L2 : LSm l A0 A2 := by
    intro j i p q
    by_cases e39 : j = 39
    · subst e39
      change 50 * l ≤ i at p
      change i < 50 * l + 50 at q
      rw [(t6 i (by omega) (by omega)).1]
      exact a5 39 i p q
    · by_cases e40 : j = 40
      · subst e40
        change 50 * l ≤ i at p
        change i < 50 * l + 50 at q
        rw [(t6 i (by omega) (by omega)).2]
        exact a5 40 i p q
      · by_cases e42 : j = 42
        · subst e42
          change 420 * l ≤ i at p
          change i < 420 * l + 420 at q
          have := a9.1
          rw [(t5 i (by omega) (by omega)).1]
          exact a5 42 i p q
        · by_cases e43 : j = 43
          · subst e43
            change 420 * l ≤ i at p
            change i < 420 * l + 420 at q
            have := a9.1
            rw [(t5 i (by omega) (by omega)).2]
            exact a5 43 i p q
          · by_cases e44 : j = 44
            · subst e44
              change 0 * l ≤ i at p
              change i < 0 * l + 0 at q
              omega
            · rw [ai_fr (t4 j (by simp [e39, e40, e42, e43, e44]))]
              exact a5 j i p q
  refine ⟨t1, t2, fun q hq => (t3 q (fun e => hq ((by decide : ∀ x, x ∈ ([11, 12, 13, 14, 49, 56, 60] : List Nat) → x ∈ ([11, 12, 13, 14, 15, 16, 49, 56, 60] : List Nat)) q e))).trans (a3 q hq), fun q hq => (t4 q (fun e => hq ((by decide : ∀ x, x ∈ ([39, 40, 42, 43, 44] : List Nat) → x ∈ ([36, 37, 38, 39, 40, 42, 43, 44] : List Nat)) q e))).trans (a4 q hq), L2, by omega, fun p => t8 (a7 p), fun p => by rw [t3 15 (by decide)]; exact a8 p, t10, by omega, ?_⟩
  by_cases z : 1 ≤ (F2 13).toInt
  · exact .inl z
  · have z1 : ¬ 1 ≤ (F 13).toInt := fun h => z (t8 h)
    exact .inr ((a11.resolve_left z1).nw hs.1 T z a9.1 (w.resolve_left z1))
/-- a branch's term behind its test -/
theorem s_d_tellLaw_116 {x1 x2 x3 : Int32} {Q : Unit × (Nat → Int32) × (Nat → Nat → Int32) × (Nat → Nat → Int64) → Prop} {K18 : (Nat → Int32) → (Nat → Nat → Int32) → (Nat → Nat → Int64) → Int32 → Int32 → Int32 → Option (Unit × (Nat → Int32) × (Nat → Nat → Int32) × (Nat → Nat → Int64))} (hs : 0 ≤ s ∧ s ≤ 1 ∧ s = 1 - l) (hn : 610 ≤ n) (h : LHm l s F0 F A0 A k) (hb : 50 * s ≤ (F 49).toInt ∧ (F 49).toInt ≤ 50 * s + 48)
    (w : 1 ≤ (F 13).toInt ∨ (ai A 36 (F 49).toInt = 1 → 420 * s ≤ ai A 37 (F 49).toInt ∧ WFm A (ai A 37 (F 49).toInt) (ai A 38 (F 49).toInt) ∧ WFm A (ai A 38 (F 49).toInt) (F 56).toInt))
    (hK : ∀ F A J, LHm l s F0 F A0 A (k + 1) → ok (K18 F A J x1 x2 x3) Q) : ok (d_tellLaw_116 K18 n F A J x1 x2 x3) Q := by
  unfold d_tellLaw_116
  refine ok_call (q_must h.1 h.2.1) ?_
  rintro ⟨u1, F1, A1, J1⟩ q1
  dsimp only at q1 ⊢
  have h1 := h.q q1
  have e := q1.eq
  subst e
  have g49 : F1 49 = F 49 := q1.2.2.1 49 (by decide)
  have g56 : F1 56 = F 56 := q1.2.2.1 56 (by decide)
  rw [← g49] at hb
  rw [← g49, ← g56] at w
  refine ok_call (lh_term hs hn h1 hb (w.imp q1.2.2.2.2.2.1 id)) ?_
  rintro ⟨u2, F2, A2, J2⟩ H2
  dsimp only at H2 ⊢
  refine ok_call (q_must H2.1 H2.2.1) ?_
  rintro ⟨u3, F3, A3, J3⟩ q3
  dsimp only at q3 ⊢
  exact hK F3 A3 J3 (H2.q q3)
/-- the last branch -/
theorem s_d_tellLaw_135 {x1 x2 : Int32} (hs : 0 ≤ s ∧ s ≤ 1 ∧ s = 1 - l) (hn : 610 ≤ n) (h19 : (F0 19).toInt = s) (h : LHm l s F0 F A0 A k) (hb : 50 * s ≤ (F0 49).toInt ∧ (F0 49).toInt ≤ 50 * s + 40) (hk : 0 ≤ k ∧ k ≤ 4) (hx1 : -1 ≤ x1.toInt ∧ x1.toInt ≤ 5) (hx2 : x2.toInt = (F0 49).toInt) (h33 : ai A0 33 s < 8) : ok (d_tellLaw_135 n F A J x1 x2) (LPm l s F0 A0) := by
  have l0 : (0 : Int32).toInt = 0 := by decide
  have l1 : (1 : Int32).toInt = 1 := by decide
  have nb : (vp_nar .boolean 0).toInt = 0 := by decide
  obtain ⟨a1, a2, a3, a4, a5, a6, a7, a8, a9, a10, a11⟩ := h
  unfold d_tellLaw_135
  refine ok_st (j := 36) a2 (by omega) (by omega) (show 0 ≤ (vp_nar .boolean 0).toInt ∧ (vp_nar .boolean 0).toInt ≤ 1 by decide) ?_
  intro A1 b1 o1 s1 n1
  have L1 : LSm l A0 A1 := a5.st (by omega) 50 rfl o1 n1 ⟨by omega, by omega⟩ (by omega)
  have H1 : LHm l s F0 F A0 A1 k := by
    refine ⟨a1, b1, a3, fun q hq => (o1 q (fun e => hq (by rw [e]; decide))).trans (a4 q hq), L1, a6, a7, a8, a9, a10, a11.imp id (fun h b p r => ?_)⟩
    obtain ⟨g1, g2⟩ := h b p r
    rw [ai_fr (o1 40 (by decide))]
    refine ⟨g1.bl g2 (fun q hq => ?_) (fun i _ _ => by rw [ai_fr (o1 42 (by decide)), ai_fr (o1 43 (by decide))]; exact ⟨rfl, rfl⟩), g2⟩
    by_cases e : q = 36
    · subst e; exact n1 b (by omega) (by omega)
    · rw [ai_fr (o1 q e)]
  refine ok_call (lh_term hs hn H1 (by omega) (.inr (fun e => absurd (s1.symm.trans e) (by rw [nb]; decide)))) ?_
  rintro ⟨u2, F2, A2, J2⟩ H2
  dsimp only at H2 ⊢
  refine ok_call (q_must H2.1 H2.2.1) ?_
  rintro ⟨u3, F3, A3, J3⟩ q3
  dsimp only at q3 ⊢
  obtain ⟨c1, c2, c3, c4, c5, c6, c7, c8, c9, c10, c11⟩ := H2.q q3
  have g19 : (F3 19).toInt = s := by rw [c3 19 (by decide)]; exact h19
  have r49 : 0 ≤ (F3 49).toInt ∧ (F3 49).toInt ≤ 100 := c1 49
  have r13 : 0 ≤ (F3 13).toInt ∧ (F3 13).toInt ≤ 5 := c1 13
  have wid : ∀ q, q ∉ ([33, 34, 35, 36, 37, 38, 39, 40, 42, 43, 44] : List Nat) → A3 q = A0 q := fun q hq => c4 q (fun e => hq ((by decide : ∀ x, x ∈ ([36, 37, 38, 39, 40, 42, 43, 44] : List Nat) → x ∈ ([33, 34, 35, 36, 37, 38, 39, 40, 42, 43, 44] : List Nat)) q e))
  have k33 : A3 33 = A0 33 := c4 33 (by decide)
  have k34 : A3 34 = A0 34 := c4 34 (by decide)
  have k35 : A3 35 = A0 35 := c4 35 (by decide)
  refine ok_cond (fun d1 => ?_) (fun d1 => ?_)
  · rw [i_le] at d1
    have lb := c11.resolve_left (by omega)
    refine ok_ld (j := 33) c2 (by omega) (by omega) ?_
    intro v ve vr
    change 0 ≤ v.toInt ∧ v.toInt ≤ 8 at vr
    rw [g19, ai_fr k33] at ve
    have e1 := i_add (x := v) (y := 1) (by omega) (by omega)
    refine ok_st (j := 33) c2 (by omega) (by omega) (show 0 ≤ (v + 1).toInt ∧ (v + 1).toInt ≤ 8 by omega) ?_
    intro A4 d2 o4 s4 n4
    rw [g19] at s4 n4
    have L4 : LSm l A0 A4 := c5.st (by omega) 1 rfl o4 n4 ⟨by omega, by omega⟩ (by omega)
    have fin : ∀ {A5}, IAm A5 → (∀ q, q ∉ ([34, 35] : List Nat) → A5 q = A4 q) → LSm l A0 A5 → (LLm F0 A0 s → LLm F3 A5 s) → LPm l s F0 A0 ((), F3, A5, J3) := by
      intro A5 f1 f2 f3 f4
      refine ⟨c1, f1, c3, fun q hq => (f2 q (fun e => hq ((by decide : ∀ x, x ∈ ([34, 35] : List Nat) → x ∈ ([33, 34, 35, 36, 37, 38, 39, 40, 42, 43, 44] : List Nat)) q e))).trans ((o4 q (fun e => hq (by rw [e]; decide))).trans (wid q hq)), f3, c6, c7, c8, c9, .inr ⟨fun b p r => ?_, ?_, ?_, ?_, f4⟩⟩
      · obtain ⟨g1, g2⟩ := lb b p r
        have kk : ∀ q, 36 ≤ q → A5 q = A3 q := fun q hq => (f2 q (by simp; omega)).trans (o4 q (by omega))
        refine ⟨g1.bl g2 (fun q hq => by rw [ai_fr (kk q (by omega))]) (fun i _ _ => by rw [show ((), F3, A5, J3).2.2.1 = A5 from rfl, ai_fr (kk 42 (by decide)), ai_fr (kk 43 (by decide))]; exact ⟨rfl, rfl⟩), ?_⟩
        show ai A5 40 b ≤ (F3 56).toInt
        rw [ai_fr (kk 40 (by decide))]
        exact g2
      · show (F0 49).toInt ≤ (F3 49).toInt
        omega
      · show (F3 49).toInt ≤ (F0 49).toInt + 5
        omega
      · show ai A5 33 s = _
        rw [ai_fr (f2 33 (by decide)), s4]; omega
    refine ok_cond (fun d3 => ?_) (fun d3 => ?_)
    · rw [i_ge] at d3
      have e2 := i_mulL (c := 6) (k := 6) (x := F3 19) (by decide) (by omega) (by omega)
      have e3 := i_add (x := 6 * F3 19) (y := x1) (by omega) (by omega)
      refine ok_st (j := 34) d2 (by omega) (by omega) (show 0 ≤ x2.toInt ∧ x2.toInt ≤ 100 by omega) ?_
      intro A5 d5 o5 s5 n5
      refine ok_st (j := 35) d5 (by omega) (by omega) (show 0 ≤ (F3 49).toInt ∧ (F3 49).toInt ≤ 100 from r49) ?_
      intro A6 d6 o6 s6 n6
      have L5 : LSm l A0 A5 := L4.st (by omega) 6 rfl o5 n5 ⟨by omega, by omega⟩ (by omega)
      have L6 : LSm l A0 A6 := L5.st (by omega) 6 rfl o6 n6 ⟨by omega, by omega⟩ (by omega)
      refine ok_some (fin d6 (fun q hq => (o6 q (fun e => hq (by rw [e]; decide))).trans (o5 q (fun e => hq (by rw [e]; decide)))) L6 (fun ll m m0 m1 b p r => ?_))
      rw [show (6 * F3 19 + x1).toInt = 6 * s + x1.toInt by omega] at s5 n5 s6 n6
      rw [ai_fr (o6 34 (by decide))] at p
      by_cases e : m = x1.toInt
      · subst e
        rw [s5] at p
        rw [s6] at r
        exact ⟨by omega, by omega⟩
      · rw [n5 _ (by omega) (by omega), ai_fr (o4 34 (by decide)), ai_fr k34] at p
        rw [n6 _ (by omega) (by omega), ai_fr (o5 35 (by decide)), ai_fr (o4 35 (by decide)), ai_fr k35] at r
        have := ll m m0 m1 b p r
        exact ⟨this.1, by omega⟩
    · refine ok_some (fin d2 (fun _ _ => rfl) L4 (fun ll m m0 m1 b p r => ?_))
      rw [ai_fr (o4 34 (by decide)), ai_fr k34] at p
      rw [ai_fr (o4 35 (by decide)), ai_fr k35] at r
      have := ll m m0 m1 b p r
      exact ⟨this.1, by omega⟩
  · rw [i_nle] at d1
    exact ok_some ⟨c1, c2, c3, wid, c5, c6, c7, c8, c9, .inl (show 1 ≤ (F3 13).toInt by omega)⟩
/-- a branch with a test -/
theorem s_d_tellLaw_44 {x1 x2 x3 : Int32} {Q : Unit × (Nat → Int32) × (Nat → Nat → Int32) × (Nat → Nat → Int64) → Prop} {K18 : (Nat → Int32) → (Nat → Nat → Int32) → (Nat → Nat → Int64) → Int32 → Int32 → Int32 → Option (Unit × (Nat → Int32) × (Nat → Nat → Int32) × (Nat → Nat → Int64))} (hs : 0 ≤ s ∧ s ≤ 1 ∧ s = 1 - l) (hn : 610 ≤ n) (h : LHm l s F0 F A0 A k) (f13 : (F 13).toInt = 0) (hb : 50 * s ≤ (F 49).toInt ∧ (F 49).toInt ≤ 50 * s + 48)
    (hK : ∀ F A J, LHm l s F0 F A0 A (k + 1) → ok (K18 F A J x1 x2 (x3 + 1)) Q) : ok (d_tellLaw_44 K18 n F A J x1 x2 x3) Q := by
  have l0 : (0 : Int32).toInt = 0 := by decide
  have nb : (vp_nar .boolean 1).toInt = 1 := by decide
  unfold d_tellLaw_44
  refine ok_cond (fun c1 => ?_) (fun c1 => absurd c1 (by rw [i_nle]; omega))
  refine ok_call (q_goesOn h.1 h.2.1) ?_
  rintro ⟨u1, F1, A1, J1⟩ q1
  dsimp only at q1 ⊢
  have h1 := h.q q1
  have e := q1.eq
  subst e
  have g49 : F1 49 = F 49 := q1.2.2.1 49 (by decide)
  rw [← g49] at hb
  obtain ⟨a1, a2, a3, a4, a5, a6, a7, a8, a9, a10, a11⟩ := h1
  have r56 : 0 ≤ (F1 56).toInt ∧ (F1 56).toInt ≤ 840 := a1 56
  refine ok_st (j := 36) a2 (by omega) (by omega) (show 0 ≤ (vp_nar .boolean 1).toInt ∧ (vp_nar .boolean 1).toInt ≤ 1 by decide) ?_
  intro A2 b2 o2 s2 n2
  refine ok_st (j := 37) b2 (by omega) (by omega) (show 0 ≤ (F1 56).toInt ∧ (F1 56).toInt ≤ 840 from r56) ?_
  intro A3 b3 o3 s3 n3
  have L2 : LSm l A0 A2 := a5.st (by omega) 50 rfl o2 n2 ⟨by omega, by omega⟩ (by omega)
  have L3 : LSm l A0 A3 := L2.st (by omega) 50 rfl o3 n3 ⟨by omega, by omega⟩ (by omega)
  refine ok_call (s_d_expression ⟨hs.1, hs.2.1⟩ a1 b3 ⟨a9.1, a9.2.1⟩ a9.2.2 hn) ?_
  rintro ⟨u4, F4, A4, J4⟩ ⟨d1, d2, ⟨e1, e2, e3, e4, e5⟩, d4, d5, d6⟩
  dsimp only at d1 d2 e1 e2 e3 e4 e5 d4 d5 d6 ⊢
  have L4 : LSm l A0 A4 := L3.ob e2 e3 a9.1 (by omega) ⟨hs.1, hs.2.2⟩
  refine ok_call (q_must d1 d2) ?_
  rintro ⟨u5, F5, A5, J5⟩ q5
  dsimp only at q5 ⊢
  have e := q5.eq
  subst e
  obtain ⟨m1, m2, m3, m4, m5, m6, m7⟩ := q5
  have p49 : F5 49 = F1 49 := (m3 49 (by decide)).trans (e1 49 (by decide))
  have p56 : F5 56 = F4 56 := m3 56 (by decide)
  have p12 : F5 12 = F4 12 := m3 12 (by decide)
  have t56 : (F5 56).toInt = (F4 56).toInt := by rw [p56]
  have z56 : 0 ≤ (F5 56).toInt ∧ (F5 56).toInt ≤ 840 := m1 56
  refine ok_st (j := 38) d2 (by rw [p49]; omega) (by rw [p49]; omega) (show 0 ≤ (F5 56).toInt ∧ (F5 56).toInt ≤ 840 from z56) ?_
  intro A6 b6 o6 s6 n6
  rw [p49] at s6 n6
  have L6 : LSm l A0 A6 := L4.st (by omega) 50 rfl o6 n6 ⟨by omega, by omega⟩ (by omega)
  have C5 : CSm F5 s := by
    refine ⟨by rw [p56]; have := a9.1; omega, by rw [p56]; omega, ?_⟩
    rw [p12, p56]
    rcases d6 with h | h
    · exact .inl (m6 h)
    · exact .inr ⟨h.2.1, by omega⟩
  have frF : ∀ q, q ∉ ([11, 12, 13, 14, 15, 16, 49, 56, 60] : List Nat) → F5 q = F0 q := fun q hq => (m3 q (fun e => hq ((by decide : ∀ x, x ∈ ([11, 13, 14, 15, 16] : List Nat) → x ∈ ([11, 12, 13, 14, 15, 16, 49, 56, 60] : List Nat)) q e))).trans ((e1 q (fun e => hq ((by decide : ∀ x, x ∈ ([11, 12, 13, 14, 56, 60] : List Nat) → x ∈ ([11, 12, 13, 14, 15, 16, 49, 56, 60] : List Nat)) q e))).trans (a3 q hq))
  have frA : ∀ q, q ∉ ([36, 37, 38, 39, 40, 42, 43, 44] : List Nat) → A6 q = A0 q := fun q hq => (o6 q (fun e => hq (by rw [e]; decide))).trans ((e2 q (fun e => hq ((by decide : ∀ x, x ∈ ([42, 43, 44] : List Nat) → x ∈ ([36, 37, 38, 39, 40, 42, 43, 44] : List Nat)) q e))).trans ((o3 q (fun e => hq (by rw [e]; decide))).trans ((o2 q (fun e => hq (by rw [e]; decide))).trans (a4 q hq))))
  have x11 : (F0 11).toInt ≤ (F5 11).toInt := by omega
  have x13 : 1 ≤ (F0 13).toInt → 1 ≤ (F5 13).toInt := fun h => m6 (e5 (a7 h))
  have x15 : 1 ≤ (F0 15).toInt → 1 ≤ (F5 15).toInt := fun h => m7 (by rw [e1 15 (by decide)]; exact a8 h)
  have r13 : 0 ≤ (F5 13).toInt ∧ (F5 13).toInt ≤ 5 := m1 13
  refine ok_cond (fun c2 => ?_) (fun c2 => ?_)
  · rw [i_ne] at c2
    have z13 : 1 ≤ (F5 13).toInt := by omega
    exact s_d_tellLaw_116 hs hn ⟨m1, b6, frF, frA, L6, x11, x13, x15, C5, by rw [p49]; exact a10, .inl z13⟩ (by rw [p49]; exact hb) (.inl z13) hK
  · rw [i_nne] at c2
    have f4 : ¬ 1 ≤ (F4 13).toInt := fun h => absurd (m6 h) (by omega)
    have f1 : ¬ 1 ≤ (F1 13).toInt := fun h => f4 (e5 h)
    obtain ⟨w1, w2, w3⟩ := d6.resolve_left f4
    refine ok_call (s_d_expression ⟨hs.1, hs.2.1⟩ m1 b6 ⟨C5.1, C5.2.1⟩ C5.2.2 hn) ?_
    rintro ⟨u7, F7, A7, J7⟩ ⟨v1, v2, ⟨y1, y2, y3, y4, y5⟩, v4, v5, v6⟩
    dsimp only at v1 v2 y1 y2 y3 y4 y5 v4 v5 v6 ⊢
    have p7 : F7 49 = F1 49 := (y1 49 (by decide)).trans p49
    have k36 : A7 36 = A2 36 := (y2 36 (by decide)).trans ((o6 36 (by decide)).trans ((e2 36 (by decide)).trans (o3 36 (by decide))))
    have k37 : A7 37 = A3 37 := (y2 37 (by decide)).trans ((o6 37 (by decide)).trans (e2 37 (by decide)))
    have k38 : A7 38 = A6 38 := y2 38 (by decide)
    have z1 : ai A7 37 (F1 49).toInt = (F1 56).toInt := by rw [ai_fr k37]; exact s3
    have z2 : ai A7 38 (F1 49).toInt = (F5 56).toInt := by rw [ai_fr k38]; exact s6
    have ob1 : OBm A1 A7 (F1 56).toInt s := OBm.tr (OBm.fr ((o3 42 (by decide)).trans (o2 42 (by decide))) ((o3 43 (by decide)).trans (o2 43 (by decide)))) (e3.tr (OBm.tr (OBm.fr (o6 42 (by decide)) (o6 43 (by decide))) (fun i p q => y3 i p (by omega))))
    have W : 1 ≤ (F7 13).toInt ∨ (ai A7 36 (F7 49).toInt = 1 → 420 * s ≤ ai A7 37 (F7 49).toInt ∧ WFm A7 (ai A7 37 (F7 49).toInt) (ai A7 38 (F7 49).toInt) ∧ WFm A7 (ai A7 38 (F7 49).toInt) (F7 56).toInt) := by
      rcases v6 with h | ⟨_, _, h⟩
      · exact .inl h
      · refine .inr (fun _ => ?_)
        rw [p7, z1, z2]
        refine ⟨a9.1, ?_, h⟩
        rw [p56]
        exact (w3.fr (o6 42 (by decide)) (o6 43 (by decide))).bl (fun i p q => y3 i p (.inl (by rw [p56]; exact q)))
    have H7 : LHm l s F0 F7 A0 A7 k := by
      refine ⟨v1, v2, fun q hq => (y1 q (fun e => hq ((by decide : ∀ x, x ∈ ([11, 12, 13, 14, 56, 60] : List Nat) → x ∈ ([11, 12, 13, 14, 15, 16, 49, 56, 60] : List Nat)) q e))).trans (frF q hq), fun q hq => (y2 q (fun e => hq ((by decide : ∀ x, x ∈ ([42, 43, 44] : List Nat) → x ∈ ([36, 37, 38, 39, 40, 42, 43, 44] : List Nat)) q e))).trans (frA q hq), L6.ob y2 y3 C5.1 (by omega) ⟨hs.1, hs.2.2⟩, by omega, fun h => y5 (x13 h), fun h => by rw [y1 15 (by decide)]; exact x15 h, ⟨by have := C5.1; omega, v5, ?_⟩, by rw [p7]; exact a10, ?_⟩
      · rcases v6 with h | h
        · exact .inl h
        · exact .inr ⟨h.2.1, h.1⟩
      · refine .inr (fun b p r => ?_)
        rw [p7] at r
        obtain ⟨g1, g2⟩ := (a11.resolve_left f1) b p r
        have k39 : A7 39 = A1 39 := (y2 39 (by decide)).trans ((o6 39 (by decide)).trans ((e2 39 (by decide)).trans ((o3 39 (by decide)).trans (o2 39 (by decide)))))
        have k40 : A7 40 = A1 40 := (y2 40 (by decide)).trans ((o6 40 (by decide)).trans ((e2 40 (by decide)).trans ((o3 40 (by decide)).trans (o2 40 (by decide)))))
        refine ⟨g1.bl g2 (fun q hq => ?_) (fun i p q => ob1 i p (.inl q)), by rw [ai_fr k40]; rw [p56] at v4; omega⟩
        rcases hq with rfl | rfl | rfl | rfl | rfl
        · rw [ai_fr k36]; exact n2 b (by omega) (by omega)
        · rw [ai_fr k37, n3 b (by omega) (by omega), ai_fr (o2 37 (by decide))]
        · rw [ai_fr k38, n6 b (by omega) (by omega), ai_fr (e2 38 (by decide)), ai_fr (o3 38 (by decide)), ai_fr (o2 38 (by decide))]
        · rw [ai_fr k39]
        · rw [ai_fr k40]
    exact s_d_tellLaw_116 hs hn H7 (by rw [p7]; exact hb) W hK
theorem s_d_tellLaw_18 {x1 x2 : Int32} (hs : 0 ≤ s ∧ s ≤ 1 ∧ s = 1 - l) (h19 : (F0 19).toInt = s) (hb : 50 * s ≤ (F0 49).toInt ∧ (F0 49).toInt ≤ 50 * s + 40) (hx1 : -1 ≤ x1.toInt ∧ x1.toInt ≤ 5) (hx2 : x2.toInt = (F0 49).toInt) (h33 : ai A0 33 s < 8) : ∀ {n : Nat} {F : Nat → Int32} {A : Nat → Nat → Int32} {J : Nat → Nat → Int64} {x3 : Int32}, LHm l s F0 F A0 A x3.toInt → 0 ≤ x3.toInt ∧ x3.toInt ≤ 4 → 620 - x3.toInt < (n : Int) → ok (d_tellLaw_18 n F A J x1 x2 x3) (LPm l s F0 A0) := by
  intro n
  induction n with
  | zero =>
    intro F A J x3 h hx hn
    exact absurd hn (by omega)
  | succ n ih =>
    intro F A J x3 h hx hn
    have l0 : (0 : Int32).toInt = 0 := by decide
    have l1 : (1 : Int32).toInt = 1 := by decide
    have l4 : (4 : Int32).toInt = 4 := by decide
    have go : ok (d_tellLaw_135 n F A J x1 x2) (LPm l s F0 A0) := s_d_tellLaw_135 hs (by omega) h19 h hb hx hx1 hx2 h33
    have e := i_add (x := x3) (y := 1) (by omega) (by omega)
    unfold d_tellLaw_18
    refine ok_cond (fun _ => go) (fun c1 => ?_)
    rw [i_nne] at c1
    refine ok_call (s_d_is h.1 h.2.1) ?_
    intro v p
    refine ok_cond (fun _ => go) (fun c2 => ?_)
    refine ok_cond (fun c3 => ?_) (fun c3 => ?_)
    · rw [i_ne] at c3
      have hk := h.2.2.2.2.2.2.2.2.2.1
      exact s_d_tellLaw_44 hs (by omega) h (by omega) (by omega) (fun F A J H => ih (by rw [e, l1]; exact H) (by omega) (by omega))
    · refine ok_call (q_fail h.1 h.2.1 (by decide)) ?_
      rintro ⟨u, F2, A2, J2⟩ ⟨q, q13⟩
      dsimp only at q q13 ⊢
      refine ok_cond (fun c4 => absurd c4 ?_) (fun _ => ?_)
      · rw [i_le]; omega
      · obtain ⟨d1, d2, d3, d4, d5, d6, d7, d8, d9, d10, d11⟩ := h.q q
        exact ok_some ⟨d1, d2, d3, fun q hq => d4 q (fun e => hq ((by decide : ∀ x, x ∈ ([36, 37, 38, 39, 40, 42, 43, 44] : List Nat) → x ∈ ([33, 34, 35, 36, 37, 38, 39, 40, 42, 43, 44] : List Nat)) q e)), d5, d6, d7, d8, d9, .inl q13⟩
theorem s_d_tellLaw (hs : 0 ≤ s ∧ s ≤ 1 ∧ s = 1 - l) (hF : IFm F) (hA : IAm A) (hn : 630 ≤ n) (N : NCm F A) (h19 : (F 19).toInt = s) (C : CSm F s) (hb : 50 * s ≤ (F 49).toInt ∧ (F 49).toInt ≤ 50 * s + 40) (h33 : ai A 33 s < 8) (hB : 1 ≤ (F 13).toInt ∨ LBm F A s) : ok (d_tellLaw n F A J) (LPm l s F A) := by
  have r29 : 0 ≤ ai A 29 (F 19).toInt ∧ ai A 29 (F 19).toInt ≤ 6 := hA 29 _ (by omega)
  have l3 : (3 : Int32).toInt = 3 := by decide
  unfold d_tellLaw
  refine ok_call (q_known hF hA (by omega) N.1 (by decide)) ?_
  rintro ⟨v, F2, A2, J2⟩ ⟨q2, w1, w2, w3⟩
  dsimp only at q2 w1 w2 w3 ⊢
  refine ok_call (q_must q2.1 q2.2.1) ?_
  rintro ⟨u, F3, A3, J3⟩ q3
  dsimp only at q3 ⊢
  have q := q2.tr q3
  have H0 : LHm l s F F A A 0 := ⟨hF, hA, fun _ _ => rfl, fun _ _ => rfl, LSm.rfl' l A, Int.le_refl _, id, id, C, by omega, hB⟩
  exact s_d_tellLaw_18 hs h19 hb ⟨w1, by omega⟩ (by rw [q.2.2.1 49 (by decide)]) h33 (H0.q q) (by decide) (by have h0 : (0 : Int32).toInt = 0 := (by decide); omega)
end LH
end Qz69
section Qz70
/-! the first evening of a text -/
def BGm (F : Nat → Int32) (A : Nat → Nat → Int32) (k : Int) (r : Unit × (Nat → Int32) × (Nat → Nat → Int32) × (Nat → Nat → Int64)) : Prop := r.2.1 = F ∧ IAm r.2.2.1 ∧ (∀ q, q ≠ 47 → r.2.2.1 q = A q) ∧ RVm F r.2.2.1 47 k
section BG
variable {F : Nat → Int32} {A : Nat → Nat → Int32} {J : Nat → Nat → Int64} {k : Int}
theorem BGm.go {A' : Nat → Nat → Int32} {r : Unit × (Nat → Int32) × (Nat → Nat → Int32) × (Nat → Nat → Int64)} (h : BGm F A' k r) (o : ∀ q, q ≠ 47 → A' q = A q) : BGm F A k r := ⟨h.1, h.2.1, fun q hq => (h.2.2.1 q hq).trans (o q hq), h.2.2.2⟩
theorem s_d_begins_176 (hF : IFm F) (hk : k ≤ 6) : ∀ {n : Nat} {A : Nat → Nat → Int32} {J : Nat → Nat → Int64} {x1 : Int32}, IAm A → RVm F A 47 k → 0 ≤ x1.toInt ∧ x1.toInt ≤ 12 → 13 - x1.toInt < (n : Int) → ok (d_begins_176 n F A J x1) (BGm F A k) := by
  intro n
  induction n with
  | zero => intro A J x1 hA R hx hn; exact absurd hn (by omega)
  | succ n ih =>
    intro A J x1 hA R hx hn
    have r18 : 0 ≤ (F 18).toInt ∧ (F 18).toInt ≤ 1 := hF 18
    have l1 : (1 : Int32).toInt = 1 := by decide
    have l12 : (12 : Int32).toInt = 12 := by decide
    have l78 : (78 : Int32).toInt = 78 := by decide
    unfold d_begins_176
    refine ok_ld (j := 12) hA (by omega) (by omega) ?_
    intro v ve vr
    change 0 ≤ v.toInt ∧ v.toInt ≤ 12 at vr
    refine ok_cond (fun c => ok_some ⟨rfl, hA, fun _ _ => rfl, R⟩) (fun c => ?_)
    rw [i_nge] at c
    have e1 := i_mulL (c := 12) (k := 12) (x := F 18) (by decide) (by omega) (by omega)
    have e2 := i_add (x := 12 * F 18) (y := x1) (by omega) (by omega)
    have e3 := i_add (x := x1) (y := 1) (by omega) (by omega)
    refine ok_ld (j := 16) hA (by omega) (by omega) ?_
    intro v20 _ _
    refine ok_cond (fun _ => ?_) (fun _ => ?_)
    · unfold d_begins_219
      exact ih hA R (by omega) (by omega)
    · refine ok_ld (j := 47) hA (by omega) (by omega) ?_
      intro v22 _ _
      refine ok_st (j := 47) hA (by omega) (by omega) trivial ?_
      intro A2 a2 o2 s2 n2
      exact ok_mono (ih a2 (R.st (by decide) o2 n2 (by omega) hk) (by omega) (by omega)) (fun r h => h.go o2)
theorem s_d_begins_132 (hF : IFm F) (hk : k ≤ 6) : ∀ {n : Nat} {A : Nat → Nat → Int32} {J : Nat → Nat → Int64} {x1 : Int32}, IAm A → RVm F A 47 k → 0 ≤ x1.toInt ∧ x1.toInt ≤ 6 → 40 - x1.toInt < (n : Int) → ok (d_begins_132 n F A J x1) (BGm F A k) := by
  intro n
  induction n with
  | zero => intro A J x1 hA R hx hn; exact absurd hn (by omega)
  | succ n ih =>
    intro A J x1 hA R hx hn
    have r18 : 0 ≤ (F 18).toInt ∧ (F 18).toInt ≤ 1 := hF 18
    have l0 : (0 : Int32).toInt = 0 := by decide
    have l1 : (1 : Int32).toInt = 1 := by decide
    have l72 : (72 : Int32).toInt = 72 := by decide
    unfold d_begins_132
    refine ok_ld (j := 17) hA (by omega) (by omega) ?_
    intro v ve vr
    change 0 ≤ v.toInt ∧ v.toInt ≤ 6 at vr
    refine ok_cond (fun c => s_d_begins_176 hF hk hA R (by decide) (by omega)) (fun c => ?_)
    rw [i_nge] at c
    have e1 := i_mulL (c := 6) (k := 6) (x := F 18) (by decide) (by omega) (by omega)
    have e2 := i_add (x := 6 * F 18) (y := x1) (by omega) (by omega)
    have e3 := i_add (x := x1) (y := 1) (by omega) (by omega)
    have e4 := i_add (x := 72) (y := x1) (by omega) (by omega)
    refine ok_ld (j := 18) hA (by omega) (by omega) ?_
    intro v16 _ _
    refine ok_st (j := 47) hA (by omega) (by omega) trivial ?_
    intro A2 a2 o2 s2 n2
    exact ok_mono (ih a2 (R.st (by decide) o2 n2 (by omega) hk) (by omega) (by omega)) (fun r h => h.go o2)
theorem s_d_begins_59 (hF : IFm F) (hk : k ≤ 6) : ∀ {n : Nat} {A : Nat → Nat → Int32} {J : Nat → Nat → Int64} {x1 : Int32}, IAm A → k = ai A 29 (F 18).toInt → XMm A (F 18).toInt → RVm F A 47 x1.toInt → 0 ≤ x1.toInt ∧ x1.toInt ≤ k → 80 - x1.toInt < (n : Int) → ok (d_begins_59 n F A J x1) (BGm F A k) := by
  intro n
  induction n with
  | zero => intro A J x1 hA hm X R hx hn; exact absurd hn (by omega)
  | succ n ih =>
    intro A J x1 hA hm X R hx hn
    have r18 : 0 ≤ (F 18).toInt ∧ (F 18).toInt ≤ 1 := hF 18
    have l0 : (0 : Int32).toInt = 0 := by decide
    have l1 : (1 : Int32).toInt = 1 := by decide
    have l42 : (42 : Int32).toInt = 42 := by decide
    have l48 : (48 : Int32).toInt = 48 := by decide
    have l66 : (66 : Int32).toInt = 66 := by decide
    unfold d_begins_59
    refine ok_call (s_d_menNow hF hA) ?_
    intro v vp
    refine ok_cond (fun c => ?_) (fun c => ?_)
    · rw [i_ge] at c
      have e : k = x1.toInt := by omega
      subst e
      exact s_d_begins_132 hF hk hA R (by decide) (by omega)
    · rw [i_nge] at c
      have e1 := i_mulL (c := 6) (k := 6) (x := F 18) (by decide) (by omega) (by omega)
      have e2 := i_add (x := 6 * F 18) (y := x1) (by omega) (by omega)
      have e3 := i_add (x := x1) (y := 1) (by omega) (by omega)
      have e4 := i_add (x := 42) (y := x1) (by omega) (by omega)
      have e5 := i_add (x := 48) (y := x1) (by omega) (by omega)
      have e6 := i_add (x := 66) (y := x1) (by omega) (by omega)
      refine ok_ld (j := 31) hA (by omega) (by omega) ?_
      intro v9 v9e _
      refine ok_st (j := 47) hA (by omega) (by omega) trivial ?_
      intro A2 a2 o2 s2 n2
      refine ok_ld (j := 32) a2 (by omega) (by omega) ?_
      intro v11 v11e _
      refine ok_st (j := 47) a2 (by omega) (by omega) trivial ?_
      intro A3 a3 o3 s3 n3
      refine ok_st (j := 47) a3 (by omega) (by omega) trivial ?_
      intro A4 a4 o4 s4 n4
      rw [e4, l42] at s2 n2
      rw [e5, l48] at s3 n3
      rw [e6, l66] at n4
      have oth : ∀ q, q ≠ 47 → A4 q = A q := fun q hq => (o4 q hq).trans ((o3 q hq).trans (o2 q hq))
      have k42 : ai A4 47 (42 + x1.toInt) = v9.toInt := by rw [n4 _ (by omega) (by omega), n3 _ (by omega) (by omega)]; exact s2
      have k48 : ai A4 47 (48 + x1.toInt) = v11.toInt := by rw [n4 _ (by omega) (by omega)]; exact s3
      have z : (6 * F 18 + x1).toInt = 6 * (F 18).toInt + x1.toInt := by omega
      rw [z] at v9e
      rw [z, ai_fr (o2 32 (by decide))] at v11e
      have R4 : RVm F A4 47 (x1.toInt + 1) := by
        refine RVm.ext (R.cg rfl (oth 19 (by decide)) (oth 22 (by decide)) (fun m m0 m1 => ⟨?_, ?_⟩)) ?_
        · rw [n4 _ (by omega) (by omega), n3 _ (by omega) (by omega), n2 _ (by omega) (by omega)]
        · rw [n4 _ (by omega) (by omega), n3 _ (by omega) (by omega), n2 _ (by omega) (by omega)]
        · rw [k42, k48, v9e, v11e]
          intro h
          obtain ⟨_, x⟩ := X x1.toInt hx.1 (by omega)
          obtain ⟨y1, y2, y3⟩ := x h
          refine ⟨h, ?_, y2, ?_⟩
          · rw [ai_fr (oth 19 (by decide))]; exact y1
          · rw [ai_fr (oth 22 (by decide))]; exact y3
      have X4 : XMm A4 (F 18).toInt := by
        unfold XMm
        rw [ai_fr (oth 29 (by decide)), ai_fr (oth 30 (by decide)), ai_fr (oth 31 (by decide)), ai_fr (oth 32 (by decide)), ai_fr (oth 19 (by decide)), ai_fr (oth 22 (by decide))]
        exact X
      exact ok_mono (ih a4 (by rw [ai_fr (oth 29 (by decide))]; exact hm) X4 (by rw [e3, l1]; exact R4) (by omega) (by omega)) (fun r h => h.go oth)
theorem s_d_begins_23 (hF : IFm F) (hk : k ≤ 6) (hk0 : 0 ≤ k) : ∀ {n : Nat} {A : Nat → Nat → Int32} {J : Nat → Nat → Int64} {x1 : Int32}, IAm A → k = ai A 29 (F 18).toInt → XMm A (F 18).toInt → 0 ≤ x1.toInt ∧ x1.toInt ≤ 6 → 120 - x1.toInt < (n : Int) → ok (d_begins_23 n F A J x1) (BGm F A k) := by
  intro n
  induction n with
  | zero => intro A J x1 hA hm X hx hn; exact absurd hn (by omega)
  | succ n ih =>
    intro A J x1 hA hm X hx hn
    have r18 : 0 ≤ (F 18).toInt ∧ (F 18).toInt ≤ 1 := hF 18
    have l0 : (0 : Int32).toInt = 0 := by decide
    have l1 : (1 : Int32).toInt = 1 := by decide
    unfold d_begins_23
    refine ok_call (s_d_tasksNow hF hA) ?_
    intro v vp
    refine ok_cond (fun c => s_d_begins_59 hF hk hA hm X (fun m m0 m1 => absurd m1 (by omega)) (by omega) (by omega)) (fun c => ?_)
    rw [i_nge] at c
    have e1 := i_mulL (c := 6) (k := 6) (x := F 18) (by decide) (by omega) (by omega)
    have e2 := i_add (x := 6 * F 18) (y := x1) (by omega) (by omega)
    have e3 := i_add (x := x1) (y := 1) (by omega) (by omega)
    refine ok_ld (j := 21) hA (by omega) (by omega) ?_
    intro v5 _ _
    refine ok_st (j := 47) hA (by omega) (by omega) trivial ?_
    intro A2 a2 o2 s2 n2
    have X2 : XMm A2 (F 18).toInt := by
      unfold XMm
      rw [ai_fr (o2 29 (by decide)), ai_fr (o2 30 (by decide)), ai_fr (o2 31 (by decide)), ai_fr (o2 32 (by decide)), ai_fr (o2 19 (by decide)), ai_fr (o2 22 (by decide))]
      exact X
    exact ok_mono (ih a2 (by rw [ai_fr (o2 29 (by decide))]; exact hm) X2 (by omega) (by omega)) (fun r h => h.go o2)
theorem s_d_begins_2 (hF : IFm F) (hk : k ≤ 6) (hk0 : 0 ≤ k) : ∀ {n : Nat} {A : Nat → Nat → Int32} {J : Nat → Nat → Int64} {x1 : Int32}, IAm A → k = ai A 29 (F 18).toInt → XMm A (F 18).toInt → 0 ≤ x1.toInt ∧ x1.toInt ≤ 100 → 260 - x1.toInt < (n : Int) → ok (d_begins_2 n F A J x1) (BGm F A k) := by
  intro n
  induction n with
  | zero => intro A J x1 hA hm X hx hn; exact absurd hn (by omega)
  | succ n ih =>
    intro A J x1 hA hm X hx hn
    have l0 : (0 : Int32).toInt = 0 := by decide
    have l1 : (1 : Int32).toInt = 1 := by decide
    have l100 : (100 : Int32).toInt = 100 := by decide
    unfold d_begins_2
    refine ok_cond (fun c => s_d_begins_23 hF hk hk0 hA hm X (by decide) (by omega)) (fun c => ?_)
    rw [i_nge] at c
    have e3 := i_add (x := x1) (y := 1) (by omega) (by omega)
    refine ok_st (j := 47) hA (by omega) (by omega) trivial ?_
    intro A2 a2 o2 s2 n2
    have X2 : XMm A2 (F 18).toInt := by
      unfold XMm
      rw [ai_fr (o2 29 (by decide)), ai_fr (o2 30 (by decide)), ai_fr (o2 31 (by decide)), ai_fr (o2 32 (by decide)), ai_fr (o2 19 (by decide)), ai_fr (o2 22 (by decide))]
      exact X
    exact ok_mono (ih a2 (by rw [ai_fr (o2 29 (by decide))]; exact hm) X2 (by omega) (by omega)) (fun r h => h.go o2)
theorem s_d_begins {n : Nat} (hF : IFm F) (hA : IAm A) (hm : k = ai A 29 (F 18).toInt) (X : XMm A (F 18).toInt) (hn : 300 ≤ n) : ok (d_begins n F A J) (BGm F A k) := by
  have r18 : 0 ≤ (F 18).toInt ∧ (F 18).toInt ≤ 1 := hF 18
  have r29 : 0 ≤ ai A 29 (F 18).toInt ∧ ai A 29 (F 18).toInt ≤ 6 := hA 29 _ r18.1
  have l0 : (0 : Int32).toInt = 0 := by decide
  unfold d_begins
  exact s_d_begins_2 hF (by omega) (by omega) hA hm X (by decide) (by omega)
end BG
end Qz70
section Qz71
/-! a sentence of the text is told -/
def X4m (A : Nat → Nat → Int32) (s : Int) : Prop := XDm A s ∧ XTm A s ∧ XUm A s ∧ XMm A s
def RDm (l s : Int) (F0 F : Nat → Int32) (A0 A : Nat → Nat → Int32) : Prop := IFm F ∧ IAm A ∧ (F 18).toInt = l ∧ (F 19).toInt = s ∧ NCm F A ∧ LSm l A0 A ∧ CSm F s ∧ (1 ≤ (F 13).toInt ∨ 50 * s ≤ (F 49).toInt) ∧ (1 ≤ (F 13).toInt ∨ ((F 49).toInt ≤ 50 * s + 5 * ai A 33 s ∧ LBm F A s ∧ LLm F A s)) ∧ (1 ≤ (F 13).toInt ∨ 1 ≤ (F 15).toInt ∨ X4m A s) ∧ (∀ q, q ∉ ([11, 12, 13, 14, 15, 16, 20, 49, 56, 60] : List Nat) → F q = F0 q) ∧ (∀ q, 45 ≤ q → A q = A0 q)
section X4
variable {F F' F0 : Nat → Int32} {A A' A0 : Nat → Nat → Int32} {J : Nat → Nat → Int64} {l s : Int} {n : Nat}
theorem XDm.fr (h : XDm A s) (h12 : A' 12 = A 12) (h13 : A' 13 = A 13) (h14 : A' 14 = A 14) : XDm A' s := by
  unfold XDm
  rw [ai_fr h12, ai_fr h13, ai_fr h14]
  exact h
theorem XTm.fr (h : XTm A s) (h19 : A' 19 = A 19) (h20 : A' 20 = A 20) : XTm A' s := by
  unfold XTm
  rw [ai_fr h19, ai_fr h20]
  exact h
theorem XUm.fr (h : XUm A s) (h19 : A' 19 = A 19) (h22 : A' 22 = A 22) (h28 : A' 28 = A 28) : XUm A' s := by
  unfold XUm
  rw [ai_fr h19, ai_fr h22, ai_fr h28]
  exact h
theorem XMm.fr (h : XMm A s) (h19 : A' 19 = A 19) (h22 : A' 22 = A 22) (k : ∀ q, q = 29 ∨ q = 30 ∨ q = 31 ∨ q = 32 → A' q = A q) : XMm A' s := by
  unfold XMm
  rw [ai_fr (k 29 (by omega)), ai_fr (k 30 (by omega)), ai_fr (k 31 (by omega)), ai_fr (k 32 (by omega)), ai_fr h19, ai_fr h22]
  exact h
theorem X4m.fr (h : X4m A s) (k : ∀ q, q ∈ ([12, 13, 14, 19, 20, 22, 28, 29, 30, 31, 32] : List Nat) → A' q = A q) : X4m A' s :=
  ⟨h.1.fr (k 12 (by decide)) (k 13 (by decide)) (k 14 (by decide)), h.2.1.fr (k 19 (by decide)) (k 20 (by decide)), h.2.2.1.fr (k 19 (by decide)) (k 22 (by decide)) (k 28 (by decide)), h.2.2.2.fr (k 19 (by decide)) (k 22 (by decide)) (fun q hq => k q (by rcases hq with rfl | rfl | rfl | rfl <;> decide))⟩
theorem LUm.fr {b : Int} (h : LUm A s b) (k : ∀ q, 36 ≤ q → q ≤ 43 → q ≠ 41 → A' q = A q) : LUm A' s b := by
  have e : ai A 40 b ≤ ai A 40 b := Int.le_refl _
  refine h.bl e (fun q hq => ?_) (fun i _ _ => ⟨by rw [ai_fr (k 42 (by decide) (by decide) (by decide))], by rw [ai_fr (k 43 (by decide) (by decide) (by decide))]⟩)
  rw [ai_fr (k q (by omega) (by omega) (by omega))]
/-- what is told is no law -/
theorem RDm.st (h : RDm l s F0 F A0 A) (m13 : 1 ≤ (F 13).toInt → 1 ≤ (F' 13).toInt) (f1 : IFm F') (f2 : IAm A') (oF : ∀ q, q ∉ ([11, 13, 14, 15, 16, 20] : List Nat) → F' q = F q) (N : NCm F' A') (L : LSm l A A') (h11 : (F 11).toInt ≤ (F' 11).toInt) (h15 : 1 ≤ (F 15).toInt → 1 ≤ (F' 15).toInt) (oA : ∀ q, 33 ≤ q → q ≠ 41 → A' q = A q) (X : 1 ≤ (F' 13).toInt ∨ 1 ≤ (F' 15).toInt ∨ (X4m A s → X4m A' s)) : RDm l s F0 F' A0 A' := by
  obtain ⟨a1, a2, a3, a4, a5, a6, ⟨c1, c2, c3⟩, a8, a9, a10, a11, a12⟩ := h
  have g49 : F' 49 = F 49 := oF 49 (by decide)
  have g56 : F' 56 = F 56 := oF 56 (by decide)
  have g12 : F' 12 = F 12 := oF 12 (by decide)
  refine ⟨f1, f2, by rw [oF 18 (by decide)]; exact a3, by rw [oF 19 (by decide)]; exact a4, N, a6.tr L, ⟨by rw [g56]; exact c1, by rw [g56]; omega, c3.imp m13 (fun c4 => ⟨by rw [g12]; exact c4.1, by rw [g56]; omega⟩)⟩, by rw [g49]; exact a8.imp m13 id, ?_, ?_, fun q hq => (oF q (fun e => hq ((by decide : ∀ x, x ∈ ([11, 13, 14, 15, 16, 20] : List Nat) → x ∈ ([11, 12, 13, 14, 15, 16, 20, 49, 56, 60] : List Nat)) q e))).trans (a11 q hq), fun q hq => (oA q (by omega) (by omega)).trans (a12 q hq)⟩
  · rcases a9 with hh | ⟨b1, b2, b3⟩
    · exact .inl (m13 hh)
    · refine .inr ⟨by rw [g49, ai_fr (oA 33 (by decide) (by decide))]; exact b1, fun b p q => ?_, fun m m0 m1 b p q => ?_⟩
      · rw [g49] at q
        rw [g56, ai_fr (oA 40 (by decide) (by decide))]
        obtain ⟨u, v⟩ := b2 b p q
        exact ⟨u.fr (fun q p _ r => oA q (by omega) r), v⟩
      · rw [ai_fr (oA 34 (by decide) (by decide))] at p
        rw [ai_fr (oA 35 (by decide) (by decide))] at q
        rw [g49]
        exact b3 m m0 m1 b p q
  · rcases X with h | h | h
    · exact .inl h
    · exact .inr (.inl h)
    · rcases a10 with g | g | g
      · exact .inl (m13 g)
      · exact .inr (.inl (h15 g))
      · exact .inr (.inr (h g))
theorem RDm.qc (h : RDm l s F0 F A0 A) (q : QCm F F' A A') : RDm l s F0 F' A0 A' := by
  have N := q.nm h.2.2.2.2.1
  have e := q.eq
  subst e
  exact h.st q.2.2.2.2.2.1 q.1 q.2.1 (fun p hp => q.2.2.1 p (fun e => hp ((by decide : ∀ x, x ∈ ([11, 13, 14, 15, 16] : List Nat) → x ∈ ([11, 13, 14, 15, 16, 20] : List Nat)) p e))) N (LSm.rfl' l A') q.2.2.2.2.1 q.2.2.2.2.2.2 (fun _ _ _ => rfl) (.inr (.inr id))
theorem q_goesOn1 (hF : IFm F) (hA : IAm A) : ok (d_goesOn F A J) (fun r => QCm F r.2.1 A r.2.2.1 ∧ 1 ≤ (r.2.1 11).toInt ∧ ((F 11).toInt < (r.2.1 11).toInt ∨ 1 ≤ (r.2.1 13).toInt)) := by
  have r11 : 0 ≤ (F 11).toInt ∧ (F 11).toInt ≤ 400 := hF 11
  have l1 : (1 : Int32).toInt = 1 := by decide
  have l4 : (400 : Int32).toInt = 400 := by decide
  unfold d_goesOn
  refine ok_cond (fun c => ?_) (fun c => ?_)
  · rw [i_ne] at c
    have e := i_add (x := F 11) (y := 1) (by omega) (by omega)
    refine ok_pf hF (show 0 ≤ (F 11 + 1).toInt ∧ (F 11 + 1).toInt ≤ 400 by omega) ?_
    intro F2 hF2 k2 o2
    have z : (F2 11).toInt = (F 11).toInt + 1 := by rw [k2]; omega
    exact ok_some ⟨⟨hF2, hA, fun q hq => o2 q (fun e => hq (by rw [e]; decide)), fun _ => rfl, (show (F 11).toInt ≤ (F2 11).toInt by omega), fun h => (show 1 ≤ (F2 13).toInt by rw [o2 13 (by decide)]; exact h), fun h => (show 1 ≤ (F2 15).toInt by rw [o2 15 (by decide)]; exact h)⟩, (show 1 ≤ (F2 11).toInt by omega), .inl (show (F 11).toInt < (F2 11).toInt by omega)⟩
  · rw [i_nne] at c
    refine ok_call (q_fail hF hA (by decide)) ?_
    rintro ⟨u, F2, A2, J2⟩ ⟨q, q13⟩
    dsimp only at q q13 ⊢
    have := q.2.2.2.2.1
    exact ok_some ⟨q, (show 1 ≤ (F2 11).toInt by omega), .inr q13⟩
theorem q_roomFor {x1 x2 : Int32} (hF : IFm F) (hA : IAm A) (h13 : (F 13).toInt = 0) : ok (d_roomFor F A J x1 x2) (fun r => QCm F r.2.1 A r.2.2.1 ∧ ((x1.toInt ≠ x2.toInt ∧ (r.2.1 11).toInt = (F 11).toInt + 1 ∧ (r.2.1 13).toInt = 0) ∨ 1 ≤ (r.2.1 13).toInt)) := by
  refine ok_mono (s_d_roomFor hF hA) ?_
  rintro ⟨u, F2, A2, J2⟩ ⟨h1, h2, o3, o4, h5⟩
  dsimp only at h1 h2 o3 o4 h5 ⊢
  exact ⟨⟨h1, h2, fun q hq => o3 q (fun e => hq ((by decide : ∀ x, x ∈ ([11, 13, 14] : List Nat) → x ∈ ([11, 13, 14, 15, 16] : List Nat)) q e)), fun q => o4 q (by simp), by omega, fun h => by omega, fun h => by rw [o3 15 (by decide)]; exact h⟩, by omega⟩
end X4
end Qz71
section Qz72
section T0
variable {F F0 : Nat → Int32} {A A0 : Nat → Nat → Int32} {J : Nat → Nat → Int64} {l s : Int} {n : Nat}
/-- what a sentence leaves -/
def T0m (l s : Int) (F0 F : Nat → Int32) (A0 : Nat → Nat → Int32) (r : Unit × (Nat → Int32) × (Nat → Nat → Int32) × (Nat → Nat → Int64)) : Prop := RDm l s F0 r.2.1 A0 r.2.2.1 ∧ ((F 11).toInt < (r.2.1 11).toInt ∨ 1 ≤ (r.2.1 13).toInt)
theorem t0_fail (h : RDm l s F0 F A0 A) (h13 : (F 13).toInt = 0) : ok ((d_fail F A J 1).bind fun (_, F24, A25, J26) => some ((), F24, A25, J26)) (T0m l s F0 F A0) := by
  refine ok_call (q_fail h.1 h.2.1 (by decide)) ?_
  rintro ⟨u, F2, A2, J2⟩ ⟨q, q13⟩
  dsimp only at q q13 ⊢
  exact ok_some ⟨h.qc q, .inr q13⟩
/-- a sentence that wants room: roomFor, then the telling -/
theorem t0_room {x1 x2 : Int32} {T : Option (Unit × (Nat → Int32) × (Nat → Nat → Int32) × (Nat → Nat → Int64))} {D : (Nat → Int32) → (Nat → Nat → Int32) → (Nat → Nat → Int64) → Option (Unit × (Nat → Int32) × (Nat → Nat → Int32) × (Nat → Nat → Int64))} (h : RDm l s F0 F A0 A) (h13 : (F 13).toInt = 0)
    (hD : ∀ F2 J2, RDm l s F0 F2 A0 A → (F2 13).toInt = 0 → x1.toInt ≠ x2.toInt → F2 19 = F 19 → ok (D F2 A J2) (fun r => RDm l s F0 r.2.1 A0 r.2.2.1 ∧ (F2 11).toInt ≤ (r.2.1 11).toInt)) : ok ((d_roomFor F A J x1 x2).bind fun (_, F5, A6, J7) => cond (g_cnd .ne (F5 13) 0) (some ((), F5, A6, J7)) ((D F5 A6 J7).bind fun (_, F10, A11, J12) => some ((), F10, A11, J12))) (T0m l s F0 F A0) := by
  have l0 : (0 : Int32).toInt = 0 := by decide
  refine ok_call (q_roomFor h.1 h.2.1 h13) ?_
  rintro ⟨u, F2, A2, J2⟩ ⟨q, w⟩
  dsimp only at q w ⊢
  have r13 : 0 ≤ (F2 13).toInt ∧ (F2 13).toInt ≤ 5 := q.1 13
  have h2 := h.qc q
  have e := q.eq
  subst e
  refine ok_cond (fun c => ?_) (fun c => ?_)
  · rw [i_ne] at c
    exact ok_some ⟨h2, .inr (show 1 ≤ (F2 13).toInt by omega)⟩
  · rw [i_nne] at c
    refine ok_call (hD F2 J2 h2 (by omega) (by omega) (q.2.2.1 19 (by decide))) ?_
    rintro ⟨u3, F3, A3, J3⟩ ⟨g1, g2⟩
    dsimp only at g1 g2 ⊢
    exact ok_some ⟨g1, .inl (show (F 11).toInt < (F3 11).toInt by omega)⟩
theorem s_d_tell0 (hs : 0 ≤ s ∧ s ≤ 1 ∧ s = 1 - l) (h : RDm l s F0 F A0 A) (h13 : (F 13).toInt = 0) (hn : 640 ≤ n) : ok (d_tell0 n F A J) (T0m l s F0 F A0) := by
  have hF := h.1
  have hA := h.2.1
  have r11 : 0 ≤ (F 11).toInt ∧ (F 11).toInt ≤ 400 := hF 11
  have e19 := h.2.2.2.1
  have fl : ∀ {J}, ok ((d_fail F A J 1).bind fun (_, F24, A25, J26) => some ((), F24, A25, J26)) (T0m l s F0 F A0) := fun {J} => t0_fail h h13
  unfold d_tell0
  refine ok_ld (j := 3) hA (by omega) (by omega) ?_
  intro v _ _
  have hl : ∀ {F2}, RDm l s F0 F2 A0 A → 0 ≤ l ∧ (F2 18).toInt = l ∧ (F2 19).toInt = 1 - l := fun g => ⟨by omega, g.2.2.1, by rw [g.2.2.2.1]; omega⟩
  -- room
  refine ok_cond (fun _ => ?_) (fun _ => ?_)
  · refine ok_ld (j := 11) hA (by omega) (by omega) ?_
    intro x xe xr
    change 0 ≤ x.toInt ∧ x.toInt ≤ 8 at xr
    refine t0_room (T := none) (D := fun F A J => d_tellRoom n F A J) h h13 (fun F2 J2 g z ne k19 => ?_)
    have l8 : (8 : Int32).toInt = 8 := by decide
    refine ok_mono (s_d_tellRoom (l := l) g.1 g.2.1 (by omega) (hl g) g.2.2.2.2.1 (by rw [k19]; omega) z) ?_
    rintro ⟨u, F3, A3, J3⟩ ⟨m1, m2, m3, m4, m5, m6, m7, m8, m9⟩
    dsimp only at m1 m2 m3 m4 m5 m6 m7 m8 m9 ⊢
    exact ⟨g.st (fun h => by omega) m1 m2 m3 m5 m6 m8 (fun h => by omega) (fun q hq _ => m4 q (by simp; omega)) (.inr (.inr (fun x => x.fr (fun q hq => m4 q (fun e => absurd hq ((by decide : ∀ x, x ∈ ([9, 10, 11] : List Nat) → x ∉ ([12, 13, 14, 19, 20, 22, 28, 29, 30, 31, 32] : List Nat)) q e)))))), m8⟩
  -- door
  refine ok_cond (fun _ => ?_) (fun _ => ?_)
  · refine ok_ld (j := 12) hA (by omega) (by omega) ?_
    intro x xe xr
    change 0 ≤ x.toInt ∧ x.toInt ≤ 12 at xr
    refine t0_room (T := none) (D := fun F A J => d_tellDoor n F A J) h h13 (fun F2 J2 g z ne k19 => ?_)
    have l8 : (12 : Int32).toInt = 12 := by decide
    refine ok_mono (s_d_tellDoor (l := l) g.1 g.2.1 (by omega) (hl g) g.2.2.2.2.1 (by rw [k19]; omega) z) ?_
    rintro ⟨u, F3, A3, J3⟩ ⟨m1, m2, m3, m4, m5, m6, m7, m8, m9⟩
    dsimp only at m1 m2 m3 m4 m5 m6 m7 m8 m9 ⊢
    rw [g.2.2.2.1] at m9
    refine ⟨g.st (fun h => by omega) m1 m2 (fun q hq => m3 q (fun e => hq ((by decide : ∀ x, x ∈ ([11, 13, 14, 15, 16] : List Nat) → x ∈ ([11, 13, 14, 15, 16, 20] : List Nat)) q e))) m5 m6 m8 (fun h => by omega) (fun q hq _ => m4 q (by simp; omega)) (m9.imp id (fun h => h.imp id (fun k x => ⟨k x.1, x.2.1.fr (m4 19 (by decide)) (m4 20 (by decide)), x.2.2.1.fr (m4 19 (by decide)) (m4 22 (by decide)) (m4 28 (by decide)), x.2.2.2.fr (m4 19 (by decide)) (m4 22 (by decide)) (fun q hq => m4 q (by rcases hq with rfl | rfl | rfl | rfl <;> decide))⟩))), m8⟩
  refine ok_cond (fun _ => fl) (fun _ => ?_)
  -- tool
  refine ok_cond (fun _ => ?_) (fun _ => ?_)
  · refine ok_ld (j := 17) hA (by omega) (by omega) ?_
    intro x xe xr
    change 0 ≤ x.toInt ∧ x.toInt ≤ 6 at xr
    refine t0_room (T := none) (D := fun F A J => d_tellTool n F A J) h h13 (fun F2 J2 g z ne k19 => ?_)
    have l8 : (6 : Int32).toInt = 6 := by decide
    refine ok_mono (s_d_tellTool (l := l) g.1 g.2.1 (by omega) (hl g) g.2.2.2.2.1 (by rw [k19]; omega) z) ?_
    rintro ⟨u, F3, A3, J3⟩ ⟨m1, m2, m3, m4, m5, m6, m7, m8, m9⟩
    dsimp only at m1 m2 m3 m4 m5 m6 m7 m8 m9 ⊢
    exact ⟨g.st (fun h => by omega) m1 m2 m3 m5 m6 m8 (fun h => by omega) (fun q hq _ => m4 q (by simp; omega)) (.inr (.inr (fun x => x.fr (fun q hq => m4 q (fun e => absurd hq ((by decide : ∀ x, x ∈ ([9, 10, 17, 18] : List Nat) → x ∉ ([12, 13, 14, 19, 20, 22, 28, 29, 30, 31, 32] : List Nat)) q e)))))), m8⟩
  -- task
  refine ok_cond (fun _ => ?_) (fun _ => ?_)
  · refine ok_ld (j := 19) hA (by omega) (by omega) ?_
    intro x xe xr
    change 0 ≤ x.toInt ∧ x.toInt ≤ 6 at xr
    refine t0_room (T := none) (D := fun F A J => d_tellTask n F A J) h h13 (fun F2 J2 g z ne k19 => ?_)
    have l8 : (6 : Int32).toInt = 6 := by decide
    refine ok_mono (s_d_tellTask (l := l) g.1 g.2.1 (by omega) (hl g) g.2.2.2.2.1 (by rw [k19]; omega) z) ?_
    rintro ⟨u, F3, A3, J3⟩ ⟨m1, m2, m3, m4, m5, m6, m7, m8, m9⟩
    dsimp only at m1 m2 m3 m4 m5 m6 m7 m8 m9 ⊢
    rw [g.2.2.2.1] at m9
    exact ⟨g.st (fun h => by omega) m1 m2 m3 m5 m6 m8 (fun h => by omega) (fun q hq _ => m4 q (by simp; omega)) (m9.imp id (fun h => h.imp id (fun k x => ⟨x.1.fr (m4 12 (by decide)) (m4 13 (by decide)) (m4 14 (by decide)), k.1 x.2.1, k.2.1 x.2.2.1, k.2.2 x.2.2.2⟩))), m8⟩
  -- step
  refine ok_cond (fun _ => ?_) (fun _ => ?_)
  · refine ok_call (q_goesOn1 hF hA) ?_
    rintro ⟨u, F2, A2, J2⟩ ⟨q, w1, w2⟩
    dsimp only at q w1 w2 ⊢
    have g := h.qc q
    have e := q.eq
    subst e
    have l1 : (1 : Int32).toInt = 1 := by decide
    have r2 : 0 ≤ (F2 11).toInt ∧ (F2 11).toInt ≤ 400 := q.1 11
    have e1 := i_sub (x := F2 11) (y := 1) (by omega) (by omega)
    refine ok_call (s_d_tellStep (l := l) q.1 q.2.1 (by omega) g.2.2.2.2.1 (hl g) (by omega)) ?_
    rintro ⟨u, F3, A3, J3⟩ ⟨m1, m2, m3, m4, m5, m6, m7, m8, m9⟩
    dsimp only at m1 m2 m3 m4 m5 m6 m7 m8 m9 ⊢
    rw [g.2.2.2.1] at m9
    have N3 : NCm F3 A3 := g.2.2.2.2.1.fr0 (m3 19 (by decide)) (m3 20 (by decide)) (fun q hq => m4 q (by rcases hq with rfl | rfl | rfl | rfl | rfl | rfl <;> decide))
    refine ok_some ⟨g.st m7 m1 m2 (fun q hq => m3 q (fun e => hq ((by decide : ∀ x, x ∈ ([11, 13, 14, 15, 16] : List Nat) → x ∈ ([11, 13, 14, 15, 16, 20] : List Nat)) q e))) N3 m5 m6 m8 (fun q hq _ => m4 q (by simp; omega)) (m9.imp id (fun h => h.imp id (fun k x => ⟨x.1.fr (m4 12 (by decide)) (m4 13 (by decide)) (m4 14 (by decide)), x.2.1.fr (m4 19 (by decide)) (m4 20 (by decide)), k.1 x.2.2.1, k.2 x.2.2.2⟩))), ?_⟩
    show (F 11).toInt < (F3 11).toInt ∨ 1 ≤ (F3 13).toInt
    rcases w2 with w | w
    · exact .inl (by omega)
    · exact .inr (m7 w)
  refine ok_cond (fun _ => fl) (fun _ => ?_)
  refine ok_cond (fun _ => fl) (fun _ => ?_)
  -- man
  refine ok_cond (fun _ => ?_) (fun _ => ?_)
  · refine ok_ld (j := 29) hA (by omega) (by omega) ?_
    intro x xe xr
    change 0 ≤ x.toInt ∧ x.toInt ≤ 6 at xr
    refine t0_room (T := none) (D := fun F A J => d_tellMan n F A J) h h13 (fun F2 J2 g z ne k19 => ?_)
    have l8 : (6 : Int32).toInt = 6 := by decide
    refine ok_mono (s_d_tellMan (l := l) g.1 g.2.1 (by omega) (hl g) g.2.2.2.2.1 (by rw [k19]; omega) z) ?_
    rintro ⟨u, F3, A3, J3⟩ ⟨m1, m2, m3, m4, m5, m6, m7, m8, m9⟩
    dsimp only at m1 m2 m3 m4 m5 m6 m7 m8 m9 ⊢
    rw [g.2.2.2.1] at m9
    exact ⟨g.st (fun h => by omega) m1 m2 m3 m5 m6 m8 (fun h => by omega) (fun q hq _ => m4 q (by simp; omega)) (m9.imp id (fun h => h.imp id (fun k x => ⟨x.1.fr (m4 12 (by decide)) (m4 13 (by decide)) (m4 14 (by decide)), x.2.1.fr (m4 19 (by decide)) (m4 20 (by decide)), x.2.2.1.fr (m4 19 (by decide)) (m4 22 (by decide)) (m4 28 (by decide)), k x.2.2.2⟩))), m8⟩
  refine ok_cond (fun _ => fl) (fun _ => ?_)
  -- law
  refine ok_cond (fun _ => ?_) (fun _ => ?_)
  · refine ok_ld (j := 33) hA (by omega) (by omega) ?_
    intro x xe xr
    change 0 ≤ x.toInt ∧ x.toInt ≤ 8 at xr
    refine t0_room (T := none) (D := fun F A J => d_tellLaw n F A J) h h13 (fun F2 J2 g z ne k19 => ?_)
    have l8 : (8 : Int32).toInt = 8 := by decide
    have g' := g
    obtain ⟨a1, a2, a3, a4, a5, a6, a7, a8, a9, a10, a11, a12⟩ := g'
    obtain ⟨b1, b2, b3⟩ := a9.resolve_left (by omega)
    have b0 := a8.resolve_left (by omega)
    have r33 : 0 ≤ ai A 33 s ∧ ai A 33 s ≤ 8 := hA 33 _ (by omega)
    have h33 : ai A 33 s < 8 := by rw [← e19]; omega
    refine ok_mono (s_d_tellLaw hs a1 a2 (by omega) a5 a4 a7 ⟨b0, by omega⟩ h33 (.inr b2)) ?_
    rintro ⟨u, F3, A3, J3⟩ ⟨m1, m2, m3, m4, m5, m6, m7, m8, m9, m10⟩
    dsimp only at m1 m2 m3 m4 m5 m6 m7 m8 m9 m10 ⊢
    have N3 : NCm F3 A3 := a5.fr0 (m3 19 (by decide)) (m3 20 (by decide)) (fun q hq => m4 q (by rcases hq with rfl | rfl | rfl | rfl | rfl | rfl <;> decide))
    refine ⟨⟨m1, m2, by rw [m3 18 (by decide)]; exact a3, by rw [m3 19 (by decide)]; exact a4, N3, a6.tr m5, m9, m10.imp id (fun z => by omega), m10.imp id (fun z => ⟨by omega, z.1, z.2.2.2.2 b3⟩), ?_, fun q hq => (m3 q (fun e => hq ((by decide : ∀ x, x ∈ ([11, 12, 13, 14, 15, 16, 49, 56, 60] : List Nat) → x ∈ ([11, 12, 13, 14, 15, 16, 20, 49, 56, 60] : List Nat)) q e))).trans (a11 q hq), fun q hq => (m4 q (by simp; omega)).trans (a12 q hq)⟩, m6⟩
    rcases a10 with g | g | g
    · exact .inl (m7 g)
    · exact .inr (.inl (m8 g))
    · exact .inr (.inr (g.fr (fun q hq => m4 q (fun e => absurd hq ((by decide : ∀ x, x ∈ ([33, 34, 35, 36, 37, 38, 39, 40, 42, 43, 44] : List Nat) → x ∉ ([12, 13, 14, 19, 20, 22, 28, 29, 30, 31, 32] : List Nat)) q e)))))
  refine ok_cond (fun _ => fl) (fun _ => ?_)
  refine ok_cond (fun _ => fl) (fun _ => ?_)
  refine ok_cond (fun _ => fl) (fun _ => ?_)
  -- night
  refine ok_cond (fun _ => ?_) (fun _ => fl)
  · refine ok_call (q_goesOn1 hF hA) ?_
    rintro ⟨u, F2, A2, J2⟩ ⟨q, w1, w2⟩
    dsimp only at q w1 w2 ⊢
    have g := h.qc q
    refine ok_call (q_bounded q.1 q.2.1 (by decide)) ?_
    rintro ⟨v3, F3, A3, J3⟩ ⟨q3, y0, y1, y2⟩
    dsimp only at q3 y0 y1 y2 ⊢
    have g3 := g.qc q3
    have k19 := g.2.2.2.1
    refine ok_st (j := 41) q3.2.1 (by omega) (by omega) (show 0 ≤ v3.toInt ∧ v3.toInt ≤ 9999 from ⟨y0, y1⟩) ?_
    intro A4 a4 o4 s4 n4
    have g4 : RDm l s F0 F3 A0 A4 := g3.st id g3.1 a4 (fun _ _ => rfl) (g3.2.2.2.2.1.fr0 rfl rfl (fun q hq => o4 q (by omega))) ((LSm.rfl' l A3).st (by omega) 1 rfl o4 n4 ⟨by omega, by omega⟩ (by omega)) (Int.le_refl _) id (fun q _ hq => o4 q hq) (.inr (.inr (fun x => x.fr (fun q hq => o4 q (fun e => absurd hq (by rw [e]; decide))))))
    refine ok_call (q_must g4.1 a4) ?_
    rintro ⟨u, F5, A5, J5⟩ q5
    dsimp only at q5 ⊢
    refine ok_some ⟨g4.qc q5, ?_⟩
    show (F 11).toInt < (F5 11).toInt ∨ 1 ≤ (F5 13).toInt
    have z1 := q3.2.2.2.2.1
    have z2 := q5.2.2.2.2.1
    rcases w2 with w | w
    · exact .inl (by omega)
    · exact .inr (q5.2.2.2.2.2.1 (q3.2.2.2.2.2.1 w))
end T0
end Qz72
section Qz73
/-! the reference reads; what holds of it between calls -/
def LGm (F : Nat → Int32) (A : Nat → Nat → Int32) : Prop := ∀ m, 0 ≤ m → m < ai A 29 (F 18).toInt → ∀ b, ai A 34 (6 * (F 18).toInt + m) ≤ b → b < ai A 35 (6 * (F 18).toInt + m) → 50 * (F 18).toInt ≤ b ∧ b < 50 * (F 18).toInt + 50 ∧ 420 * (F 18).toInt ≤ ai A 39 b ∧ ai A 40 b ≤ 420 * (F 18).toInt + 420 ∧ (ai A 36 b = 1 → 420 * (F 18).toInt ≤ ai A 37 b)
def SAm (F : Nat → Int32) (A : Nat → Nat → Int32) : Prop := IFm F ∧ IAm A ∧ VMs F A ∧ LGm F A ∧ RVm F A 47 (ai A 29 (F 18).toInt) ∧ HIm F A (ai A 29 (F 18).toInt) ∧ HEm F A (ai A 29 (F 18).toInt)
section SA
variable {F F' F0 : Nat → Int32} {A A' A0 : Nat → Nat → Int32} {J : Nat → Nat → Int64} {l s : Int} {n : Nat}
theorem dpm_rg {u c : Int} (h : ∀ i, u ≤ i → i < c → ai A' 42 i = ai A 42 i) : ∀ k : Nat, u + k ≤ c → dpm A' u k = dpm A u k
  | 0, _ => rfl
  | k + 1, hk => by
    have ih := dpm_rg h k (by omega)
    show (if ai A' 42 (u + (k : Int)) < 2 then dpm A' u k + 1 else dpm A' u k - 1) = _
    rw [ih, h (u + k) (by omega) (by omega)]
    rfl
theorem WFm.rg {u v : Int} (w : WFm A u v) (h : ∀ i, u ≤ i → i < v → ai A' 42 i = ai A 42 i ∧ ai A' 43 i = ai A 43 i) : WFm A' u v := by
  obtain ⟨a, b, c, d, e, f⟩ := w
  refine ⟨a, b, c, d, fun k h1 h2 => ?_, fun i h1 h2 h3 => ?_⟩
  · rw [dpm_rg (fun i p q => (h i p q).1) k (by omega)]
    rw [(h (u + k) (by omega) (by omega)).1] at h2
    exact e k h1 h2
  · rw [(h i h1 h2).1] at h3
    rw [(h i h1 h2).2]
    exact f i h1 h2 h3
theorem SVm.ls {t q : Int} (v : SVm F A t q) (hA : IAm A) (L : LSm (F 18).toInt A A') (r18 : 0 ≤ (F 18).toInt) (e18 : F' 18 = F 18) : SVm F' A' t q := by
  obtain ⟨a, b, c, d⟩ := v
  have b19 : 0 ≤ ai A 19 (F 18).toInt ∧ ai A 19 (F 18).toInt ≤ 6 := hA 19 _ r18
  refine ⟨a, ?_, c, ?_⟩
  · rw [e18, L 19 _ (by show 1 * _ ≤ _; omega) (by show _ < 1 * _ + 1; omega)]
    exact b
  · rw [e18, L 22 _ (by show 6 * _ ≤ _; omega) (by show _ < 6 * _ + 6; omega)]
    exact d
theorem LSm.k29 (L : LSm (F 18).toInt A A') : ai A' 29 (F 18).toInt = ai A 29 (F 18).toInt := L 29 _ (by show 1 * _ ≤ _; omega) (by show _ < 1 * _ + 1; omega)
/-- a text with a fault leaves all as it was -/
theorem SAm.keep (S : SAm F A) (hF : IFm F') (hA' : IAm A') (L : LSm (F 18).toInt A A') (e18 : F' 18 = F 18) (e74 : F' 74 = F 74) (o : ∀ q, 45 ≤ q → A' q = A q) : SAm F' A' := by
  obtain ⟨s1, hA, ⟨v1, v2, v3, v4, v5⟩, g, r, hi, he⟩ := S
  have r18 : 0 ≤ (F 18).toInt ∧ (F 18).toInt ≤ 1 := s1 18
  have e29 := L.k29
  have e12 : ai A' 12 (F 18).toInt = ai A 12 (F 18).toInt := L 12 _ (by show 1 * _ ≤ _; omega) (by show _ < 1 * _ + 1; omega)
  have e19 : ai A' 19 (F 18).toInt = ai A 19 (F 18).toInt := L 19 _ (by show 1 * _ ≤ _; omega) (by show _ < 1 * _ + 1; omega)
  have b12 : 0 ≤ ai A 12 (F 18).toInt ∧ ai A 12 (F 18).toInt ≤ 12 := hA 12 _ r18.1
  have b19 : 0 ≤ ai A 19 (F 18).toInt ∧ ai A 19 (F 18).toInt ≤ 6 := hA 19 _ r18.1
  have b29 : 0 ≤ ai A 29 (F 18).toInt ∧ ai A 29 (F 18).toInt ≤ 6 := hA 29 _ r18.1
  have sv : ∀ {t q}, SVm F A t q → SVm F' A' t q := fun v => v.ls hA L r18.1 e18
  have e34 : ∀ m, 0 ≤ m → m < 6 → ai A' 34 (6 * (F 18).toInt + m) = ai A 34 (6 * (F 18).toInt + m) := fun m h0 h1 => L 34 _ (by show 6 * _ ≤ _; omega) (by show _ < 6 * _ + 6; omega)
  have e35 : ∀ m, 0 ≤ m → m < 6 → ai A' 35 (6 * (F 18).toInt + m) = ai A 35 (6 * (F 18).toInt + m) := fun m h0 h1 => L 35 _ (by show 6 * _ ≤ _; omega) (by show _ < 6 * _ + 6; omega)
  have e50 : ∀ q, q = 36 ∨ q = 37 ∨ q = 38 ∨ q = 39 ∨ q = 40 → ∀ b, 50 * (F 18).toInt ≤ b → b < 50 * (F 18).toInt + 50 → ai A' q b = ai A q b := fun q hq b h0 h1 => by
    rcases hq with rfl | rfl | rfl | rfl | rfl <;> exact L _ _ (by show 50 * _ ≤ _; omega) (by show _ < 50 * _ + 50; omega)
  have e420 : ∀ i, 420 * (F 18).toInt ≤ i → i < 420 * (F 18).toInt + 420 → ai A' 42 i = ai A 42 i ∧ ai A' 43 i = ai A 43 i := fun i h0 h1 => ⟨L 42 _ (by show 420 * _ ≤ _; omega) (by show _ < 420 * _ + 420; omega), L 43 _ (by show 420 * _ ≤ _; omega) (by show _ < 420 * _ + 420; omega)⟩
  refine ⟨hF, hA', ?_, ?_, ?_, ?_, ?_⟩
  · unfold VMs
    rw [e18]
    refine ⟨fun d h0 h1 => ?_, fun m h0 h1 => ?_, fun t h0 h1 => ?_, fun t q h0 h1 h2 h3 => ?_, fun m h0 h1 b h2 h3 => ?_⟩
    · rw [e12] at h1
      rw [L 13 _ (by show 12 * _ ≤ _; omega) (by show _ < 12 * _ + 12; omega), L 14 _ (by show 12 * _ ≤ _; omega) (by show _ < 12 * _ + 12; omega)]
      exact v1 d h0 h1
    · rw [e29] at h1
      rw [L 30 _ (by show 6 * _ ≤ _; omega) (by show _ < 6 * _ + 6; omega)]
      exact v2 m h0 h1
    · rw [e19] at h1
      rw [L 20 _ (by show 6 * _ ≤ _; omega) (by show _ < 6 * _ + 6; omega)]
      exact v3 t h0 h1
    · rw [e19] at h1
      have b22 : 0 ≤ ai A 22 (6 * (F 18).toInt + t) ∧ ai A 22 (6 * (F 18).toInt + t) ≤ 6 := hA 22 _ (by omega)
      rw [L 22 _ (by show 6 * _ ≤ _; omega) (by show _ < 6 * _ + 6; omega)] at h3
      rw [L 28 _ (by show 36 * _ ≤ _; omega) (by show _ < 36 * _ + 36; omega)]
      exact v4 t q h0 h1 h2 h3
    · rw [e29] at h1
      rw [e34 m h0 (by omega)] at h2
      rw [e35 m h0 (by omega)] at h3
      obtain ⟨g1, g2, g3, g4, g5⟩ := g m h0 h1 b h2 h3
      have w := v5 m h0 h1 b h2 h3
      unfold LWm
      rw [e50 36 (by omega) b g1 g2, e50 37 (by omega) b g1 g2, e50 38 (by omega) b g1 g2, e50 39 (by omega) b g1 g2, e50 40 (by omega) b g1 g2]
      have w2 := w.2.2.1
      refine ⟨fun e => ?_, w.2.rg (fun i p q => e420 i (by omega) (by omega))⟩
      obtain ⟨w3, w4⟩ := w.1 e
      have w5 := w4.2.1
      have w6 := w3.2.1
      have g6 := g5 e
      exact ⟨w3.rg (fun i p q => e420 i (by omega) (by omega)), w4.rg (fun i p q => e420 i (by omega) (by omega))⟩
  · intro m h0 h1 b h2 h3
    rw [e18] at h1 h2 h3 ⊢
    rw [e29] at h1
    rw [e34 m h0 (by omega)] at h2
    rw [e35 m h0 (by omega)] at h3
    obtain ⟨g1, g2, g3, g4, g5⟩ := g m h0 h1 b h2 h3
    rw [e50 36 (by omega) b g1 g2, e50 37 (by omega) b g1 g2, e50 39 (by omega) b g1 g2, e50 40 (by omega) b g1 g2]
    exact ⟨g1, g2, g3, g4, g5⟩
  · rw [e18, e29]
    intro m h0 h1
    rw [ai_fr (o 47 (by decide))]
    exact fun h => sv (r m h0 h1 h)
  · rw [e18, e29]
    intro u h0 h1 m m0 m1
    rw [e74] at h1
    rw [ai_fr (o 57 (by decide))]
    exact fun h => sv (hi u h0 h1 m m0 m1 h)
  · rw [e18, e29]
    intro u h0 h1 h2 m m0 m1
    rw [ai_fr (o 61 (by decide))] at h2
    rw [ai_fr (o 62 (by decide))]
    exact fun h => sv (he u h0 h1 h2 m m0 m1 h)
/-- a text without a fault -/
theorem SAm.new (R : RDm l s F0 F A0 A) (hs : 0 ≤ s ∧ s ≤ 1) (z13 : (F 13).toInt = 0) (z15 : (F 15).toInt = 0) (hF : IFm F') (hA' : IAm A') (e18 : (F' 18).toInt = s) (z74 : (F' 74).toInt = 0) (o : ∀ q, q ≤ 44 → A' q = A q) (r47 : RVm F' A' 47 (ai A' 29 s)) (z61 : ∀ i, 0 ≤ i → i < 3 → ai A' 61 i = 0) : SAm F' A' := by
  obtain ⟨a1, a2, a3, a4, a5, a6, ⟨c1, c2, c3⟩, a8, a9, a10, a11, a12⟩ := R
  obtain ⟨b1, b2, b3⟩ := a9.resolve_left (by omega)
  obtain ⟨x1, x2, x3, x4⟩ := (a10.resolve_left (by omega)).resolve_left (by omega)
  have b29 : 0 ≤ ai A 29 s ∧ ai A 29 s ≤ 6 := a2 29 _ hs.1
  have b33 : 0 ≤ ai A 33 s ∧ ai A 33 s ≤ 8 := a2 33 _ hs.1
  have r11 : 0 ≤ (F 11).toInt ∧ (F 11).toInt ≤ 400 := a1 11
  have kk : ∀ q, q ≤ 44 → ai A' q = ai A q := fun q hq => ai_fr (o q hq)
  refine ⟨hF, hA', ?_, ?_, by rw [e18]; exact r47, fun u h0 h1 => absurd h1 (by omega), fun u h0 h1 h2 => absurd h2 (by rw [z61 u h0 h1]; decide)⟩
  · unfold VMs
    rw [e18]
    refine ⟨?_, ?_, ?_, ?_, fun m h0 h1 b h2 h3 => ?_⟩
    · rw [kk 12 (by decide), kk 13 (by decide), kk 14 (by decide)]
      exact x1
    · rw [kk 29 (by decide), kk 30 (by decide)]
      exact fun m h0 h1 => (x4 m h0 h1).1
    · rw [kk 19 (by decide), kk 20 (by decide)]
      exact x2
    · rw [kk 19 (by decide), kk 22 (by decide), kk 28 (by decide)]
      exact x3
    · rw [kk 29 (by decide)] at h1
      rw [kk 34 (by decide)] at h2
      rw [kk 35 (by decide)] at h3
      obtain ⟨p1, p2⟩ := b3 m h0 (by omega) b h2 h3
      exact ((b2 b p1 p2).1.fr (fun q _ h _ => o q (by omega))).1
  · intro m h0 h1 b h2 h3
    rw [e18] at h1 h2 h3 ⊢
    rw [kk 29 (by decide)] at h1
    rw [kk 34 (by decide)] at h2
    rw [kk 35 (by decide)] at h3
    obtain ⟨p1, p2⟩ := b3 m h0 (by omega) b h2 h3
    obtain ⟨⟨_, y1, y2⟩, y3⟩ := b2 b p1 p2
    rw [kk 36 (by decide), kk 37 (by decide), kk 39 (by decide), kk 40 (by decide)]
    exact ⟨p1, by omega, y1, by omega, y2⟩
theorem s_d_read_322 {P : Int32 × (Nat → Int32) × (Nat → Nat → Int32) × (Nat → Nat → Int64) → Prop} : ∀ {n : Nat} {A : Nat → Nat → Int32} {J : Nat → Nat → Int64} {x1 : Int32}, IAm A → (∀ i, 0 ≤ i → i < x1.toInt → ai A 61 i = 0) → 0 ≤ x1.toInt ∧ x1.toInt ≤ 3 → 4 - x1.toInt < (n : Int) → (∀ A' J', IAm A' → (∀ q, q ≠ 61 → A' q = A q) → (∀ i, 0 ≤ i → i < 3 → ai A' 61 i = 0) → P (0, F, A', J')) → ok (d_read_322 n F A J x1) P := by
  intro n
  induction n with
  | zero => intro A J x1 hA hz hx hn; exact absurd hn (by omega)
  | succ n ih =>
    intro A J x1 hA hz hx hn hP
    have l1 : (1 : Int32).toInt = 1 := by decide
    have l3 : (3 : Int32).toInt = 3 := by decide
    unfold d_read_322
    refine ok_cond (fun c => ?_) (fun c => ?_)
    · rw [i_ge] at c
      exact ok_some (hP A J hA (fun _ _ => rfl) (fun i h0 h1 => hz i h0 (by omega)))
    · rw [i_nge] at c
      have e := i_add (x := x1) (y := 1) (by omega) (by omega)
      refine ok_st (j := 61) hA (by omega) (by omega) (show 0 ≤ (vp_nar .boolean 0).toInt ∧ (vp_nar .boolean 0).toInt ≤ 1 by decide) ?_
      intro A2 a2 o2 s2 n2
      refine ih a2 (fun i h0 h1 => ?_) (by omega) (by omega) (fun A' J' h1 h2 h3 => hP A' J' h1 (fun q hq => (h2 q hq).trans (o2 q hq)) h3)
      by_cases z : i = x1.toInt
      · rw [z, s2]; decide
      · rw [n2 i h0 z]; exact hz i h0 (by omega)
def RPm (r : Int32 × (Nat → Int32) × (Nat → Nat → Int32) × (Nat → Nat → Int64)) : Prop := SAm r.2.1 r.2.2.1 ∧ (r.2.1 2).toInt = 0
theorem s_d_read_271 {s1 : Int32} (hs : 0 ≤ s ∧ s ≤ 1 ∧ s = 1 - l) (S : SAm F0 A0) (e0 : (F0 18).toInt = l) (h2 : (F 2).toInt = 0) (R : RDm l s F F' A0 A') (f18 : F 18 = F0 18) (f74 : F 74 = F0 74) (hn : 400 ≤ n) : ok (d_read_271 n F' A' J s1) RPm := by
  have R' := R
  obtain ⟨a1, a2, a3, a4, a5, a6, a7, a8, a9, a10, a11, a12⟩ := R'
  have r13 : 0 ≤ (F' 13).toInt ∧ (F' 13).toInt ≤ 5 := a1 13
  have r15 : 0 ≤ (F' 15).toInt ∧ (F' 15).toInt ≤ 5 := a1 15
  have l0 : (0 : Int32).toInt = 0 := by decide
  unfold d_read_271
  refine ok_pf a1 trivial ?_
  intro F3 hF3 k3 o3
  have g13 : F3 13 = F' 13 := o3 13 (by decide)
  have g15 : F3 15 = F' 15 := o3 15 (by decide)
  have g2 : F3 2 = F 2 := (o3 2 (by decide)).trans (a11 2 (by decide))
  have g18 : F3 18 = F0 18 := (o3 18 (by decide)).trans ((a11 18 (by decide)).trans f18)
  have g74 : F3 74 = F0 74 := (o3 74 (by decide)).trans ((a11 74 (by decide)).trans f74)
  have bad : ∀ {v : Int32}, ok (some (v, F3, A', J)) RPm := fun {v} => ok_some ⟨S.keep hF3 a2 (by rw [e0]; exact a6) g18 g74 a12, (show (F3 2).toInt = 0 by rw [g2]; exact h2)⟩
  refine ok_cond (fun c1 => ?_) (fun _ => bad)
  rw [i_le] at c1
  refine ok_cond (fun c2 => ?_) (fun _ => bad)
  rw [i_le] at c2
  have g19 : F3 19 = F' 19 := o3 19 (by decide)
  refine ok_pf hF3 (show 0 ≤ (F3 19).toInt ∧ (F3 19).toInt ≤ 1 from hF3 19) ?_
  intro F4 hF4 k4 o4
  have e18 : (F4 18).toInt = s := by rw [k4, g19]; exact a4
  have z13 : (F' 13).toInt = 0 := by rw [g13] at c1; omega
  have z15 : (F' 15).toInt = 0 := by rw [g15] at c2; omega
  have X := (a10.resolve_left (by omega)).resolve_left (by omega)
  refine ok_call (s_d_begins (k := ai A' 29 (F4 18).toInt) hF4 a2 rfl (by rw [e18]; exact X.2.2.2) (by omega)) ?_
  rintro ⟨u, F5, A5, J5⟩ ⟨q1, q2, q3, q4⟩
  dsimp only at q1 q2 q3 q4 ⊢
  subst q1
  refine ok_pf hF4 (show 0 ≤ (0 : Int32).toInt ∧ (0 : Int32).toInt ≤ 20 by decide) ?_
  intro F6 hF6 k6 o6
  refine ok_pf hF6 (show 0 ≤ (0 : Int32).toInt ∧ (0 : Int32).toInt ≤ 30 by decide) ?_
  intro F7 hF7 k7 o7
  refine s_d_read_322 q2 (fun i h0 h1 => absurd h1 (by omega)) (by decide) (by omega) ?_
  intro A8 J8 w1 w2 w3
  have e7 : F7 18 = F5 18 := (o7 18 (by decide)).trans (o6 18 (by decide))
  have e29 : ai A8 29 = ai A' 29 := (ai_fr (w2 29 (by decide))).trans (ai_fr (q3 29 (by decide)))
  show SAm F7 A8 ∧ (F7 2).toInt = 0
  refine ⟨SAm.new R ⟨hs.1, hs.2.1⟩ z13 z15 hF7 w1 (by rw [e7]; exact e18) (by rw [o7 74 (by decide), k6]; decide) (fun q hq => (w2 q (by omega)).trans (q3 q (by omega))) ?_ w3, ?_⟩
  · rw [e29, ← e18]
    exact q4.cg e7 (w2 19 (by decide)) (w2 22 (by decide)) (fun m _ _ => by rw [ai_fr (w2 47 (by decide))]; exact ⟨rfl, rfl⟩)
  · show (F7 2).toInt = 0
    rw [o7 2 (by decide), o6 2 (by decide), o4 2 (by decide), g2]
    exact h2
theorem s_d_read_219 (hs : 0 ≤ s ∧ s ≤ 1 ∧ s = 1 - l) (S : SAm F0 A0) (e0 : (F0 18).toInt = l) (h2 : (F 2).toInt = 0) (f18 : F 18 = F0 18) (f74 : F 74 = F0 74) : ∀ {n : Nat} {F' : Nat → Int32} {A' : Nat → Nat → Int32} {J : Nat → Nat → Int64}, RDm l s F F' A0 A' → ((1 ≤ (F' 13).toInt ∧ 500 ≤ n) ∨ 1500 - (F' 11).toInt < (n : Int)) → ok (d_read_219 n F' A' J) RPm := by
  intro n
  induction n with
  | zero =>
    intro F' A' J R hn
    have r11 : 0 ≤ (F' 11).toInt ∧ (F' 11).toInt ≤ 400 := R.1 11
    exact absurd hn (by omega)
  | succ n ih =>
    intro F' A' J R hn
    have r11 : 0 ≤ (F' 11).toInt ∧ (F' 11).toInt ≤ 400 := R.1 11
    have r13 : 0 ≤ (F' 13).toInt ∧ (F' 13).toInt ≤ 5 := R.1 13
    have l0 : (0 : Int32).toInt = 0 := by decide
    have go : ok (d_read_241 n F' A' J) RPm := by
      unfold d_read_241
      refine ok_cond (fun _ => ok_cond (fun _ => ?_) (fun _ => ?_)) (fun _ => ?_) <;> exact s_d_read_271 hs S e0 h2 R f18 f74 (by omega)
    unfold d_read_219
    refine ok_cond (fun _ => go) (fun c1 => ?_)
    rw [i_nne] at c1
    refine ok_call (s_d_is R.1 R.2.1) ?_
    intro v p
    refine ok_cond (fun _ => go) (fun c2 => ?_)
    refine ok_call (s_d_tell0 hs R (by omega) (by omega)) ?_
    rintro ⟨u, F2, A2, J2⟩ ⟨T1, T2⟩
    dsimp only at T1 T2 ⊢
    exact ih T1 (by omega)
end SA
end Qz73
section Qz74
section SB
variable {F F0 : Nat → Int32} {A0 : Nat → Nat → Int32} {l s : Int}
theorem s_d_read_177 (hs : 0 ≤ s ∧ s ≤ 1 ∧ s = 1 - l) (S : SAm F0 A0) (e0 : (F0 18).toInt = l) (hF : IFm F) (h2 : (F 2).toInt = 0) (f18 : F 18 = F0 18) (f74 : F 74 = F0 74) (e19 : (F 19).toInt = s) (z11 : (F 11).toInt = 0) (z12 : (F 12).toInt = 0) (z13 : (F 13).toInt = 0) (z15 : (F 15).toInt = 0) (z20 : (F 20).toInt = 0) (z49 : (F 49).toInt = 50 * s) (z56 : (F 56).toInt = 420 * s) : ∀ {n : Nat} {A : Nat → Nat → Int32} {J : Nat → Nat → Int64} {x1 : Int32}, IAm A → LSm l A0 A → (∀ q, q = 11 ∨ q = 12 ∨ q = 17 ∨ q = 19 ∨ q = 29 ∨ q = 33 → ai A q s = 0) → (∀ q, 45 ≤ q → A q = A0 q) → (∀ k, 0 ≤ k → k < x1.toInt → ai A 34 (6 * s + k) = 0 ∧ ai A 35 (6 * s + k) = 0) → 0 ≤ x1.toInt ∧ x1.toInt ≤ 6 → 1510 - x1.toInt < (n : Int) → ok (d_read_177 n F A J x1) RPm := by
  intro n
  induction n with
  | zero => intro A J x1 hA L z o lw hx hn; exact absurd hn (by omega)
  | succ n ih =>
    intro A J x1 hA L z o lw hx hn
    have l1 : (1 : Int32).toInt = 1 := by decide
    have l6 : (6 : Int32).toInt = 6 := by decide
    have l0 : (0 : Int32).toInt = 0 := by decide
    unfold d_read_177
    refine ok_cond (fun c => ?_) (fun c => ?_)
    · rw [i_ge] at c
      have zA := z 11 (by omega)
      have zB := z 12 (by omega)
      have zC := z 17 (by omega)
      have zD := z 19 (by omega)
      have zE := z 29 (by omega)
      have zG := z 33 (by omega)
      refine s_d_read_219 hs S e0 h2 f18 f74 ⟨hF, hA, by rw [f18]; exact e0, e19, ⟨fun q h0 h1 => absurd h1 (by omega), ?_⟩, L, ⟨by omega, by omega, .inr ⟨z12, by omega⟩⟩, .inr (by omega), .inr ⟨by omega, fun b p q => absurd q (by omega), fun m m0 m1 b p q => ?_⟩, .inr (.inr ⟨fun d h0 h1 => absurd h1 (by omega), fun t h0 h1 => absurd h1 (by omega), fun t q h0 h1 => absurd h1 (by omega), fun m h0 h1 => absurd h1 (by omega)⟩), fun _ _ => rfl, o⟩ (.inr (by omega))
      · unfold CTm
        rw [e19]
        omega
      · have := lw m m0 (by omega)
        omega
    · rw [i_nge] at c
      have e1 := i_mulL (c := 6) (k := 6) (x := F 19) (by decide) (by omega) (by omega)
      have e2 := i_add (x := 6 * F 19) (y := x1) (by omega) (by omega)
      have e3 := i_add (x := x1) (y := 1) (by omega) (by omega)
      refine ok_st (j := 34) hA (by omega) (by omega) (show 0 ≤ (0 : Int32).toInt ∧ (0 : Int32).toInt ≤ 100 by decide) ?_
      intro A2 a2 o2 s2 n2
      refine ok_st (j := 35) a2 (by omega) (by omega) (show 0 ≤ (0 : Int32).toInt ∧ (0 : Int32).toInt ≤ 100 by decide) ?_
      intro A3 a3 o3 s3 n3
      have zz : (6 * F 19 + x1).toInt = 6 * s + x1.toInt := by omega
      rw [zz] at s2 n2 s3 n3
      have L2 : LSm l A0 A2 := L.st (by omega) 6 rfl o2 n2 ⟨by omega, by omega⟩ (by omega)
      have L3 : LSm l A0 A3 := L2.st (by omega) 6 rfl o3 n3 ⟨by omega, by omega⟩ (by omega)
      refine ih a3 L3 (fun q hq => by rw [ai_fr (o3 q (by omega)), ai_fr (o2 q (by omega))]; exact z q hq) (fun q hq => (o3 q (by omega)).trans ((o2 q (by omega)).trans (o q hq))) (fun k h0 h1 => ?_) (by omega) (by omega)
      rw [ai_fr (o3 34 (by decide))]
      by_cases e : k = x1.toInt
      · rw [e]
        exact ⟨s2.trans l0, s3.trans l0⟩
      · rw [n2 _ (by omega) (by omega), n3 _ (by omega) (by omega), ai_fr (o2 35 (by decide))]
        exact lw k h0 (by omega)
theorem s_d_read_10 (S : SAm F0 A0) (hF : IFm F) (f18 : F 18 = F0 18) (f74 : F 74 = F0 74) : ∀ {n : Nat} {A : Nat → Nat → Int32} {J : Nat → Nat → Int64} {x1 : Int32}, IAm A → (∀ q, q ≠ 2 → A q = A0 q) → 0 ≤ x1.toInt ∧ x1.toInt ≤ 2000 → 12000 - x1.toInt < (n : Int) → ok (d_read_10 n F A J x1) RPm := by
  intro n
  induction n with
  | zero => intro A J x1 hA o hx hn; exact absurd hn (by omega)
  | succ n ih =>
    intro A J x1 hA o hx hn
    have r4 : 0 ≤ (F 4).toInt ∧ (F 4).toInt ≤ 2000 := hF 4
    have r18 : 0 ≤ (F 18).toInt ∧ (F 18).toInt ≤ 1 := hF 18
    have l1 : (1 : Int32).toInt = 1 := by decide
    have l0 : (0 : Int32).toInt = 0 := by decide
    unfold d_read_10
    refine ok_cond (fun c => ?_) (fun c => ?_)
    · refine ok_pf hF (show 0 ≤ (0 : Int32).toInt ∧ (0 : Int32).toInt ≤ 2000 by decide) ?_
      intro F3 b3 k3 p3
      refine ok_call (s_d_cut b3 hA (by omega)) ?_
      rintro ⟨u, F5, A5, J5⟩ ⟨b5, a5, p5, o5, -⟩
      dsimp only at b5 a5 p5 o5 ⊢
      refine ok_pf b5 (show 0 ≤ (0 : Int32).toInt ∧ (0 : Int32).toInt ≤ 400 by decide) ?_
      intro F6 b6 k6 p6
      refine ok_pf b6 (show 0 ≤ (0 : Int32).toInt ∧ (0 : Int32).toInt ≤ 7 by decide) ?_
      intro F7 b7 k7 p7
      refine ok_pf b7 (show 0 ≤ (0 : Int32).toInt ∧ (0 : Int32).toInt ≤ 5 by decide) ?_
      intro F8 b8 k8 p8
      refine ok_pf b8 (show 0 ≤ (0 : Int32).toInt ∧ (0 : Int32).toInt ≤ 5 by decide) ?_
      intro F9 b9 k9 p9
      have g18 : F9 18 = F 18 := (p9 18 (by decide)).trans ((p8 18 (by decide)).trans ((p7 18 (by decide)).trans ((p6 18 (by decide)).trans ((p5 18 (by decide)).trans (p3 18 (by decide))))))
      have e1 := i_sub (x := 1) (y := F9 18) (by rw [g18]; omega) (by rw [g18]; omega)
      rw [g18] at e1
      refine ok_pf b9 (show 0 ≤ (1 - F9 18).toInt ∧ (1 - F9 18).toInt ≤ 1 by rw [g18]; omega) ?_
      intro F10 b10 k10 p10
      refine ok_pf b10 (show 0 ≤ (0 : Int32).toInt ∧ (0 : Int32).toInt ≤ 32 by decide) ?_
      intro F11 b11 k11 p11
      have x19 : (F11 19).toInt = 1 - (F 18).toInt := by rw [p11 19 (by decide), k10, g18]; omega
      refine ok_st (j := 11) a5 (by omega) (by omega) (show 0 ≤ (0 : Int32).toInt ∧ (0 : Int32).toInt ≤ 8 by decide) ?_
      intro A6 a6 o6 s6 n6
      refine ok_st (j := 12) a6 (by omega) (by omega) (show 0 ≤ (0 : Int32).toInt ∧ (0 : Int32).toInt ≤ 12 by decide) ?_
      intro A7 a7 o7 s7 n7
      refine ok_st (j := 17) a7 (by omega) (by omega) (show 0 ≤ (0 : Int32).toInt ∧ (0 : Int32).toInt ≤ 6 by decide) ?_
      intro A8 a8 o8 s8 n8
      refine ok_st (j := 19) a8 (by omega) (by omega) (show 0 ≤ (0 : Int32).toInt ∧ (0 : Int32).toInt ≤ 6 by decide) ?_
      intro A9 a9 o9 s9 n9
      refine ok_st (j := 29) a9 (by omega) (by omega) (show 0 ≤ (0 : Int32).toInt ∧ (0 : Int32).toInt ≤ 6 by decide) ?_
      intro A10 a10 o10 s10 n10
      refine ok_st (j := 33) a10 (by omega) (by omega) (show 0 ≤ (0 : Int32).toInt ∧ (0 : Int32).toInt ≤ 8 by decide) ?_
      intro A11 a11 o11 s11 n11
      refine ok_st (j := 41) a11 (by omega) (by omega) (show 0 ≤ (480 : Int32).toInt ∧ (480 : Int32).toInt ≤ 9999 by decide) ?_
      intro A12 a12 o12 s12 n12
      have e2 := i_mulL (c := 50) (k := 50) (x := F11 19) (by decide) (by omega) (by omega)
      refine ok_pf b11 (show 0 ≤ (50 * F11 19).toInt ∧ (50 * F11 19).toInt ≤ 100 by omega) ?_
      intro F12 b12 k12 p12
      have y19 : (F12 19).toInt = 1 - (F 18).toInt := by rw [p12 19 (by decide)]; exact x19
      have e3 := i_mulL (c := 420) (k := 420) (x := F12 19) (by decide) (by omega) (by omega)
      refine ok_pf b12 (show 0 ≤ (420 * F12 19).toInt ∧ (420 * F12 19).toInt ≤ 840 by omega) ?_
      intro F13 b13 k13 p13
      have L5 : LSm (F 18).toInt A0 A5 := ((LSm.rfl' (F 18).toInt A0).fr [2] (fun q hq => o q (fun e => hq (by rw [e]; decide))) (by decide)).fr [3, 4, 5] o5 (by decide)
      have L6 := L5.st r18.1 1 rfl o6 n6 ⟨by omega, by omega⟩ (by omega)
      have L7 := L6.st r18.1 1 rfl o7 n7 ⟨by omega, by omega⟩ (by omega)
      have L8 := L7.st r18.1 1 rfl o8 n8 ⟨by omega, by omega⟩ (by omega)
      have L9 := L8.st r18.1 1 rfl o9 n9 ⟨by omega, by omega⟩ (by omega)
      have L10 := L9.st r18.1 1 rfl o10 n10 ⟨by omega, by omega⟩ (by omega)
      have L11 := L10.st r18.1 1 rfl o11 n11 ⟨by omega, by omega⟩ (by omega)
      have L12 := L11.st r18.1 1 rfl o12 n12 ⟨by omega, by omega⟩ (by omega)
      have fr : ∀ q, q ∉ ([11, 12, 13, 15, 19, 20, 49, 56] : List Nat) → F13 q = F5 q := fun q hq => (p13 q (fun e => hq (by rw [e]; decide))).trans ((p12 q (fun e => hq (by rw [e]; decide))).trans ((p11 q (fun e => hq (by rw [e]; decide))).trans ((p10 q (fun e => hq (by rw [e]; decide))).trans ((p9 q (fun e => hq (by rw [e]; decide))).trans ((p8 q (fun e => hq (by rw [e]; decide))).trans ((p7 q (fun e => hq (by rw [e]; decide))).trans (p6 q (fun e => hq (by rw [e]; decide)))))))))
      have oA : ∀ q, q ∉ ([11, 12, 17, 19, 29, 33, 41] : List Nat) → A12 q = A5 q := fun q hq => (o12 q (fun e => hq (by rw [e]; decide))).trans ((o11 q (fun e => hq (by rw [e]; decide))).trans ((o10 q (fun e => hq (by rw [e]; decide))).trans ((o9 q (fun e => hq (by rw [e]; decide))).trans ((o8 q (fun e => hq (by rw [e]; decide))).trans ((o7 q (fun e => hq (by rw [e]; decide))).trans (o6 q (fun e => hq (by rw [e]; decide))))))))
      rw [x19, l0] at s6 s7 s8 s9 s10 s11
      have v11 : ai A12 11 (1 - (F 18).toInt) = 0 := by rw [ai_fr (o12 11 (by decide)), ai_fr (o11 11 (by decide)), ai_fr (o10 11 (by decide)), ai_fr (o9 11 (by decide)), ai_fr (o8 11 (by decide)), ai_fr (o7 11 (by decide))]; exact s6
      have v12 : ai A12 12 (1 - (F 18).toInt) = 0 := by rw [ai_fr (o12 12 (by decide)), ai_fr (o11 12 (by decide)), ai_fr (o10 12 (by decide)), ai_fr (o9 12 (by decide)), ai_fr (o8 12 (by decide))]; exact s7
      have v17 : ai A12 17 (1 - (F 18).toInt) = 0 := by rw [ai_fr (o12 17 (by decide)), ai_fr (o11 17 (by decide)), ai_fr (o10 17 (by decide)), ai_fr (o9 17 (by decide))]; exact s8
      have v19 : ai A12 19 (1 - (F 18).toInt) = 0 := by rw [ai_fr (o12 19 (by decide)), ai_fr (o11 19 (by decide)), ai_fr (o10 19 (by decide))]; exact s9
      have v29 : ai A12 29 (1 - (F 18).toInt) = 0 := by rw [ai_fr (o12 29 (by decide)), ai_fr (o11 29 (by decide))]; exact s10
      have v33 : ai A12 33 (1 - (F 18).toInt) = 0 := by rw [ai_fr (o12 33 (by decide))]; exact s11
      refine s_d_read_177 (l := (F 18).toInt) (s := 1 - (F 18).toInt) ⟨by omega, by omega, rfl⟩ S (by rw [f18]) b13 ?_ ?_ ?_ ?_ ?_ ?_ ?_ ?_ ?_ ?_ ?_ a12 L12 ?_ ?_ (fun k h0 h1 => absurd h1 (by omega)) (by decide) (by omega)
      · rw [fr 2 (by decide), p5 2 (by decide), k3]; exact l0
      · exact (fr 18 (by decide)).trans ((p5 18 (by decide)).trans ((p3 18 (by decide)).trans f18))
      · exact (fr 74 (by decide)).trans ((p5 74 (by decide)).trans ((p3 74 (by decide)).trans f74))
      · rw [p13 19 (by decide)]; exact y19
      · rw [p13 11 (by decide), p12 11 (by decide), p11 11 (by decide), p10 11 (by decide), p9 11 (by decide), p8 11 (by decide), p7 11 (by decide), k6]; exact l0
      · rw [p13 12 (by decide), p12 12 (by decide), p11 12 (by decide), p10 12 (by decide), p9 12 (by decide), p8 12 (by decide), k7]; exact l0
      · rw [p13 13 (by decide), p12 13 (by decide), p11 13 (by decide), p10 13 (by decide), p9 13 (by decide), k8]; exact l0
      · rw [p13 15 (by decide), p12 15 (by decide), p11 15 (by decide), p10 15 (by decide), k9]; exact l0
      · rw [p13 20 (by decide), p12 20 (by decide), k11]; exact l0
      · rw [p13 49 (by decide), k12]; omega
      · rw [k13]; omega
      · intro q hq
        rcases hq with rfl | rfl | rfl | rfl | rfl | rfl
        · exact v11
        · exact v12
        · exact v17
        · exact v19
        · exact v29
        · exact v33
      · intro q hq
        exact (oA q (by simp; omega)).trans ((o5 q (by simp; omega)).trans (o q (by omega)))
    · rw [i_nge] at c
      have e3 := i_add (x := x1) (y := 1) (by omega) (by omega)
      refine ok_ld (j := 1) hA (by omega) (by omega) ?_
      intro v _ _
      refine ok_st (j := 2) hA (by omega) (by omega) trivial ?_
      intro A2 a2 o2 s2 n2
      exact ih a2 (fun q hq => (o2 q hq).trans (o q hq)) (by omega) (by omega)
theorem s_d_read {A : Nat → Nat → Int32} {J : Nat → Nat → Int64} {n : Nat} (S : SAm F A) (hn : 12100 ≤ n) : ok (d_read n F A J) RPm := by
  have l0 : (0 : Int32).toInt = 0 := by decide
  unfold d_read
  refine ok_pf S.1 (show 0 ≤ (F 2).toInt ∧ (F 2).toInt ≤ 2000 from S.1 2) ?_
  intro F1 b1 k1 p1
  exact s_d_read_10 S b1 (p1 18 (by decide)) (p1 74 (by decide)) S.2.1 (fun _ _ => rfl) (by decide) (by omega)
end SB
end Qz74
section Qz75
/-! the class's rows and fields by values: what holds of each at every time -/
def ci (A : Nat → Nat → Nat → Int32) (r o : Nat) (i : Int) : Int := (A r o i.toNat).toInt
def cf (F : Nat → Nat → Int32) (r k : Nat) : Int := (F r k).toInt
/-- fields, by kind and key -/
def rFc (K k : Nat) (v : Int) : Prop := match K with
  | 0 => (match k with | 10 => 0 ≤ v ∧ v ≤ 7 | _ => True)
  | 1 => (match k with | 1 => 0 ≤ v ∧ v ≤ 2000 | _ => True)
  | 3 => (match k with | 1 => 0 ≤ v ∧ v ≤ 19 | 2 => 0 ≤ v ∧ v ≤ 20 | _ => True)
  | 4 => (match k with | 2 => 0 ≤ v ∧ v ≤ 30 | _ => True)
  | 6 => (match k with | 13 => 0 ≤ v ∧ v ≤ 8 | 14 => 0 ≤ v ∧ v ≤ 12 | 15 => 0 ≤ v ∧ v ≤ 6 | 16 => 0 ≤ v ∧ v ≤ 6 | 17 => 0 ≤ v ∧ v ≤ 6 | 1304 => 0 ≤ v ∧ v ≤ 400 | _ => True)
  | 7 => (match k with | 15 => 0 ≤ v ∧ v ≤ 37 | _ => True)
  | 11 => (match k with | 7 => 0 ≤ v ∧ v ≤ 400 | 8 => 0 ≤ v ∧ v ≤ 400 | 9 => 0 ≤ v ∧ v ≤ 8 | 105 => 0 ≤ v ∧ v ≤ 2000 | _ => True)
  | _ => True
/-- rows, by kind and place -/
def rRc (K o : Nat) (v : Int) : Prop := match K with
  | 4 => (match o with | 1 => 0 ≤ v ∧ v ≤ 35 | _ => True)
  | 6 => (match o with | 1 => -1 ≤ v ∧ v ≤ 7 | 2 => -1 ≤ v ∧ v ≤ 7 | 4 => -1 ≤ v ∧ v ≤ 7 | 5 => 0 ≤ v ∧ v ≤ 6 | 10 => -2 ≤ v ∧ v ≤ 5 | 12 => -1 ≤ v ∧ v ≤ 7 | _ => True)
  | 10 => (match o with | 4 => -1 ≤ v ∧ v ≤ 5 | 5 => 0 ≤ v ∧ v ≤ 5 | _ => True)
  | _ => True
def Rc (F : Nat → Nat → Int32) (A : Nat → Nat → Nat → Int32) : Prop := (∀ r k, rFc (c_kind r) k (cf F r k)) ∧ (∀ r o i, 0 ≤ i → rRc (c_kind r) o (ci A r o i))
/-- a row has been written -/
def CUm (A A' : Nat → Nat → Nat → Int32) (r o : Nat) (i v : Int) : Prop := ci A' r o i = v ∧ (∀ j, 0 ≤ j → j ≠ i → ci A' r o j = ci A r o j) ∧ (∀ r' o', ¬ (r' = r ∧ o' = o) → A' r' o' = A r' o')
/-- a field has been written -/
def FUm (F F' : Nat → Nat → Int32) (r k : Nat) (x : Int32) : Prop := F' r k = x ∧ (∀ r' k', ¬ (r' = r ∧ k' = k) → F' r' k' = F r' k')
/-- what the past and the house in use rest on is as it was -/
def CSc (F F' : Nat → Nat → Int32) (A A' : Nat → Nat → Nat → Int32) : Prop := (∀ q, q = 27 ∨ q = 28 → (∀ k, F' q k = F q k) ∧ (∀ o, o ≠ 17 → A' q o = A q o)) ∧ (∀ r, c_kind r = 2 → r ≠ 3 → r ≠ 33 → A' r 3 = A r 3) ∧ (∀ k, F' 4 k = F 4 k) ∧ F' 0 10 = F 0 10 ∧ (∀ k, F' 1 k = F 1 k)
section C86
variable {P P' : Nat → Nat → Nat} {F F' F1 : Nat → Nat → Int32} {A A' A1 : Nat → Nat → Nat → Int32} {J : Nat → Nat → Nat → Int64} {β : Type} {Q : β → Prop} {r o k n : Nat} {i x : Int32}
theorem ci_fr {r' o' : Nat} (h : A' r' o' = A r' o') : ci A' r' o' = ci A r' o' := by
  funext i
  unfold ci
  rw [h]
theorem ok_cst {g : (Nat → Nat → Nat → Int32) → Option β} (h0 : 0 ≤ i.toInt) (h1 : i.toInt < (n : Int)) (kk : ∀ A', CUm A A' r o i.toInt x.toInt → ok (g A') Q) : ok ((c_st A r o n i x).bind g) Q := by
  unfold c_st
  rw [if_neg (i_in h0 h1)]
  refine kk _ ⟨?_, fun j hj hn => ?_, fun r' o' hn => ?_⟩
  · unfold ci
    rw [c_up_same, c_up_same]
    unfold upd
    have e : i.toInt.toNat = i.toNatClampNeg := rfl
    rw [if_pos e]
  · unfold ci
    rw [c_up_same, c_up_same]
    unfold upd
    have e : i.toNatClampNeg = i.toInt.toNat := rfl
    rw [if_neg (by rw [e]; omega)]
  · by_cases e : r' = r
    · subst e
      rw [c_up_same, c_up_ne (fun e => hn ⟨rfl, e⟩)]
    · rw [c_up_ne e]
theorem ok_cpf {g : (Nat → Nat → Int32) → Option β} (kk : ∀ F', FUm F F' r k x → ok (g F') Q) : ok ((c_pf F r k x).bind g) Q := by
  refine kk _ ⟨?_, fun r' k' hn => ?_⟩
  · rw [c_up_same]
    exact if_pos rfl
  · by_cases e : r' = r
    · subst e
      rw [c_up_same]
      exact if_neg (fun e => hn ⟨rfl, e⟩)
    · rw [c_up_ne e]
theorem ok_cpp {q : Nat} {g : (Nat → Nat → Nat) → Option β} (kk : ∀ P', P' r k = q → (∀ r' k', ¬ (r' = r ∧ k' = k) → P' r' k' = P r' k') → ok (g P') Q) : ok ((c_pp P r k q).bind g) Q := by
  refine kk _ ?_ (fun r' k' hn => ?_)
  · rw [c_up_same, c_up_same]
  · by_cases e : r' = r
    · subst e
      rw [c_up_same, c_up_ne (fun e => hn ⟨rfl, e⟩)]
    · rw [c_up_ne e]
theorem ok_chk {K q : Nat} {g : Nat → Option β} (h : c_kind q = K) (kk : ok (g q) Q) : ok ((c_chk K q).bind g) Q := by
  unfold c_chk
  rw [if_pos h]
  exact kk
theorem ok_car {b K : Nat} {g : Nat → Option β} (h0 : 0 ≤ i.toInt) (h1 : i.toInt < (n : Int)) (h : c_kind (b + i.toInt.toNat) = K) (kk : ok (g (b + i.toInt.toNat)) Q) : ok ((c_ar n b K i).bind g) Q := by
  unfold c_ar
  rw [if_neg (i_in h0 h1)]
  exact ok_chk h kk
theorem ok_ldc {K : Nat} {g : Int32 → Option β} (R : Rc F A) (hk : c_kind r = K) (h0 : 0 ≤ i.toInt) (h1 : i.toInt < (n : Int)) (kk : ∀ v : Int32, v.toInt = ci A r o i.toInt → rRc K o v.toInt → ok (g v) Q) : ok ((m_ld (A r o) n i).bind g) Q :=
  ok_ld0 h0 h1 (kk _ rfl (by have := R.2 r o i.toInt h0; rw [hk] at this; exact this))
theorem ok_cfi {g : (Nat → Nat → Nat → Int32) → Option β} (kk : ∀ A', (∀ j, 0 ≤ j → j < (n : Int) → ci A' r o j = x.toInt) → (∀ j, (n : Int) ≤ j → ci A' r o j = ci A r o j) → (∀ r' o', ¬ (r' = r ∧ o' = o) → A' r' o' = A r' o') → ok (g A') Q) : ok ((c_fi A r o n x).bind g) Q := by
  refine kk _ (fun j hj hn => ?_) (fun j hn => ?_) (fun r' o' hn => ?_)
  · unfold ci
    rw [c_up_same, c_up_same, if_pos (by omega)]
  · unfold ci
    rw [c_up_same, c_up_same, if_neg (by omega)]
  · by_cases e : r' = r
    · subst e
      rw [c_up_same, c_up_ne (fun e => hn ⟨rfl, e⟩)]
    · rw [c_up_ne e]
theorem Rc.st (R : Rc F A) {i v : Int} (U : CUm A A' r o i v) (hv : rRc (c_kind r) o v) : Rc F A' := by
  refine ⟨R.1, fun r' o' j hj => ?_⟩
  by_cases e : r' = r ∧ o' = o
  · obtain ⟨rfl, rfl⟩ := e
    by_cases z : j = i
    · rw [z, U.1]; exact hv
    · rw [U.2.1 j hj z]; exact R.2 _ _ j hj
  · rw [ci_fr (U.2.2 r' o' e)]
    exact R.2 r' o' j hj
theorem Rc.pf (R : Rc F A) (U : FUm F F' r k x) (hv : rFc (c_kind r) k x.toInt) : Rc F' A := by
  refine ⟨fun r' k' => ?_, R.2⟩
  unfold cf
  by_cases e : r' = r ∧ k' = k
  · obtain ⟨rfl, rfl⟩ := e
    rw [U.1]; exact hv
  · rw [U.2 r' k' e]
    exact R.1 r' k'
theorem Rc.fi (R : Rc F A) (h1 : ∀ j, 0 ≤ j → j < (n : Int) → ci A' r o j = x.toInt) (h2 : ∀ j, (n : Int) ≤ j → ci A' r o j = ci A r o j) (h3 : ∀ r' o', ¬ (r' = r ∧ o' = o) → A' r' o' = A r' o') (hv : rRc (c_kind r) o x.toInt) : Rc F A' := by
  refine ⟨R.1, fun r' o' j hj => ?_⟩
  by_cases e : r' = r ∧ o' = o
  · obtain ⟨rfl, rfl⟩ := e
    by_cases z : j < (n : Int)
    · rw [h1 j hj z]; exact hv
    · rw [h2 j (by omega)]; exact R.2 _ _ j hj
  · rw [ci_fr (h3 r' o' e)]
    exact R.2 r' o' j hj
theorem CSc.rfl' : CSc F F A A := ⟨fun _ _ => ⟨fun _ => rfl, fun _ _ => rfl⟩, fun _ _ _ _ => rfl, fun _ => rfl, rfl, fun _ => rfl⟩
theorem CSc.tr (h : CSc F F1 A A1) (h' : CSc F1 F' A1 A') : CSc F F' A A' := ⟨fun q hq => ⟨fun k => ((h'.1 q hq).1 k).trans ((h.1 q hq).1 k), fun o ho => ((h'.1 q hq).2 o ho).trans ((h.1 q hq).2 o ho)⟩, fun r a b c => (h'.2.1 r a b c).trans (h.2.1 r a b c), fun k => (h'.2.2.1 k).trans (h.2.2.1 k), h'.2.2.2.1.trans h.2.2.2.1, fun k => (h'.2.2.2.2 k).trans (h.2.2.2.2 k)⟩
/-- rows on which nothing rests -/
def tf (r o : Nat) : Prop := (c_kind r = 6 → o = 17) ∧ (c_kind r = 2 → o ≠ 3 ∨ r = 3 ∨ r = 33)
theorem CSc.st {i v : Int} (U : CUm A A' r o i v) (h : tf r o) : CSc F F A A' := by
  refine ⟨fun q hq => ⟨fun _ => rfl, fun o' ho => U.2.2 q o' ?_⟩, fun r' a b c => U.2.2 r' 3 ?_, fun _ => rfl, rfl, fun _ => rfl⟩
  · rintro ⟨rfl, rfl⟩
    exact ho (h.1 (by rcases hq with rfl | rfl <;> decide))
  · rintro ⟨rfl, e⟩
    rcases h.2 a with g | g | g
    · exact g e.symm
    · exact b g
    · exact c g
theorem CSc.fi (h3 : ∀ r' o', ¬ (r' = r ∧ o' = o) → A' r' o' = A r' o') (h : tf r o) : CSc F F A A' := by
  refine ⟨fun q hq => ⟨fun _ => rfl, fun o' ho => h3 q o' ?_⟩, fun r' a b c => h3 r' 3 ?_, fun _ => rfl, rfl, fun _ => rfl⟩
  · rintro ⟨rfl, rfl⟩
    exact ho (h.1 (by rcases hq with rfl | rfl <;> decide))
  · rintro ⟨rfl, e⟩
    rcases h.2 a with g | g | g
    · exact g e.symm
    · exact b g
    · exact c g
theorem CSc.pf (U : FUm F F' r k x) (h : c_kind r ≠ 6 ∧ r ≠ 4 ∧ (r ≠ 0 ∨ k ≠ 10) ∧ r ≠ 1) : CSc F F' A A := by
  refine ⟨fun q hq => ⟨fun k' => U.2 q k' ?_, fun _ _ => rfl⟩, fun _ _ _ _ => rfl, fun k' => U.2 4 k' ?_, U.2 0 10 ?_, fun k' => U.2 1 k' ?_⟩
  · rintro ⟨rfl, rfl⟩
    exact h.1 (by rcases hq with rfl | rfl <;> decide)
  · rintro ⟨rfl, rfl⟩
    exact h.2.1 rfl
  · rintro ⟨rfl, rfl⟩
    exact h.2.2.1.elim (fun e => e rfl) (fun e => e rfl)
  · rintro ⟨rfl, rfl⟩
    exact h.2.2.2 rfl
/-- the house in use -/
def HVc (F : Nat → Nat → Int32) (A : Nat → Nat → Nat → Int32) (q : Nat) : Prop := (∀ d, 0 ≤ d → d < cf F q 14 → 0 ≤ ci A q 1 d ∧ 0 ≤ ci A q 2 d) ∧ (∀ m, 0 ≤ m → m < cf F q 17 → 0 ≤ ci A q 12 m) ∧ (∀ t, 0 ≤ t → t < 6 → 0 < ci A q 5 t → 0 ≤ ci A q 4 t) ∧ (∀ t s, 0 ≤ t → t < 6 → 0 ≤ s → s < ci A q 5 t → ci A q 11 (t * 6 + s) ≤ 5) ∧ (∀ i, 0 ≤ i → i < cf F q 1304 → ci A q 15 i = 2 → 0 ≤ ci A q 16 i ∧ ci A q 16 i ≤ 5) ∧ 1 ≤ cf F q 18 ∧ cf F q 18 ≤ 600
/-- what men left, by the house q -/
def LVx (A : Nat → Nat → Nat → Int32) (q : Nat) (v : Int) : Prop := v = -1 ∨ (0 ≤ v ∧ v < 36 ∧ v % 6 < ci A q 5 (v / 6))
def LVc (A : Nat → Nat → Nat → Int32) (q r : Nat) : Prop := ∀ m, 0 ≤ m → m < 6 → LVx A q (ci A r 3 m)
def Gc (P : Nat → Nat → Nat) (F : Nat → Nat → Int32) (A : Nat → Nat → Nat → Int32) : Prop := Rc F A ∧ ((P 0 8 = 27 ∧ P 0 9 = 28) ∨ (P 0 8 = 28 ∧ P 0 9 = 27)) ∧ P 32 4 = P 0 8 ∧ HVc F A (P 0 8) ∧ LVc A (P 0 8) 2 ∧ (∀ u, 0 ≤ u → u < cf F 4 2 → LVc A (P 0 8) (5 + ((cf F 4 1 + u) % 20).toNat)) ∧ (∀ s : Nat, s < 3 → (F 0 10 &&& (1 <<< (Int32.ofNat s &&& 31))) ≠ 0 → LVc A (P 0 8) (29 + s))
theorem HVc.cg {q : Nat} (h : HVc F A q) (hF : ∀ k, F' q k = F q k) (hA : ∀ o, o ≠ 17 → A' q o = A q o) : HVc F' A' q := by
  unfold HVc cf
  simp only [hF, ci_fr (hA 1 (by decide)), ci_fr (hA 2 (by decide)), ci_fr (hA 4 (by decide)), ci_fr (hA 5 (by decide)), ci_fr (hA 11 (by decide)), ci_fr (hA 12 (by decide)), ci_fr (hA 15 (by decide)), ci_fr (hA 16 (by decide))]
  exact h
theorem LVx.cg {q : Nat} {v : Int} (h : LVx A q v) (h5 : A' q 5 = A q 5) : LVx A' q v := by
  unfold LVx
  rw [ci_fr h5]
  exact h
theorem LVc.cg {q r : Nat} (h : LVc A q r) (h5 : A' q 5 = A q 5) (h3 : A' r 3 = A r 3) : LVc A' q r := fun m m0 m1 => by
  rw [ci_fr h3]
  exact (h m m0 m1).cg h5
theorem k_st {m : Nat} (h : m < 20) : c_kind (5 + m) = 2 ∧ 5 + m ≠ 3 ∧ 5 + m ≠ 33 := by
  refine ⟨?_, by omega, by omega⟩
  have : ∀ m : Fin 20, c_kind (5 + m.val) = 2 := by decide
  exact this ⟨m, h⟩
theorem k_sl {m : Nat} (h : m < 3) : c_kind (29 + m) = 2 ∧ 29 + m ≠ 3 ∧ 29 + m ≠ 33 := by
  refine ⟨?_, by omega, by omega⟩
  have : ∀ m : Fin 3, c_kind (29 + m.val) = 2 := by decide
  exact this ⟨m, h⟩
theorem Gc.live (G : Gc P F A) : P 0 8 = 27 ∨ P 0 8 = 28 := G.2.1.imp And.left And.left
theorem Gc.k08 (G : Gc P F A) : c_kind (P 0 8) = 6 := by rcases G.live with h | h <;> rw [h] <;> decide
theorem Gc.k09 (G : Gc P F A) : c_kind (P 0 9) = 6 := by rcases G.2.1 with h | h <;> rw [h.2] <;> decide
theorem Gc.k324 (G : Gc P F A) : c_kind (P 32 4) = 6 := by rw [G.2.2.1]; exact G.k08
theorem Gc.cg (G : Gc P F A) (R : Rc F' A') (c : CSc F F' A A') (h8 : P' 0 8 = P 0 8) (h9 : P' 0 9 = P 0 9) (h4 : P' 32 4 = P 32 4) : Gc P' F' A' := by
  have hl := G.live
  obtain ⟨g1, g2, g3, g4, g5, g6, g7⟩ := G
  obtain ⟨c1, c2, c3, c4, -⟩ := c
  obtain ⟨d1, d2⟩ := c1 _ hl
  have d5 := d2 5 (by decide)
  refine ⟨R, by rw [h8, h9]; exact g2, by rw [h4, h8]; exact g3, by rw [h8]; exact g4.cg d1 d2, by rw [h8]; exact g5.cg d5 (c2 2 (by decide) (by decide) (by decide)), fun u u0 u1 => ?_, fun s s0 s1 => ?_⟩
  · unfold cf at u1 ⊢
    rw [c3 1, h8]
    rw [c3 2] at u1
    have := k_st (m := (((F 4 1).toInt + u) % 20).toNat) (by omega)
    exact (g6 u u0 u1).cg d5 (c2 _ this.1 this.2.1 this.2.2)
  · rw [c4] at s1
    rw [h8]
    have := k_sl s0
    exact (g7 s s0 s1).cg d5 (c2 _ this.1 this.2.1 this.2.2)
/-- nothing but what nothing rests on has changed -/
def QKc (P P' : Nat → Nat → Nat) (F F' : Nat → Nat → Int32) (A A' : Nat → Nat → Nat → Int32) : Prop := (∀ r k, r ≠ 36 → P' r k = P r k) ∧ Rc F' A' ∧ CSc F F' A A'
theorem QKc.g (q : QKc P P' F F' A A') (G : Gc P F A) : Gc P' F' A' := G.cg q.2.1 q.2.2 (q.1 0 8 (by decide)) (q.1 0 9 (by decide)) (q.1 32 4 (by decide))
theorem QKc.rfl' (R : Rc F A) : QKc P P F F A A := ⟨fun _ _ _ => rfl, R, CSc.rfl'⟩
theorem QKc.tr {P1 : Nat → Nat → Nat} (h : QKc P P1 F F1 A A1) (h' : QKc P1 P' F1 F' A1 A') : QKc P P' F F' A A' := ⟨fun r k hr => (h'.1 r k hr).trans (h.1 r k hr), h'.2.1, h.2.2.tr h'.2.2⟩
theorem QKc.st {i v : Int} (h : QKc P P' F F' A A1) (U : CUm A1 A' r o i v) (hv : rRc (c_kind r) o v) (ht : tf r o) : QKc P P' F F' A A' := ⟨h.1, h.2.1.st U hv, h.2.2.tr (CSc.st U ht)⟩
theorem QKc.pf (h : QKc P P' F F1 A A') (U : FUm F1 F' r k x) (hv : rFc (c_kind r) k x.toInt) (ht : c_kind r ≠ 6 ∧ r ≠ 4 ∧ (r ≠ 0 ∨ k ≠ 10) ∧ r ≠ 1) : QKc P P' F F' A A' := ⟨h.1, h.2.1.pf U hv, h.2.2.tr (CSc.pf U ht)⟩
end C86
theorem i_div6 {v : Int32} (h : 0 ≤ v.toInt) : (v / 6).toInt = v.toInt / 6 := by
  rw [Int32.toInt_div]
  have e : (6 : Int32).toInt = 6 := by decide
  rw [e, Int.tdiv_eq_ediv_of_nonneg h]
  have := i_rng v
  exact Int.bmod_eq_of_le (by omega) (by omega)
theorem i_rem6 {v : Int32} (h : 0 ≤ v.toInt) : (v - v / 6 * 6).toInt = v.toInt % 6 := by
  have r := i_rng v
  have d := i_div6 h
  have e : (6 : Int32).toInt = 6 := by decide
  have m := i_mulR (c := 6) (k := 6) (x := v / 6) (by decide) (by omega) (by omega)
  have s := i_sub (x := v) (y := v / 6 * 6) (by omega) (by omega)
  omega
end Qz75
