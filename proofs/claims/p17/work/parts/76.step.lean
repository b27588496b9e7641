/-! a step is told -/
/-- nothing but the place in the text and the faults have changed -/
def QCm (F F' : Nat → Int32) (A A' : Nat → Nat → Int32) : Prop := IFm F' ∧ IAm A' ∧ (∀ q, q ∉ ([11, 13, 14, 15, 16] : List Nat) → F' q = F q) ∧ (∀ q, A' q = A q) ∧ (F 11).toInt ≤ (F' 11).toInt ∧ (1 ≤ (F 13).toInt → 1 ≤ (F' 13).toInt) ∧ (1 ≤ (F 15).toInt → 1 ≤ (F' 15).toInt)
section QC
variable {F F' F1 : Nat → Int32} {A A' A1 : Nat → Nat → Int32} {J : Nat → Nat → Int64}
theorem QCm.tr (h : QCm F F1 A A1) (h' : QCm F1 F' A1 A') : QCm F F' A A' := ⟨h'.1, h'.2.1, fun q hq => (h'.2.2.1 q hq).trans (h.2.2.1 q hq), fun q => (h'.2.2.2.1 q).trans (h.2.2.2.1 q), by have a := h.2.2.2.2.1; have b := h'.2.2.2.2.1; omega, fun q => h'.2.2.2.2.2.1 (h.2.2.2.2.2.1 q), fun q => h'.2.2.2.2.2.2 (h.2.2.2.2.2.2 q)⟩
theorem q_must {x1 : Int32} (hF : IFm F) (hA : IAm A) : ok (d_must F A J x1) (fun r => QCm F r.2.1 A r.2.2.1) := by
  refine ok_mono (s_d_must hF hA) ?_
  rintro ⟨u, F2, A2, J2⟩ ⟨h1, h2, o3, o4, h5⟩
  dsimp only at h1 h2 o3 o4 h5 ⊢
  exact ⟨h1, h2, fun q hq => o3 q (fun e => hq ((by decide : ∀ x, x ∈ ([11, 13, 14] : List Nat) → x ∈ ([11, 13, 14, 15, 16] : List Nat)) q e)), fun q => o4 q (by simp), by omega, fun h => by omega, fun h => by rw [o3 15 (by decide)]; exact h⟩
theorem q_goesOn (hF : IFm F) (hA : IAm A) : ok (d_goesOn F A J) (fun r => QCm F r.2.1 A r.2.2.1) := by
  refine ok_mono (s_d_goesOn hF hA) ?_
  rintro ⟨u, F2, A2, J2⟩ ⟨h1, h2, o3, o4, h5⟩
  dsimp only at h1 h2 o3 o4 h5 ⊢
  exact ⟨h1, h2, fun q hq => o3 q (fun e => hq ((by decide : ∀ x, x ∈ ([11, 13, 14] : List Nat) → x ∈ ([11, 13, 14, 15, 16] : List Nat)) q e)), fun q => o4 q (by simp), by omega, fun h => by omega, fun h => by rw [o3 15 (by decide)]; exact h⟩
theorem q_fail {x1 : Int32} (hF : IFm F) (hA : IAm A) (rx : 1 ≤ x1.toInt ∧ x1.toInt ≤ 5) : ok (d_fail F A J x1) (fun r => QCm F r.2.1 A r.2.2.1 ∧ 1 ≤ (r.2.1 13).toInt) := by
  refine ok_mono (s_d_fail hF hA rx) ?_
  rintro ⟨u, F2, A2, J2⟩ ⟨h1, h2, o3, o4, h5⟩
  dsimp only at h1 h2 o3 o4 h5 ⊢
  exact ⟨⟨h1, h2, fun q hq => o3 q (fun e => hq ((by decide : ∀ x, x ∈ ([13, 14] : List Nat) → x ∈ ([11, 13, 14, 15, 16] : List Nat)) q e)), fun q => o4 q (by simp), by rw [o3 11 (by decide)]; omega, fun h => h5, fun h => by rw [o3 15 (by decide)]; exact h⟩, h5⟩
theorem q_failAt {x1 x2 : Int32} (hF : IFm F) (hA : IAm A) (rx : 1 ≤ x1.toInt ∧ x1.toInt ≤ 5) (rx2 : 0 ≤ x2.toInt ∧ x2.toInt ≤ 402) : ok (d_failAt F A J x1 x2) (fun r => QCm F r.2.1 A r.2.2.1 ∧ 1 ≤ (r.2.1 13).toInt) := by
  refine ok_mono (s_d_failAt hF hA rx rx2) ?_
  rintro ⟨u, F2, A2, J2⟩ ⟨h1, h2, o3, o4, h5⟩
  dsimp only at h1 h2 o3 o4 h5 ⊢
  exact ⟨⟨h1, h2, fun q hq => o3 q (fun e => hq ((by decide : ∀ x, x ∈ ([13, 14] : List Nat) → x ∈ ([11, 13, 14, 15, 16] : List Nat)) q e)), fun q => o4 q (by simp), by rw [o3 11 (by decide)]; omega, fun h => h5, fun h => by rw [o3 15 (by decide)]; exact h⟩, h5⟩
theorem q_bounded {x1 x2 : Int32} (hF : IFm F) (hA : IAm A) (rx : 0 ≤ x1.toInt ∧ x1.toInt ≤ 1) : ok (d_bounded F A J x1 x2) (fun r => QCm F r.2.1 A r.2.2.1 ∧ 0 ≤ r.1.toInt ∧ r.1.toInt ≤ 9999 ∧ (r.1.toInt ≤ x2.toInt ∨ 1 ≤ (r.2.1 13).toInt ∨ 1 ≤ (r.2.1 15).toInt)) := by
  refine ok_mono (s_d_bounded hF hA rx) ?_
  rintro ⟨v, F2, A2, J2⟩ ⟨h1, h2, o3, o4, h5, h6, h7, h8, h9⟩
  dsimp only at h1 h2 o3 o4 h5 h6 h7 h8 h9 ⊢
  exact ⟨⟨h1, h2, o3, fun q => o4 q (by simp), by omega, fun h => by omega, fun h => by omega⟩, h5, h6, by omega⟩
theorem q_known {n : Nat} {x1 : Int32} (hF : IFm F) (hA : IAm A) (hn : 40 ≤ n) (N : NMm F A) (rx : 0 ≤ x1.toInt ∧ x1.toInt ≤ 3) : ok (d_known n F A J x1) (fun r => QCm F r.2.1 A r.2.2.1 ∧ -1 ≤ r.1.toInt ∧ (0 ≤ r.1.toInt ∨ 1 ≤ (r.2.1 13).toInt ∨ 1 ≤ (r.2.1 15).toInt) ∧ (r.1.toInt < 0 ∨ (x1.toInt = 0 ∧ r.1.toInt < ai A 11 (F 19).toInt) ∨ (x1.toInt = 1 ∧ r.1.toInt < ai A 17 (F 19).toInt) ∨ (x1.toInt = 2 ∧ r.1.toInt < ai A 19 (F 19).toInt) ∨ (x1.toInt = 3 ∧ r.1.toInt < ai A 29 (F 19).toInt))) := by
  refine ok_mono (s_d_known hF hA hn N rx) ?_
  rintro ⟨v, F2, A2, J2⟩ ⟨h1, h2, o3, o4, h5, h6, h7, h8, h9, h10⟩
  dsimp only at h1 h2 o3 o4 h5 h6 h7 h8 h9 h10 ⊢
  exact ⟨⟨h1, h2, o3, fun q => o4 q (by simp), by omega, fun h => by omega, fun h => by omega⟩, h5, h7, h9⟩
theorem QCm.nm (h : QCm F F' A A') (N : NCm F A) : NCm F' A' := N.fr0 (h.2.2.1 19 (by decide)) (h.2.2.1 20 (by decide)) (fun q _ => h.2.2.2.1 q)
theorem QCm.eq (h : QCm F F' A A') : A' = A := funext h.2.2.2.1
end QC
/-- what the telling of a step leaves -/
def STm (l : Int) (F : Nat → Int32) (A : Nat → Nat → Int32) (r : Unit × (Nat → Int32) × (Nat → Nat → Int32) × (Nat → Nat → Int64)) : Prop := IFm r.2.1 ∧ IAm r.2.2.1 ∧ (∀ q, q ∉ ([11, 13, 14, 15, 16] : List Nat) → r.2.1 q = F q) ∧ (∀ q, q ∉ ([22, 23, 24, 25, 26, 27, 28] : List Nat) → r.2.2.1 q = A q) ∧ LSm l A r.2.2.1 ∧ (F 11).toInt ≤ (r.2.1 11).toInt ∧ (1 ≤ (F 13).toInt → 1 ≤ (r.2.1 13).toInt) ∧ (1 ≤ (F 15).toInt → 1 ≤ (r.2.1 15).toInt) ∧ (1 ≤ (r.2.1 13).toInt ∨ 1 ≤ (r.2.1 15).toInt ∨ ((XUm A (F 19).toInt → XUm r.2.2.1 (F 19).toInt) ∧ (XMm A (F 19).toInt → XMm r.2.2.1 (F 19).toInt)))
/-- what holds of the step's task (x2), its place (x4) -/
def SHm (F : Nat → Int32) (A : Nat → Nat → Int32) (x2 x4 : Int) : Prop := (x2 < 0 ∧ 1 ≤ (F 15).toInt) ∨ 1 ≤ (F 13).toInt ∨ (0 ≤ x2 ∧ x2 ≤ 5 ∧ x4 = 6 * (6 * (F 19).toInt + x2) + ai A 22 (6 * (F 19).toInt + x2) ∧ ai A 22 (6 * (F 19).toInt + x2) ≤ 5)
section SH
variable {F F' : Nat → Int32} {A A' : Nat → Nat → Int32} {J : Nat → Nat → Int64} {l : Int} {n : Nat}
theorem SHm.go {x2 x4 : Int} (h : SHm F A x2 x4) (q : QCm F F' A A') : SHm F' A' x2 x4 := by
  have e := q.eq
  subst e
  unfold SHm at h ⊢
  rw [q.2.2.1 19 (by decide)]
  have a := q.2.2.2.2.2.1
  have b := q.2.2.2.2.2.2
  rcases h with ⟨h1, h2⟩ | h | h
  · exact .inl ⟨h1, b h2⟩
  · exact .inr (.inl (a h))
  · exact .inr (.inr h)
theorem STm.go {r : Unit × (Nat → Int32) × (Nat → Nat → Int32) × (Nat → Nat → Int64)} (q : QCm F F' A A') (h : STm l F' A' r) : STm l F A r := by
  have e := q.eq
  subst e
  obtain ⟨a, b, c, d, e, f, g, i, j⟩ := h
  rw [q.2.2.1 19 (by decide)] at j
  exact ⟨a, b, fun p hp => (c p hp).trans (q.2.2.1 p hp), d, e, by have := q.2.2.2.2.1; omega, fun h => g (q.2.2.2.2.2.1 h), fun h => i (q.2.2.2.2.2.2 h), j⟩
theorem s_d_tellStep_174 {x2 x4 x5 x6 x7 x8 x9 x10 : Int32} (hF : IFm F) (hA : IAm A) (hl : 0 ≤ l ∧ (F 18).toInt = l ∧ (F 19).toInt = 1 - l) (H : SHm F A x2.toInt x4.toInt) (r9 : -1 ≤ x9.toInt ∧ x9.toInt ≤ 5) (h10 : x10.toInt ≤ 5 ∨ 1 ≤ (F 13).toInt ∨ 1 ≤ (F 15).toInt) : ok (d_tellStep_174 n F A J x2 x4 x5 x6 x7 x8 x9 x10) (STm l F A) := by
  have l0 : (0 : Int32).toInt = 0 := by decide
  have l1 : (1 : Int32).toInt = 1 := by decide
  have l6 : (6 : Int32).toInt = 6 := by decide
  unfold d_tellStep_174
  refine ok_call (q_must hF hA) ?_
  rintro ⟨u, F2, A2, J2⟩ q
  dsimp only at q ⊢
  have H2 := H.go q
  have e := q.eq
  subst e
  have g13 := q.2.2.2.2.2.1
  have g15 := q.2.2.2.2.2.2
  have g19 : F2 19 = F 19 := q.2.2.1 19 (by decide)
  have r13 : 0 ≤ (F2 13).toInt ∧ (F2 13).toInt ≤ 5 := q.1 13
  have r19 : 0 ≤ (F 19).toInt ∧ (F 19).toInt ≤ 1 := hF 19
  have quiet : (1 ≤ (F2 13).toInt ∨ 1 ≤ (F2 15).toInt) → STm l F A2 ((), F2, A2, J2) := fun h => ⟨q.1, hA, q.2.2.1, fun _ _ => rfl, LSm.rfl' l A2, q.2.2.2.2.1, g13, g15, h.elim .inl (fun h => .inr (.inl h))⟩
  refine ok_cond (fun c1 => ?_) (fun c1 => ?_)
  · rw [i_gt] at c1
    exact ok_some (quiet (.inl (by omega)))
  · rw [i_ngt] at c1
    unfold SHm at H2
    refine ok_cond (fun c2 => ?_) (fun c2 => ?_)
    · rw [i_ge] at c2
      rw [g19] at H2
      have H3 : x2.toInt ≤ 5 ∧ x4.toInt = 6 * (6 * (F 19).toInt + x2.toInt) + ai A2 22 (6 * (F 19).toInt + x2.toInt) ∧ ai A2 22 (6 * (F 19).toInt + x2.toInt) ≤ 5 := by omega
      obtain ⟨b5, b4, bn⟩ := H3
      have bn0 : 0 ≤ ai A2 22 (6 * (F 19).toInt + x2.toInt) ∧ ai A2 22 (6 * (F 19).toInt + x2.toInt) ≤ 6 := hA 22 _ (by omega)
      have e1 := i_mulL (c := 6) (k := 6) (x := F2 19) (by decide) (by rw [g19]; omega) (by rw [g19]; omega)
      rw [g19] at e1
      have e2 := i_add (x := 6 * F2 19) (y := x2) (by rw [g19]; omega) (by rw [g19]; omega)
      rw [g19] at e2 ⊢
      refine ok_st (j := 23) hA (by omega) (by omega) trivial ?_
      intro A3 a3 o3 s3 n3
      refine ok_st (j := 24) a3 (by omega) (by omega) trivial ?_
      intro A4 a4 o4 s4 n4
      refine ok_st (j := 25) a4 (by omega) (by omega) trivial ?_
      intro A5 a5 o5 s5 n5
      refine ok_st (j := 26) a5 (by omega) (by omega) trivial ?_
      intro A6 a6 o6 s6 n6
      refine ok_st (j := 27) a6 (by omega) (by omega) (show -1 ≤ x9.toInt ∧ x9.toInt ≤ 5 from r9) ?_
      intro A7 a7 o7 s7 n7
      refine ok_st (j := 28) a7 (by omega) (by omega) trivial ?_
      intro A8 a8 o8 s8 n8
      have k22 : A8 22 = A2 22 := (o8 22 (by decide)).trans ((o7 22 (by decide)).trans ((o6 22 (by decide)).trans ((o5 22 (by decide)).trans ((o4 22 (by decide)).trans (o3 22 (by decide))))))
      have k28 : A7 28 = A2 28 := (o7 28 (by decide)).trans ((o6 28 (by decide)).trans ((o5 28 (by decide)).trans ((o4 28 (by decide)).trans (o3 28 (by decide)))))
      refine ok_ld (j := 22) a8 (by omega) (by omega) ?_
      intro v ve _
      rw [ai_fr k22, show (6 * F 19 + x2).toInt = 6 * (F 19).toInt + x2.toInt by omega] at ve
      have e3 := i_add (x := v) (y := 1) (by omega) (by omega)
      refine ok_st (j := 22) a8 (by omega) (by omega) (show 0 ≤ (v + 1).toInt ∧ (v + 1).toInt ≤ 6 by omega) ?_
      intro A9 a9 o9 s9 n9
      rw [show (6 * F 19 + x2).toInt = 6 * (F 19).toInt + x2.toInt by omega] at s9 n9
      have L3 : LSm l A2 A3 := (LSm.rfl' l A2).st hl.1 36 rfl o3 n3 ⟨by omega, by omega⟩ (by omega)
      have L4 := L3.st hl.1 36 rfl o4 n4 ⟨by omega, by omega⟩ (by omega)
      have L5 := L4.st hl.1 36 rfl o5 n5 ⟨by omega, by omega⟩ (by omega)
      have L6 := L5.st hl.1 36 rfl o6 n6 ⟨by omega, by omega⟩ (by omega)
      have L7 := L6.st hl.1 36 rfl o7 n7 ⟨by omega, by omega⟩ (by omega)
      have L8 := L7.st hl.1 36 rfl o8 n8 ⟨by omega, by omega⟩ (by omega)
      have L9 := L8.st hl.1 6 rfl o9 n9 ⟨by omega, by omega⟩ (by omega)
      have oth : ∀ q, q ∉ ([22, 23, 24, 25, 26, 27, 28] : List Nat) → A9 q = A2 q := fun q hq => (o9 q (fun e => hq (by rw [e]; decide))).trans ((o8 q (fun e => hq (by rw [e]; decide))).trans ((o7 q (fun e => hq (by rw [e]; decide))).trans ((o6 q (fun e => hq (by rw [e]; decide))).trans ((o5 q (fun e => hq (by rw [e]; decide))).trans ((o4 q (fun e => hq (by rw [e]; decide))).trans (o3 q (fun e => hq (by rw [e]; decide))))))))
      have z22 : ai A9 22 (6 * (F 19).toInt + x2.toInt) = ai A2 22 (6 * (F 19).toInt + x2.toInt) + 1 := by rw [s9]; omega
      have w22 : ∀ i, 0 ≤ i → i ≠ 6 * (F 19).toInt + x2.toInt → ai A9 22 i = ai A2 22 i := fun i p r => by rw [n9 i p r, ai_fr k22]
      have z28 : ai A9 28 x4.toInt = x10.toInt := by rw [ai_fr (o9 28 (by decide))]; exact s8
      have w28 : ∀ i, 0 ≤ i → i ≠ x4.toInt → ai A9 28 i = ai A2 28 i := fun i p r => by rw [ai_fr (o9 28 (by decide)), n8 i p r, ai_fr k28]
      rw [b4] at z28 w28
      refine ok_some ⟨q.1, a9, q.2.2.1, oth, L9, q.2.2.2.2.1, g13, g15, ?_⟩
      show 1 ≤ (F2 13).toInt ∨ 1 ≤ (F2 15).toInt ∨ ((XUm A2 (F 19).toInt → XUm A9 (F 19).toInt) ∧ (XMm A2 (F 19).toInt → XMm A9 (F 19).toInt))
      rcases h10 with h | h | h
      · exact .inr (.inr ⟨fun x => x.sp (oth 19 (by decide)) z22 w22 w28 (by rw [z28]; exact h) rfl (fun q hq => (show 0 ≤ ai A2 22 q ∧ ai A2 22 q ≤ 6 from hA 22 q hq).2) ⟨bn0.1, bn⟩ r19.1, fun x => x.sp (oth 19 (by decide)) z22 w22 (fun q hq => oth q (by rcases hq with rfl | rfl | rfl | rfl <;> decide)) r19.1⟩)
      · exact .inl (g13 h)
      · exact .inr (.inl (g15 h))
    · rw [i_nge] at c2
      exact ok_some (quiet (by omega))
theorem s_d_tellStep_169 {x2 x4 x5 x6 x7 x8 x9 s2 : Int32} (hF : IFm F) (hA : IAm A) (hl : 0 ≤ l ∧ (F 18).toInt = l ∧ (F 19).toInt = 1 - l) (H : SHm F A x2.toInt x4.toInt) (r9 : -1 ≤ x9.toInt ∧ x9.toInt ≤ 5) (h2 : s2.toInt ≤ 5 ∨ 1 ≤ (F 13).toInt ∨ 1 ≤ (F 15).toInt) : ok (d_tellStep_169 n F A J x2 x4 x5 x6 x7 x8 x9 0 s2) (STm l F A) := by
  unfold d_tellStep_169
  refine ok_call (q_bounded hF hA (by decide)) ?_
  rintro ⟨v, F2, A2, J2⟩ ⟨q, v0, v1, v2⟩
  dsimp only at q v0 v1 v2 ⊢
  have g13 := q.2.2.2.2.2.1
  have g15 := q.2.2.2.2.2.2
  refine ok_mono (s_d_tellStep_174 (l := l) q.1 q.2.1 (by rw [q.2.2.1 18 (by decide), q.2.2.1 19 (by decide)]; exact hl) (H.go q) r9 ?_) (fun r h => h.go q)
  rcases h2 with h | h | h
  · omega
  · exact .inr (.inl (g13 h))
  · exact .inr (.inr (g15 h))
theorem s_d_tellStep_134 {x2 x3 x4 x5 x6 x7 x8 x9 : Int32} (hF : IFm F) (hA : IAm A) (hl : 0 ≤ l ∧ (F 18).toInt = l ∧ (F 19).toInt = 1 - l) (H : SHm F A x2.toInt x4.toInt) (r9 : -1 ≤ x9.toInt ∧ x9.toInt ≤ 5) (r3 : 0 ≤ x3.toInt ∧ x3.toInt ≤ 6) : ok (d_tellStep_134 n F A J x2 x3 x4 x5 x6 x7 x8 x9 (-1)) (STm l F A) := by
  have l0 : (0 : Int32).toInt = 0 := by decide
  have l1 : (1 : Int32).toInt = 1 := by decide
  have go : ok (d_tellStep_174 n F A J x2 x4 x5 x6 x7 x8 x9 (-1)) (STm l F A) := s_d_tellStep_174 hF hA hl H r9 (.inl (by decide))
  have r13 : 0 ≤ (F 13).toInt ∧ (F 13).toInt ≤ 5 := hF 13
  unfold d_tellStep_134
  refine ok_cond (fun _ => go) (fun c0 => ?_)
  refine ok_call (s_d_is hF hA) ?_
  intro v p
  refine ok_cond (fun _ => go) (fun c1 => ?_)
  refine ok_call (q_goesOn hF hA) ?_
  rintro ⟨u, F2, A2, J2⟩ q
  dsimp only at q ⊢
  have hl2 : 0 ≤ l ∧ (F2 18).toInt = l ∧ (F2 19).toInt = 1 - l := by rw [q.2.2.1 18 (by decide), q.2.2.1 19 (by decide)]; exact hl
  refine ok_cond (fun c2 => ?_) (fun c2 => ?_)
  · have e := i_sub (x := x3) (y := 1) (by omega) (by omega)
    exact ok_mono (s_d_tellStep_169 q.1 q.2.1 hl2 (H.go q) r9 (.inl (by omega))) (fun r h => h.go q)
  · rw [i_nge] at c2
    refine ok_mono (s_d_tellStep_169 q.1 q.2.1 hl2 (H.go q) r9 (.inr ?_)) (fun r h => h.go q)
    have H2 := H.go q
    unfold SHm at H2
    omega
theorem s_d_tellStep_59 {x2 x3 s2 : Int32} (hF : IFm F) (hA : IAm A) (hn : 50 ≤ n) (N : NCm F A) (hl : 0 ≤ l ∧ (F 18).toInt = l ∧ (F 19).toInt = 1 - l) (H : SHm F A x2.toInt (6 * (6 * (F 19).toInt + s2.toInt) + x3.toInt)) (r3 : 0 ≤ x3.toInt ∧ x3.toInt ≤ 6) (rs : 0 ≤ s2.toInt ∧ s2.toInt ≤ 7) : ok (d_tellStep_59 n F A J x2 x3 6 (6 * (F 19)) s2) (STm l F A) := by
  have l0 : (0 : Int32).toInt = 0 := by decide
  have l1 : (1 : Int32).toInt = 1 := by decide
  have r19 : 0 ≤ (F 19).toInt ∧ (F 19).toInt ≤ 1 := hF 19
  have e1 := i_mulL (c := 6) (k := 6) (x := F 19) (by decide) (by omega) (by omega)
  have e2 := i_add (x := 6 * F 19) (y := s2) (by omega) (by omega)
  have e3 := i_mulL (c := 6) (k := 6) (x := 6 * F 19 + s2) (by decide) (by omega) (by omega)
  have e4 := i_add (x := 6 * (6 * F 19 + s2)) (y := x3) (by omega) (by omega)
  rw [show 6 * (6 * (F 19).toInt + s2.toInt) + x3.toInt = (6 * (6 * F 19 + s2) + x3).toInt by omega] at H
  unfold d_tellStep_59
  generalize 6 * (6 * F 19 + s2) + x3 = x4 at H e4 ⊢
  refine ok_call (q_bounded hF hA (by decide)) ?_
  rintro ⟨v1, F1, A1, J1⟩ ⟨q1, -⟩
  dsimp only at q1 ⊢
  refine ok_call (q_bounded q1.1 q1.2.1 (by decide)) ?_
  rintro ⟨v2, F2, A2, J2⟩ ⟨q2, -⟩
  dsimp only at q2 ⊢
  refine ok_call (q_bounded q2.1 q2.2.1 (by decide)) ?_
  rintro ⟨v3, F3, A3, J3⟩ ⟨q3, -⟩
  dsimp only at q3 ⊢
  refine ok_call (q_bounded q3.1 q3.2.1 (by decide)) ?_
  rintro ⟨v4, F4, A4, J4⟩ ⟨q4, -⟩
  dsimp only at q4 ⊢
  have q := ((q1.tr q2).tr q3).tr q4
  have hl4 : 0 ≤ l ∧ (F4 18).toInt = l ∧ (F4 19).toInt = 1 - l := by rw [q.2.2.1 18 (by decide), q.2.2.1 19 (by decide)]; exact hl
  have go : ok (d_tellStep_134 n F4 A4 J4 x2 x3 x4 v1 v2 v3 v4 (-1) (-1)) (STm l F A) := ok_mono (s_d_tellStep_134 q.1 q.2.1 hl4 (H.go q) (by decide) r3) (fun r h => h.go q)
  refine ok_cond (fun _ => go) (fun c0 => ?_)
  refine ok_call (s_d_is q.1 q.2.1) ?_
  intro v p
  refine ok_cond (fun _ => go) (fun c1 => ?_)
  refine ok_call (q_goesOn q.1 q.2.1) ?_
  rintro ⟨u, F5, A5, J5⟩ q5
  dsimp only at q5 ⊢
  have qq := q.tr q5
  have N5 := qq.nm N
  have r17 : 0 ≤ ai A5 17 (F5 19).toInt ∧ ai A5 17 (F5 19).toInt ≤ 6 := qq.2.1 17 _ (show 0 ≤ (F5 19).toInt ∧ (F5 19).toInt ≤ 1 from qq.1 19).1
  refine ok_call (q_known qq.1 qq.2.1 (by omega) N5.1 (by decide)) ?_
  rintro ⟨v6, F6, A6, J6⟩ ⟨q6, w1, w2, w3⟩
  dsimp only at q6 w1 w2 w3 ⊢
  have q7 := qq.tr q6
  have hl7 : 0 ≤ l ∧ (F6 18).toInt = l ∧ (F6 19).toInt = 1 - l := by rw [q7.2.2.1 18 (by decide), q7.2.2.1 19 (by decide)]; exact hl
  exact ok_mono (s_d_tellStep_134 q7.1 q7.2.1 hl7 (H.go q7) ⟨w1, by omega⟩ r3) (fun r h => h.go q7)
theorem s_d_tellStep_41 {x2 x3 : Int32} (hF : IFm F) (hA : IAm A) (hn : 50 ≤ n) (N : NCm F A) (hl : 0 ≤ l ∧ (F 18).toInt = l ∧ (F 19).toInt = 1 - l) (r2 : x2.toInt ≤ 5) (H : (x2.toInt < 0 ∧ 1 ≤ (F 15).toInt) ∨ 1 ≤ (F 13).toInt ∨ (0 ≤ x2.toInt ∧ x3.toInt = ai A 22 (6 * (F 19).toInt + x2.toInt) ∧ x3.toInt ≤ 5)) (r3 : 0 ≤ x3.toInt ∧ x3.toInt ≤ 6) : ok (d_tellStep_41 n F A J x2 x3) (STm l F A) := by
  have l0 : (0 : Int32).toInt = 0 := by decide
  unfold d_tellStep_41
  refine ok_cond (fun c1 => ?_) (fun c1 => ?_)
  · rw [i_ge] at c1
    refine s_d_tellStep_59 hF hA hn N hl ?_ r3 ⟨by omega, by omega⟩
    unfold SHm
    rcases H with h | h | h
    · omega
    · exact .inr (.inl h)
    · exact .inr (.inr ⟨by omega, by omega, by omega, by omega⟩)
  · rw [i_nge] at c1
    refine s_d_tellStep_59 hF hA hn N hl ?_ r3 (by decide)
    unfold SHm
    rcases H with h | h | h
    · exact .inl h
    · exact .inr (.inl h)
    · omega
theorem s_d_tellStep {x1 : Int32} (hF : IFm F) (hA : IAm A) (hn : 50 ≤ n) (N : NCm F A) (hl : 0 ≤ l ∧ (F 18).toInt = l ∧ (F 19).toInt = 1 - l) (r1 : 0 ≤ x1.toInt ∧ x1.toInt ≤ 402) : ok (d_tellStep n F A J x1) (STm l F A) := by
  have l0 : (0 : Int32).toInt = 0 := by decide
  have l6 : (6 : Int32).toInt = 6 := by decide
  have r19 : 0 ≤ (F 19).toInt ∧ (F 19).toInt ≤ 1 := hF 19
  have b19 : 0 ≤ ai A 19 (F 19).toInt ∧ ai A 19 (F 19).toInt ≤ 6 := hA 19 _ r19.1
  unfold d_tellStep
  refine ok_call (q_known hF hA (by omega) N.1 (by decide)) ?_
  rintro ⟨v, F2, A2, J2⟩ ⟨q, w1, w2, w3⟩
  dsimp only at q w1 w2 w3 ⊢
  have l2 : (2 : Int32).toInt = 2 := by decide
  have v5 : v.toInt ≤ 5 := by omega
  have hl2 : 0 ≤ l ∧ (F2 18).toInt = l ∧ (F2 19).toInt = 1 - l := by rw [q.2.2.1 18 (by decide), q.2.2.1 19 (by decide)]; exact hl
  have q19 : F2 19 = F 19 := q.2.2.1 19 (by decide)
  have r13 : 0 ≤ (F2 13).toInt ∧ (F2 13).toInt ≤ 5 := q.1 13
  refine ok_cond (fun c1 => ?_) (fun c1 => ?_)
  · rw [i_ge] at c1
    have e1 := i_mulL (c := 6) (k := 6) (x := F2 19) (by decide) (by rw [q19]; omega) (by rw [q19]; omega)
    rw [q19] at e1
    have e2 := i_add (x := 6 * F2 19) (y := v) (by rw [q19]; omega) (by rw [q19]; omega)
    rw [q19] at e2
    refine ok_ld (j := 22) q.2.1 (by rw [q19]; omega) (by rw [q19]; omega) ?_
    intro v6 v6e v6r
    change 0 ≤ v6.toInt ∧ v6.toInt ≤ 6 at v6r
    rw [q19, show (6 * F 19 + v).toInt = 6 * (F 19).toInt + v.toInt by omega] at v6e
    refine ok_cond (fun c2 => ?_) (fun c2 => ?_)
    · rw [i_ne] at c2
      exact ok_mono (s_d_tellStep_41 q.1 q.2.1 hn (q.nm N) hl2 v5 (.inr (.inr ⟨by omega, by rw [q19]; exact v6e, by omega⟩)) v6r) (fun r h => h.go q)
    · refine ok_call (q_failAt q.1 q.2.1 (by decide) r1) ?_
      rintro ⟨u, F3, A3, J3⟩ ⟨q3, q13⟩
      dsimp only at q3 q13 ⊢
      have qq := q.tr q3
      have hl3 : 0 ≤ l ∧ (F3 18).toInt = l ∧ (F3 19).toInt = 1 - l := by rw [qq.2.2.1 18 (by decide), qq.2.2.1 19 (by decide)]; exact hl
      exact ok_mono (s_d_tellStep_59 qq.1 qq.2.1 hn (qq.nm N) hl3 (.inr (.inl q13)) v6r ⟨by omega, by omega⟩) (fun r h => h.go qq)
  · rw [i_nge] at c1
    unfold d_tellStep_28
    refine ok_cond (fun c2 => ?_) (fun c2 => absurd c2 (by decide))
    refine ok_mono (s_d_tellStep_41 q.1 q.2.1 hn (q.nm N) hl2 v5 ?_ (by decide)) (fun r h => h.go q)
    omega
end SH
