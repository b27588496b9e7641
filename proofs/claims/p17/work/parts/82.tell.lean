/-! a sentence of the text is told -/
def X4m (A : Nat → Nat → Int32) (s : Int) : Prop := XDm A s ∧ XTm A s ∧ XUm A s ∧ XMm A s
def RDm (l s : Int) (F0 F : Nat → Int32) (A0 A : Nat → Nat → Int32) : Prop := IFm F ∧ IAm A ∧ (F 18).toInt = l ∧ (F 19).toInt = s ∧ NCm F A ∧ LSm l A0 A ∧ CSm F s ∧ (1 ≤ (F 13).toInt ∨ 50 * s ≤ (F 49).toInt) ∧ (1 ≤ (F 13).toInt ∨ ((F 49).toInt ≤ 50 * s + 5 * ai A 33 s ∧ LBm F A s ∧ LLm F A s)) ∧ (1 ≤ (F 13).toInt ∨ 1 ≤ (F 15).toInt ∨ X4m A s) ∧ (∀ q, q ∉ ([11, 12, 13, 14, 15, 16, 20, 49, 56, 60] : List Nat) → F q = F0 q) ∧ (∀ q, 45 ≤ q → A q = A0 q)
section X4
variable {F F' F0 : Nat → Int32} {A A' A0 : Nat → Nat → Int32} {J : Nat → Nat → Int64} {l s : Int} {n : Nat}
theorem XDm.fr (h : XDm A s) (h12 : A' 12 = A 12) (h13 : A' 13 = A 13) (h14 : A' 14 = A 14) : XDm A' s := by
  unfold XDm
  rw [ai_fr h12, ai_fr h13, ai_fr h14]
  exact h
theorem XTm.fr (h : XTm A s) (h19 : A' 19 = A 19) (h20 : A' 20 = A 20) : XTm A' s := by
  unfold XTm
  rw [ai_fr h19, ai_fr h20]
  exact h
theorem XUm.fr (h : XUm A s) (h19 : A' 19 = A 19) (h22 : A' 22 = A 22) (h28 : A' 28 = A 28) : XUm A' s := by
  unfold XUm
  rw [ai_fr h19, ai_fr h22, ai_fr h28]
  exact h
theorem XMm.fr (h : XMm A s) (h19 : A' 19 = A 19) (h22 : A' 22 = A 22) (k : ∀ q, q = 29 ∨ q = 30 ∨ q = 31 ∨ q = 32 → A' q = A q) : XMm A' s := by
  unfold XMm
  rw [ai_fr (k 29 (by omega)), ai_fr (k 30 (by omega)), ai_fr (k 31 (by omega)), ai_fr (k 32 (by omega)), ai_fr h19, ai_fr h22]
  exact h
theorem X4m.fr (h : X4m A s) (k : ∀ q, q ∈ ([12, 13, 14, 19, 20, 22, 28, 29, 30, 31, 32] : List Nat) → A' q = A q) : X4m A' s :=
  ⟨h.1.fr (k 12 (by decide)) (k 13 (by decide)) (k 14 (by decide)), h.2.1.fr (k 19 (by decide)) (k 20 (by decide)), h.2.2.1.fr (k 19 (by decide)) (k 22 (by decide)) (k 28 (by decide)), h.2.2.2.fr (k 19 (by decide)) (k 22 (by decide)) (fun q hq => k q (by rcases hq with rfl | rfl | rfl | rfl <;> decide))⟩
theorem LUm.fr {b : Int} (h : LUm A s b) (k : ∀ q, 36 ≤ q → q ≤ 43 → q ≠ 41 → A' q = A q) : LUm A' s b := by
  have e : ai A 40 b ≤ ai A 40 b := Int.le_refl _
  refine h.bl e (fun q hq => ?_) (fun i _ _ => ⟨by rw [ai_fr (k 42 (by decide) (by decide) (by decide))], by rw [ai_fr (k 43 (by decide) (by decide) (by decide))]⟩)
  rw [ai_fr (k q (by omega) (by omega) (by omega))]
/-- what is told is no law -/
theorem RDm.st (h : RDm l s F0 F A0 A) (m13 : 1 ≤ (F 13).toInt → 1 ≤ (F' 13).toInt) (f1 : IFm F') (f2 : IAm A') (oF : ∀ q, q ∉ ([11, 13, 14, 15, 16, 20] : List Nat) → F' q = F q) (N : NCm F' A') (L : LSm l A A') (h11 : (F 11).toInt ≤ (F' 11).toInt) (h15 : 1 ≤ (F 15).toInt → 1 ≤ (F' 15).toInt) (oA : ∀ q, 33 ≤ q → q ≠ 41 → A' q = A q) (X : 1 ≤ (F' 13).toInt ∨ 1 ≤ (F' 15).toInt ∨ (X4m A s → X4m A' s)) : RDm l s F0 F' A0 A' := by
  obtain ⟨a1, a2, a3, a4, a5, a6, ⟨c1, c2, c3⟩, a8, a9, a10, a11, a12⟩ := h
  have g49 : F' 49 = F 49 := oF 49 (by decide)
  have g56 : F' 56 = F 56 := oF 56 (by decide)
  have g12 : F' 12 = F 12 := oF 12 (by decide)
  refine ⟨f1, f2, by rw [oF 18 (by decide)]; exact a3, by rw [oF 19 (by decide)]; exact a4, N, a6.tr L, ⟨by rw [g56]; exact c1, by rw [g56]; omega, c3.imp m13 (fun c4 => ⟨by rw [g12]; exact c4.1, by rw [g56]; omega⟩)⟩, by rw [g49]; exact a8.imp m13 id, ?_, ?_, fun q hq => (oF q (fun e => hq ((by decide : ∀ x, x ∈ ([11, 13, 14, 15, 16, 20] : List Nat) → x ∈ ([11, 12, 13, 14, 15, 16, 20, 49, 56, 60] : List Nat)) q e))).trans (a11 q hq), fun q hq => (oA q (by omega) (by omega)).trans (a12 q hq)⟩
  · rcases a9 with hh | ⟨b1, b2, b3⟩
    · exact .inl (m13 hh)
    · refine .inr ⟨by rw [g49, ai_fr (oA 33 (by decide) (by decide))]; exact b1, fun b p q => ?_, fun m m0 m1 b p q => ?_⟩
      · rw [g49] at q
        rw [g56, ai_fr (oA 40 (by decide) (by decide))]
        obtain ⟨u, v⟩ := b2 b p q
        exact ⟨u.fr (fun q p _ r => oA q (by omega) r), v⟩
      · rw [ai_fr (oA 34 (by decide) (by decide))] at p
        rw [ai_fr (oA 35 (by decide) (by decide))] at q
        rw [g49]
        exact b3 m m0 m1 b p q
  · rcases X with h | h | h
    · exact .inl h
    · exact .inr (.inl h)
    · rcases a10 with g | g | g
      · exact .inl (m13 g)
      · exact .inr (.inl (h15 g))
      · exact .inr (.inr (h g))
theorem RDm.qc (h : RDm l s F0 F A0 A) (q : QCm F F' A A') : RDm l s F0 F' A0 A' := by
  have N := q.nm h.2.2.2.2.1
  have e := q.eq
  subst e
  exact h.st q.2.2.2.2.2.1 q.1 q.2.1 (fun p hp => q.2.2.1 p (fun e => hp ((by decide : ∀ x, x ∈ ([11, 13, 14, 15, 16] : List Nat) → x ∈ ([11, 13, 14, 15, 16, 20] : List Nat)) p e))) N (LSm.rfl' l A') q.2.2.2.2.1 q.2.2.2.2.2.2 (fun _ _ _ => rfl) (.inr (.inr id))
theorem q_goesOn1 (hF : IFm F) (hA : IAm A) : ok (d_goesOn F A J) (fun r => QCm F r.2.1 A r.2.2.1 ∧ 1 ≤ (r.2.1 11).toInt ∧ ((F 11).toInt < (r.2.1 11).toInt ∨ 1 ≤ (r.2.1 13).toInt)) := by
  have r11 : 0 ≤ (F 11).toInt ∧ (F 11).toInt ≤ 400 := hF 11
  have l1 : (1 : Int32).toInt = 1 := by decide
  have l4 : (400 : Int32).toInt = 400 := by decide
  unfold d_goesOn
  refine ok_cond (fun c => ?_) (fun c => ?_)
  · rw [i_ne] at c
    have e := i_add (x := F 11) (y := 1) (by omega) (by omega)
    refine ok_pf hF (show 0 ≤ (F 11 + 1).toInt ∧ (F 11 + 1).toInt ≤ 400 by omega) ?_
    intro F2 hF2 k2 o2
    have z : (F2 11).toInt = (F 11).toInt + 1 := by rw [k2]; omega
    exact ok_some ⟨⟨hF2, hA, fun q hq => o2 q (fun e => hq (by rw [e]; decide)), fun _ => rfl, (show (F 11).toInt ≤ (F2 11).toInt by omega), fun h => (show 1 ≤ (F2 13).toInt by rw [o2 13 (by decide)]; exact h), fun h => (show 1 ≤ (F2 15).toInt by rw [o2 15 (by decide)]; exact h)⟩, (show 1 ≤ (F2 11).toInt by omega), .inl (show (F 11).toInt < (F2 11).toInt by omega)⟩
  · rw [i_nne] at c
    refine ok_call (q_fail hF hA (by decide)) ?_
    rintro ⟨u, F2, A2, J2⟩ ⟨q, q13⟩
    dsimp only at q q13 ⊢
    have := q.2.2.2.2.1
    exact ok_some ⟨q, (show 1 ≤ (F2 11).toInt by omega), .inr q13⟩
theorem q_roomFor {x1 x2 : Int32} (hF : IFm F) (hA : IAm A) (h13 : (F 13).toInt = 0) : ok (d_roomFor F A J x1 x2) (fun r => QCm F r.2.1 A r.2.2.1 ∧ ((x1.toInt ≠ x2.toInt ∧ (r.2.1 11).toInt = (F 11).toInt + 1 ∧ (r.2.1 13).toInt = 0) ∨ 1 ≤ (r.2.1 13).toInt)) := by
  refine ok_mono (s_d_roomFor hF hA) ?_
  rintro ⟨u, F2, A2, J2⟩ ⟨h1, h2, o3, o4, h5⟩
  dsimp only at h1 h2 o3 o4 h5 ⊢
  exact ⟨⟨h1, h2, fun q hq => o3 q (fun e => hq ((by decide : ∀ x, x ∈ ([11, 13, 14] : List Nat) → x ∈ ([11, 13, 14, 15, 16] : List Nat)) q e)), fun q => o4 q (by simp), by omega, fun h => by omega, fun h => by rw [o3 15 (by decide)]; exact h⟩, by omega⟩
end X4
