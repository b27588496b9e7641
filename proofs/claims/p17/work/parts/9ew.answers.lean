/-! answers that rest on the counts of the house alone -/
section H9ew
variable {n m : Nat} {P P' : Nat → Nat → Nat} {F F' : Nat → Nat → Int32} {A A' : Nat → Nat → Nat → Int32} {J : Nat → Nat → Nat → Int64} {Fm Fm' : Nat → Int32} {Am Am' : Nat → Nat → Int32} {Jm : Nat → Nat → Int64} {x1 x2 x3 x4 : Int32} {r k q : Nat}
/-- a truth value and what it says -/
def BV (v : Int32) (p : Prop) : Prop := (v = 1 ∧ p) ∨ (v = 0 ∧ ¬ p)
theorem BV.eq {v w : Int32} {p q : Prop} (h : BV v p) (h' : BV w q) (e : p ↔ q) : v = w := by
  rcases h with ⟨rfl, h⟩ | ⟨rfl, h⟩
  · rcases h' with ⟨rfl, h'⟩ | ⟨rfl, h'⟩
    · rfl
    · exact absurd (e.mp h) h'
  · rcases h' with ⟨rfl, h'⟩ | ⟨rfl, h'⟩
    · exact absurd (e.mpr h') h
    · rfl
theorem BV.iff {v : Int32} {p q : Prop} (h : BV v p) (e : p ↔ q) : BV v q := h.imp (fun h => ⟨h.1, e.mp h.2⟩) (fun h => ⟨h.1, fun x => h.2 (e.mpr x)⟩)
theorem v_cMan : po (e_SleepWork_isMan P F A J x1) (fun v => BV v (0 ≤ x1.toInt ∧ x1.toInt < (F (P 0 8) 17).toInt)) := by
  unfold e_SleepWork_isMan
  refine po_cond (fun c => po_some (.inr ⟨rfl, fun h => ?_⟩)) (fun c => ?_)
  · rw [i_lt, i_0] at c; omega
  rw [i_nlt, i_0] at c
  refine po_bl (fun _ h => ?_)
  obtain ⟨-, rfl⟩ := gg_chk h
  refine po_cond (fun c2 => po_some (.inr ⟨rfl, fun h => ?_⟩)) (fun c2 => po_some (.inl ⟨rfl, c, ?_⟩))
  · rw [i_ge] at c2; omega
  · rw [i_nge] at c2; exact c2
theorem v_cTool : po (e_SleepWork_isTool P F A J x1) (fun v => BV v (0 ≤ x1.toInt ∧ x1.toInt < (F (P 0 8) 15).toInt)) := by
  unfold e_SleepWork_isTool
  refine po_cond (fun c => po_some (.inr ⟨rfl, fun h => ?_⟩)) (fun c => ?_)
  · rw [i_lt, i_0] at c; omega
  rw [i_nlt, i_0] at c
  refine po_bl (fun _ h => ?_)
  obtain ⟨-, rfl⟩ := gg_chk h
  refine po_cond (fun c2 => po_some (.inr ⟨rfl, fun h => ?_⟩)) (fun c2 => po_some (.inl ⟨rfl, c, ?_⟩))
  · rw [i_ge] at c2; omega
  · rw [i_nge] at c2; exact c2
theorem v_cRoom : po (e_SleepWork_isRoom P F A J x1) (fun v => BV v (0 ≤ x1.toInt ∧ x1.toInt < (F (P 0 8) 13).toInt)) := by
  unfold e_SleepWork_isRoom
  refine po_cond (fun c => po_some (.inr ⟨rfl, fun h => ?_⟩)) (fun c => ?_)
  · rw [i_lt, i_0] at c; omega
  rw [i_nlt, i_0] at c
  refine po_bl (fun _ h => ?_)
  obtain ⟨-, rfl⟩ := gg_chk h
  refine po_cond (fun c2 => po_some (.inr ⟨rfl, fun h => ?_⟩)) (fun c2 => po_some (.inl ⟨rfl, c, ?_⟩))
  · rw [i_ge] at c2; omega
  · rw [i_nge] at c2; exact c2
theorem v_cStep : po (e_House_hasStep P F A J r x1 x2) (fun v => BV v (0 ≤ x1.toInt ∧ x1.toInt < (F r 16).toInt ∧ 0 ≤ x2.toInt ∧ x2.toInt < ci A r 5 x1.toInt)) := by
  unfold e_House_hasStep
  refine po_cond (fun c => po_some (.inr ⟨rfl, fun h => ?_⟩)) (fun c => ?_)
  · rw [i_lt, i_0] at c; omega
  rw [i_nlt, i_0] at c
  refine po_cond (fun c2 => po_some (.inr ⟨rfl, fun h => ?_⟩)) (fun c2 => ?_)
  · rw [i_ge] at c2; omega
  rw [i_nge] at c2
  refine po_cond (fun c3 => po_some (.inr ⟨rfl, fun h => ?_⟩)) (fun c3 => ?_)
  · rw [i_lt, i_0] at c3; omega
  rw [i_nlt, i_0] at c3
  refine po_bl (fun v4 h4 => ?_)
  have g4 : v4.toInt = ci A r 5 x1.toInt := by rw [(gg_ld h4).2.2]; rfl
  refine po_cond (fun c5 => po_some (.inr ⟨rfl, fun h => ?_⟩)) (fun c5 => po_some (.inl ⟨rfl, c, c2, c3, ?_⟩))
  · rw [i_ge] at c5; omega
  · rw [i_nge] at c5; omega
theorem v_din : po (d_in x1 x2 x3) (fun v => BV v (x2.toInt ≤ x1.toInt ∧ x1.toInt ≤ x3.toInt)) := by
  unfold d_in
  refine po_cond (fun c => po_some (.inr ⟨rfl, fun h => ?_⟩)) (fun c => ?_)
  · rw [i_lt] at c; omega
  rw [i_nlt] at c
  refine po_cond (fun c2 => po_some (.inr ⟨rfl, fun h => ?_⟩)) (fun c2 => po_some (.inl ⟨rfl, c, ?_⟩))
  · rw [i_gt] at c2; omega
  · rw [i_ngt] at c2; exact c2
theorem v_din0 {v : Int32} (hv : 0 ≤ v.toInt) : po (d_in x1 0 (v - 1)) (fun w => BV w (0 ≤ x1.toInt ∧ x1.toInt < v.toInt)) := by
  refine po_mono v_din (fun w h => h.iff ?_)
  rw [i_0, i_sub (by rw [i_1]; omega) (by rw [i_1]; have := i_rng v; omega), i_1]
  omega
/-- a count of the house in use -/
theorem v_dcnt {j : Nat} (hv : 0 ≤ (Am j (Fm 18).toInt.toNat).toInt) : po ((m_ld (Am j) 2 (Fm 18)).bind fun v1 => (d_in x1 0 (v1 - 1)).bind fun v2 => (m_zr v2).bind fun v3 => some v3) (fun v => BV v (0 ≤ x1.toInt ∧ x1.toInt < (Am j (Fm 18).toInt.toNat).toInt)) := by
  refine po_bl (fun v1 h1 => ?_)
  have e1 := (gg_ld h1).2.2
  rw [← e1] at hv ⊢
  refine po_call (v_din0 hv) ?_
  intro v2 b2
  refine po_bl (fun v3 h3 => ?_)
  rw [gg_zr h3]
  exact po_some b2
theorem SAm.cnt (S : SAm Fm Am) {j : Nat} (hj : j = 11 ∨ j = 12 ∨ j = 17 ∨ j = 19 ∨ j = 29) : 0 ≤ (Am j (Fm 18).toInt.toNat).toInt ∧ (Am j (Fm 18).toInt.toNat).toInt ≤ 12 := by
  have r18 : 0 ≤ (Fm 18).toInt ∧ (Fm 18).toInt ≤ 1 := S.1 18
  rcases hj with rfl | rfl | rfl | rfl | rfl
  · have w : 0 ≤ (Am 11 (Fm 18).toInt.toNat).toInt ∧ (Am 11 (Fm 18).toInt.toNat).toInt ≤ 8 := S.2.1 11 (Fm 18).toInt r18.1
    omega
  · have w : 0 ≤ (Am 12 (Fm 18).toInt.toNat).toInt ∧ (Am 12 (Fm 18).toInt.toNat).toInt ≤ 12 := S.2.1 12 (Fm 18).toInt r18.1
    omega
  · have w : 0 ≤ (Am 17 (Fm 18).toInt.toNat).toInt ∧ (Am 17 (Fm 18).toInt.toNat).toInt ≤ 6 := S.2.1 17 (Fm 18).toInt r18.1
    omega
  · have w : 0 ≤ (Am 19 (Fm 18).toInt.toNat).toInt ∧ (Am 19 (Fm 18).toInt.toNat).toInt ≤ 6 := S.2.1 19 (Fm 18).toInt r18.1
    omega
  · have w : 0 ≤ (Am 29 (Fm 18).toInt.toNat).toInt ∧ (Am 29 (Fm 18).toInt.toNat).toInt ≤ 6 := S.2.1 29 (Fm 18).toInt r18.1
    omega
theorem v_dMan (S : SAm Fm Am) : po (d_isMan Fm Am Jm x1) (fun v => BV v (0 ≤ x1.toInt ∧ x1.toInt < (Am 29 (Fm 18).toInt.toNat).toInt)) := by
  unfold d_isMan d_menNow
  refine po_call (R := fun v => v = Am 29 (Fm 18).toInt.toNat) (po_bl (fun v1 h1 => po_some (gg_ld h1).2.2)) ?_
  intro v1 e1
  have hv := (S.cnt (j := 29) (by simp)).1
  rw [← e1] at hv ⊢
  refine po_call (v_din0 hv) ?_
  intro v2 b2
  refine po_bl (fun v3 h3 => ?_)
  rw [gg_zr h3]
  exact po_some b2
theorem v_dTask (S : SAm Fm Am) : po (d_isTask Fm Am Jm x1) (fun v => BV v (0 ≤ x1.toInt ∧ x1.toInt < (Am 19 (Fm 18).toInt.toNat).toInt)) := by
  unfold d_isTask d_tasksNow
  refine po_call (R := fun v => v = Am 19 (Fm 18).toInt.toNat) (po_bl (fun v1 h1 => po_some (gg_ld h1).2.2)) ?_
  intro v1 e1
  have hv := (S.cnt (j := 19) (by simp)).1
  rw [← e1] at hv ⊢
  refine po_call (v_din0 hv) ?_
  intro v2 b2
  refine po_bl (fun v3 h3 => ?_)
  rw [gg_zr h3]
  exact po_some b2
theorem v_dTool (S : SAm Fm Am) : po (d_isTool Fm Am Jm x1) (fun v => BV v (0 ≤ x1.toInt ∧ x1.toInt < (Am 17 (Fm 18).toInt.toNat).toInt)) := by
  unfold d_isTool
  exact v_dcnt (S.cnt (j := 17) (by simp)).1
theorem v_dRoom (S : SAm Fm Am) : po (d_isRoom Fm Am Jm x1) (fun v => BV v (0 ≤ x1.toInt ∧ x1.toInt < (Am 11 (Fm 18).toInt.toNat).toInt)) := by
  unfold d_isRoom
  exact v_dcnt (S.cnt (j := 11) (by simp)).1
theorem v_dStep (S : SAm Fm Am) : po (d_isStep Fm Am Jm x1 x2) (fun v => BV v (0 ≤ x1.toInt ∧ x1.toInt < (Am 19 (Fm 18).toInt.toNat).toInt ∧ 0 ≤ x2.toInt ∧ x2.toInt < ai Am 22 (6 * (Fm 18).toInt + x1.toInt))) := by
  have r18 : 0 ≤ (Fm 18).toInt ∧ (Fm 18).toInt ≤ 1 := S.1 18
  have c19 := S.cnt (j := 19) (by simp)
  unfold d_isStep d_stepsOf
  refine po_call (v_dTask S) ?_
  intro v1 b1
  rcases b1 with ⟨rfl, p1⟩ | ⟨rfl, p1⟩
  · refine po_cond (fun c => absurd c (by decide)) (fun _ => ?_)
    refine po_call (R := fun v => v.toInt = ai Am 22 (6 * (Fm 18).toInt + x1.toInt) ∧ 0 ≤ v.toInt) (po_bl (fun v3 h3 => ?_)) ?_
    · have g3 := gg_ld h3
      have m6 := i_mulL (c := 6) (k := 6) (x := Fm 18) (by decide) (by omega) (by omega)
      have ix := i_add (x := 6 * Fm 18) (y := x1) (by omega) (by omega)
      have e3 : v3.toInt = ai Am 22 (6 * (Fm 18).toInt + x1.toInt) := by rw [g3.2.2, ix, m6]; rfl
      have w : 0 ≤ ai Am 22 (6 * (Fm 18).toInt + x1.toInt) ∧ ai Am 22 (6 * (Fm 18).toInt + x1.toInt) ≤ 6 := S.2.1 22 (6 * (Fm 18).toInt + x1.toInt) (by omega)
      exact po_some ⟨e3, by omega⟩
    intro v3 b3
    refine po_call (v_din0 b3.2) ?_
    intro v4 b4
    rcases b4 with ⟨rfl, p4⟩ | ⟨rfl, p4⟩
    · refine po_cond (fun c => absurd c (by decide)) (fun _ => po_some (.inl ⟨rfl, p1.1, p1.2, p4.1, by omega⟩))
    · exact po_cond (fun _ => po_some (.inr ⟨rfl, fun h => p4 ⟨h.2.2.1, by omega⟩⟩)) (fun c => absurd c (by decide))
  · exact po_cond (fun _ => po_some (.inr ⟨rfl, fun h => p1 ⟨h.1, h.2.1⟩⟩)) (fun c => absurd c (by decide))
/-- the same on both sides -/
theorem CX.men (h : CX P F A Fm Am) : F (P 0 8) 17 = Am 29 (Fm 18).toInt.toNat := h.1 3 (by decide)
theorem CX.tasks (h : CX P F A Fm Am) : F (P 0 8) 16 = Am 19 (Fm 18).toInt.toNat := h.1 2 (by decide)
theorem CX.tools (h : CX P F A Fm Am) : F (P 0 8) 15 = Am 17 (Fm 18).toInt.toNat := h.1 1 (by decide)
theorem CX.rooms (h : CX P F A Fm Am) : F (P 0 8) 13 = Am 11 (Fm 18).toInt.toNat := h.1 0 (by decide)
theorem CX.stp (h : CX P F A Fm Am) : (0 ≤ x1.toInt ∧ x1.toInt < (F (P 0 8) 16).toInt ∧ 0 ≤ x2.toInt ∧ x2.toInt < ci A (P 0 8) 5 x1.toInt) ↔ (0 ≤ x1.toInt ∧ x1.toInt < (Am 19 (Fm 18).toInt.toNat).toInt ∧ 0 ≤ x2.toInt ∧ x2.toInt < ai Am 22 (6 * (Fm 18).toInt + x1.toInt)) := by
  rw [h.tasks]
  constructor
  · rintro ⟨a, b, c, d⟩
    exact ⟨a, b, c, by rw [← h.2.2 _ a (by rw [show F (P 0 8) 16 = _ from h.tasks]; exact b)]; exact d⟩
  · rintro ⟨a, b, c, d⟩
    exact ⟨a, b, c, by rw [h.2.2 _ a (by rw [show F (P 0 8) 16 = _ from h.tasks]; exact b)]; exact d⟩
/-- the end of a call of the class that answers so -/
theorem v_stale {v : Int32} {p : Prop} (h : BV v p) : po ((e_Evening_setStale P F A J).bind fun (_, P7, F8, A9, J10) => some (v, P7, F8, A9, J10)) (fun r => BV r.1 p) := by
  refine po_call (R := fun _ => True) (fun _ _ => trivial) ?_
  rintro ⟨u, P7, F8, A9, J10⟩ -
  exact po_some h
theorem v_cLay : po (e_SleepWork_lay P F A J x1 x2) (fun r => BV r.1 ((0 ≤ x1.toInt ∧ x1.toInt < (F (P 0 8) 15).toInt) ∧ 0 ≤ x2.toInt ∧ x2.toInt < (F (P 0 8) 13).toInt)) := by
  unfold e_SleepWork_lay
  refine po_call v_cTool ?_
  intro v b
  rcases b with ⟨rfl, p⟩ | ⟨rfl, p⟩
  · refine po_cond (fun c => absurd c (by decide)) (fun _ => ?_)
    refine po_call v_cRoom ?_
    intro v b
    rcases b with ⟨rfl, p2⟩ | ⟨rfl, p2⟩
    · refine po_cond (fun _ => po_bl (fun _ _ => v_stale (.inl ⟨rfl, p, p2⟩))) (fun c => absurd c (by decide))
    · exact po_cond (fun c => absurd c (by decide)) (fun _ => po_some (.inr ⟨rfl, fun h => p2 h.2⟩))
  · exact po_cond (fun _ => po_some (.inr ⟨rfl, fun h => p h.1⟩)) (fun c => absurd c (by decide))
theorem v_cGive : po (e_SleepWork_give P F A J x1 x2) (fun r => BV r.1 ((0 ≤ x1.toInt ∧ x1.toInt < (F (P 0 8) 15).toInt) ∧ 0 ≤ x2.toInt ∧ x2.toInt < (F (P 0 8) 17).toInt)) := by
  unfold e_SleepWork_give
  refine po_call v_cTool ?_
  intro v b
  rcases b with ⟨rfl, p⟩ | ⟨rfl, p⟩
  · refine po_cond (fun c => absurd c (by decide)) (fun _ => ?_)
    refine po_call v_cMan ?_
    intro v b
    rcases b with ⟨rfl, p2⟩ | ⟨rfl, p2⟩
    · refine po_cond (fun _ => po_bl (fun _ _ => v_stale (.inl ⟨rfl, p, p2⟩))) (fun c => absurd c (by decide))
    · exact po_cond (fun c => absurd c (by decide)) (fun _ => po_some (.inr ⟨rfl, fun h => p2 h.2⟩))
  · exact po_cond (fun _ => po_some (.inr ⟨rfl, fun h => p h.1⟩)) (fun c => absurd c (by decide))
theorem v_cBar : po (e_SleepWork_bar P F A J x1 x2) (fun r => BV r.1 (0 ≤ x1.toInt ∧ x1.toInt < (F (P 0 8) 14).toInt)) := by
  unfold e_SleepWork_bar
  refine po_cond (fun c => po_some (.inr ⟨rfl, fun h => ?_⟩)) (fun c => ?_)
  · rw [i_lt, i_0] at c; omega
  rw [i_nlt, i_0] at c
  refine po_bl (fun _ h => ?_)
  obtain ⟨-, rfl⟩ := gg_chk h
  refine po_cond (fun c2 => ?_) (fun c2 => po_some (.inr ⟨rfl, fun h => ?_⟩))
  · rw [i_lt] at c2
    have f : ∀ {rs : Nat} {s : Int32}, po (e_SleepWork_bar_52 P F A J rs s) (fun r => BV r.1 (0 ≤ x1.toInt ∧ x1.toInt < (F (P 0 8) 14).toInt)) := fun {rs s} => by
      unfold e_SleepWork_bar_52
      exact po_bl (fun _ _ => v_stale (.inl ⟨rfl, c, c2⟩))
    exact po_cond (fun _ => f) (fun _ => f)
  · rw [i_nlt] at c2; omega
theorem v_cLeave : po (e_SleepWork_leave P F A J x1 x2 x3) (fun r => BV r.1 ((0 ≤ x1.toInt ∧ x1.toInt < (F (P 0 8) 17).toInt) ∧ ((x2.toInt = -1 ∧ x3.toInt = -1) ∨ (0 ≤ x2.toInt ∧ x2.toInt < (F (P 0 8) 16).toInt ∧ 0 ≤ x3.toInt ∧ x3.toInt < ci A (P 0 8) 5 x2.toInt)))) := by
  have lm : ((-1 : Int32)).toInt = -1 := by decide
  unfold e_SleepWork_leave
  refine po_call v_cMan ?_
  intro v b
  rcases b with ⟨rfl, p⟩ | ⟨rfl, p⟩
  · refine po_cond (fun _ => ?_) (fun c => absurd c (by decide))
    have f46 : ∀ {s : Int32}, ((x2.toInt = -1 ∧ x3.toInt = -1) ∨ (0 ≤ x2.toInt ∧ x2.toInt < (F (P 0 8) 16).toInt ∧ 0 ≤ x3.toInt ∧ x3.toInt < ci A (P 0 8) 5 x2.toInt)) → po (e_SleepWork_leave_46 P F A J x1 x2 x3 s) (fun r => BV r.1 ((0 ≤ x1.toInt ∧ x1.toInt < (F (P 0 8) 17).toInt) ∧ ((x2.toInt = -1 ∧ x3.toInt = -1) ∨ (0 ≤ x2.toInt ∧ x2.toInt < (F (P 0 8) 16).toInt ∧ 0 ≤ x3.toInt ∧ x3.toInt < ci A (P 0 8) 5 x2.toInt)))) := fun {s} hp => by
      unfold e_SleepWork_leave_46 e_SleepWork_leave_69
      exact po_cond (fun _ => po_bl (fun _ _ => v_stale (.inl ⟨rfl, p, hp⟩))) (fun _ => po_bl (fun _ _ => v_stale (.inl ⟨rfl, p, hp⟩)))
    have f24 : ¬ (x2.toInt = -1 ∧ x3.toInt = -1) → po (e_SleepWork_leave_24 P F A J x1 x2 x3) (fun r => BV r.1 ((0 ≤ x1.toInt ∧ x1.toInt < (F (P 0 8) 17).toInt) ∧ ((x2.toInt = -1 ∧ x3.toInt = -1) ∨ (0 ≤ x2.toInt ∧ x2.toInt < (F (P 0 8) 16).toInt ∧ 0 ≤ x3.toInt ∧ x3.toInt < ci A (P 0 8) 5 x2.toInt)))) := fun hn => by
      unfold e_SleepWork_leave_24 e_SleepWork_leave_25
      refine po_cond (fun c => absurd c (by decide)) (fun _ => ?_)
      refine po_bl (fun _ h => ?_)
      obtain ⟨-, rfl⟩ := gg_chk h
      refine po_call v_cStep ?_
      intro v b
      rcases b with ⟨rfl, p2⟩ | ⟨rfl, p2⟩
      · exact po_cond (fun _ => f46 (.inr p2)) (fun c => absurd c (by decide))
      · exact po_cond (fun c => absurd c (by decide)) (fun _ => po_some (.inr ⟨rfl, fun h => h.2.elim hn p2⟩))
    refine po_cond (fun c => ?_) (fun c => ?_)
    · rw [i_ne, lm] at c
      exact f24 (fun h => c h.1)
    · rw [i_nne, lm] at c
      refine po_cond (fun c2 => ?_) (fun c2 => ?_)
      · rw [i_ne, lm] at c2
        exact f24 (fun h => c2 h.2)
      · rw [i_nne, lm] at c2
        unfold e_SleepWork_leave_25
        exact po_cond (fun _ => f46 (.inl ⟨c, c2⟩)) (fun c => absurd c (by decide))
  · exact po_cond (fun c => absurd c (by decide)) (fun _ => po_some (.inr ⟨rfl, fun h => p h.1⟩))
theorem v_dLay (S : SAm Fm Am) : po (d_lay Fm Am Jm x1 x2) (fun r => BV r.1 ((0 ≤ x1.toInt ∧ x1.toInt < (Am 17 (Fm 18).toInt.toNat).toInt) ∧ 0 ≤ x2.toInt ∧ x2.toInt < (Am 11 (Fm 18).toInt.toNat).toInt)) := by
  unfold d_lay
  refine po_call (v_dTool S) ?_
  intro v b
  rcases b with ⟨rfl, p⟩ | ⟨rfl, p⟩
  · refine po_cond (fun c => absurd c (by decide)) (fun _ => ?_)
    refine po_call (v_dRoom S) ?_
    intro v b
    rcases b with ⟨rfl, p2⟩ | ⟨rfl, p2⟩
    · refine po_cond (fun _ => po_bl (fun _ _ => po_some (.inl ⟨rfl, p, p2⟩))) (fun c => absurd c (by decide))
    · exact po_cond (fun c => absurd c (by decide)) (fun _ => po_some (.inr ⟨rfl, fun h => p2 h.2⟩))
  · exact po_cond (fun _ => po_some (.inr ⟨rfl, fun h => p h.1⟩)) (fun c => absurd c (by decide))
theorem v_dGive (S : SAm Fm Am) : po (d_give Fm Am Jm x1 x2) (fun r => BV r.1 ((0 ≤ x1.toInt ∧ x1.toInt < (Am 17 (Fm 18).toInt.toNat).toInt) ∧ 0 ≤ x2.toInt ∧ x2.toInt < (Am 29 (Fm 18).toInt.toNat).toInt)) := by
  unfold d_give
  refine po_call (v_dTool S) ?_
  intro v b
  rcases b with ⟨rfl, p⟩ | ⟨rfl, p⟩
  · refine po_cond (fun c => absurd c (by decide)) (fun _ => ?_)
    refine po_call (v_dMan S) ?_
    intro v b
    rcases b with ⟨rfl, p2⟩ | ⟨rfl, p2⟩
    · refine po_cond (fun _ => po_bl (fun _ _ => po_some (.inl ⟨rfl, p, p2⟩))) (fun c => absurd c (by decide))
    · exact po_cond (fun c => absurd c (by decide)) (fun _ => po_some (.inr ⟨rfl, fun h => p2 h.2⟩))
  · exact po_cond (fun _ => po_some (.inr ⟨rfl, fun h => p h.1⟩)) (fun c => absurd c (by decide))
theorem v_dBar (S : SAm Fm Am) : po (d_bar Fm Am Jm x1 x2) (fun r => BV r.1 (0 ≤ x1.toInt ∧ x1.toInt < (Am 12 (Fm 18).toInt.toNat).toInt)) := by
  unfold d_bar
  refine po_bl (fun v1 h1 => ?_)
  have e1 := (gg_ld h1).2.2
  have hv := (S.cnt (j := 12) (by simp)).1
  rw [← e1] at hv ⊢
  refine po_call (v_din0 hv) ?_
  intro v b
  rcases b with ⟨rfl, p⟩ | ⟨rfl, p⟩
  · have f : ∀ {s t : Int32}, po (d_bar_58 Fm Am Jm s t) (fun r => BV r.1 (0 ≤ x1.toInt ∧ x1.toInt < v1.toInt)) := fun {s t} => by
      unfold d_bar_58
      exact po_bl (fun _ _ => po_some (.inl ⟨rfl, p⟩))
    exact po_cond (fun _ => po_cond (fun _ => po_bl (fun _ _ => f)) (fun _ => po_bl (fun _ _ => f))) (fun c => absurd c (by decide))
  · exact po_cond (fun c => absurd c (by decide)) (fun _ => po_some (.inr ⟨rfl, p⟩))
theorem v_dLeave (S : SAm Fm Am) : po (d_leave Fm Am Jm x1 x2 x3) (fun r => BV r.1 ((0 ≤ x1.toInt ∧ x1.toInt < (Am 29 (Fm 18).toInt.toNat).toInt) ∧ ((x2.toInt = -1 ∧ x3.toInt = -1) ∨ (0 ≤ x2.toInt ∧ x2.toInt < (Am 19 (Fm 18).toInt.toNat).toInt ∧ 0 ≤ x3.toInt ∧ x3.toInt < ai Am 22 (6 * (Fm 18).toInt + x2.toInt))))) := by
  have lm : ((-1 : Int32)).toInt = -1 := by decide
  have left : po (d_isLeft Fm Am Jm x2 x3) (fun v => BV v ((x2.toInt = -1 ∧ x3.toInt = -1) ∨ (0 ≤ x2.toInt ∧ x2.toInt < (Am 19 (Fm 18).toInt.toNat).toInt ∧ 0 ≤ x3.toInt ∧ x3.toInt < ai Am 22 (6 * (Fm 18).toInt + x2.toInt)))) := by
    have f : ¬ (x2.toInt = -1 ∧ x3.toInt = -1) → po (d_isLeft_10 Fm Am Jm x2 x3) (fun v => BV v ((x2.toInt = -1 ∧ x3.toInt = -1) ∨ (0 ≤ x2.toInt ∧ x2.toInt < (Am 19 (Fm 18).toInt.toNat).toInt ∧ 0 ≤ x3.toInt ∧ x3.toInt < ai Am 22 (6 * (Fm 18).toInt + x2.toInt)))) := fun hn => by
      unfold d_isLeft_10
      refine po_call (v_dStep S) ?_
      intro v b
      rcases b with ⟨rfl, p2⟩ | ⟨rfl, p2⟩
      · exact po_cond (fun c => absurd c (by decide)) (fun _ => po_some (.inl ⟨rfl, .inr p2⟩))
      · exact po_cond (fun _ => po_some (.inr ⟨rfl, fun h => h.elim hn p2⟩)) (fun c => absurd c (by decide))
    unfold d_isLeft
    refine po_cond (fun c => ?_) (fun c => ?_)
    · rw [i_ne, lm] at c
      exact f (fun h => c h.1)
    · rw [i_nne, lm] at c
      refine po_cond (fun c2 => ?_) (fun c2 => ?_)
      · rw [i_eq, lm] at c2
        exact po_some (.inl ⟨rfl, .inl ⟨c, c2⟩⟩)
      · rw [i_neq, lm] at c2
        exact f (fun h => c2 h.2)
  unfold d_leave
  refine po_call (v_dMan S) ?_
  intro v b
  rcases b with ⟨rfl, p⟩ | ⟨rfl, p⟩
  · refine po_cond (fun c => absurd c (by decide)) (fun _ => ?_)
    refine po_call left ?_
    intro v b
    rcases b with ⟨rfl, p2⟩ | ⟨rfl, p2⟩
    · refine po_cond (fun _ => po_bl (fun _ _ => po_bl (fun _ _ => po_some (.inl ⟨rfl, p, p2⟩)))) (fun c => absurd c (by decide))
    · exact po_cond (fun c => absurd c (by decide)) (fun _ => po_some (.inr ⟨rfl, fun h => p2 h.2⟩))
  · exact po_cond (fun _ => po_some (.inr ⟨rfl, fun h => p h.1⟩)) (fun c => absurd c (by decide))
theorem p2_lay (G : Gc P F A) (S : SAm Fm Am) (hc : CX P F A Fm Am) : P2 (e_SleepWork_lay P F A J x1 x2) (d_lay Fm Am Jm x1 x2) (fun a b => a.1 = b.1) :=
  p2_of v_cLay (v_dLay S) (fun a b h h' => h.eq h' (by rw [hc.tools, hc.rooms]))
theorem p2_give (G : Gc P F A) (S : SAm Fm Am) (hc : CX P F A Fm Am) : P2 (e_SleepWork_give P F A J x1 x2) (d_give Fm Am Jm x1 x2) (fun a b => a.1 = b.1) :=
  p2_of v_cGive (v_dGive S) (fun a b h h' => h.eq h' (by rw [hc.tools, hc.men]))
theorem p2_bar (G : Gc P F A) (S : SAm Fm Am) (hc : CX P F A Fm Am) : P2 (e_SleepWork_bar P F A J x1 x2) (d_bar Fm Am Jm x1 x2) (fun a b => a.1 = b.1) :=
  p2_of v_cBar (v_dBar S) (fun a b h h' => h.eq h' (by rw [show F (P 0 8) 14 = _ from hc.2.1]))
theorem p2_leave (G : Gc P F A) (S : SAm Fm Am) (hc : CX P F A Fm Am) : P2 (e_SleepWork_leave P F A J x1 x2 x3) (d_leave Fm Am Jm x1 x2 x3) (fun a b => a.1 = b.1) :=
  p2_of v_cLeave (v_dLeave S) (fun a b h h' => h.eq h' (by rw [hc.men, hc.stp]))
end H9ew
