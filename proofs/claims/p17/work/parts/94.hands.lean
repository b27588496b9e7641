/-! the class: what hands do, the past, what is held -/
section H94
variable {P P' : Nat → Nat → Nat} {F F' : Nat → Nat → Int32} {A A' : Nat → Nat → Nat → Int32} {J : Nat → Nat → Nat → Int64} {r0 : Nat}
theorem Gc.mk2 (G : Gc P F A) (R : Rc F' A') (h8 : P' 0 8 = P 0 8) (h9 : P' 0 9 = P 0 9) (h4 : P' 32 4 = P 32 4) (hF : ∀ q, q = 27 ∨ q = 28 → ∀ k, F' q k = F q k) (hA : ∀ q, q = 27 ∨ q = 28 → ∀ o, o ≠ 17 → A' q o = A q o) (h3 : ∀ r, c_kind r = 2 → r ≠ 3 → r ≠ 33 → r ≠ r0 → A' r 3 = A r 3) (L : LVc A' (P 0 8) r0)
    (hw : ∀ u, 0 ≤ u → u < cf F' 4 2 → 5 + ((cf F' 4 1 + u) % 20).toNat = r0 ∨ ∃ u', 0 ≤ u' ∧ u' < cf F 4 2 ∧ (cf F' 4 1 + u) % 20 = (cf F 4 1 + u') % 20)
    (hs : ∀ s : Nat, s < 3 → (F' 0 10 &&& (1 <<< (Int32.ofNat s &&& 31))) ≠ 0 → 29 + s = r0 ∨ (F 0 10 &&& (1 <<< (Int32.ofNat s &&& 31))) ≠ 0) : Gc P' F' A' := by
  have hl := G.live
  obtain ⟨g1, g2, g3, g4, g5, g6, g7⟩ := G
  have d5 := hA _ hl 5 (by decide)
  have reg : ∀ r, c_kind r = 2 → r ≠ 3 → r ≠ 33 → LVc A (P 0 8) r → LVc A' (P 0 8) r := fun r a b c l => by
    by_cases e : r = r0
    · rw [e]; exact L
    · exact l.cg d5 (h3 r a b c e)
  refine ⟨R, by rw [h8, h9]; exact g2, by rw [h4, h8]; exact g3, by rw [h8]; exact g4.cg (hF _ hl) (hA _ hl), by rw [h8]; exact reg 2 (by decide) (by decide) (by decide) g5, fun u u0 u1 => ?_, fun s s0 s1 => ?_⟩
  · rw [h8]
    rcases hw u u0 u1 with e | ⟨u', p0, p1, p2⟩
    · rw [e]; exact L
    · rw [p2]
      have := k_st (m := ((cf F 4 1 + u') % 20).toNat) (by omega)
      exact reg _ this.1 this.2.1 this.2.2 (g6 u' p0 p1)
  · rw [h8]
    have := k_sl s0
    rcases hs s s0 s1 with e | e
    · rw [e]; exact L
    · exact reg _ this.1 this.2.1 this.2.2 (g7 s s0 e)
theorem Gc.kp (G : Gc P F A) (u : Int) (u0 : 0 ≤ u) (u1 : u < cf F 4 2) : ∃ u', 0 ≤ u' ∧ u' < cf F 4 2 ∧ (cf F 4 1 + u) % 20 = (cf F 4 1 + u') % 20 := ⟨u, u0, u1, rfl⟩
/-- a call's end -/
def CAc (P : Nat → Nat → Nat) (F : Nat → Nat → Int32) (A : Nat → Nat → Nat → Int32) (r : Int32 × (Nat → Nat → Nat) × (Nat → Nat → Int32) × (Nat → Nat → Nat → Int32) × (Nat → Nat → Nat → Int64)) : Prop := Gc r.2.1 r.2.2.1 r.2.2.2.1 ∧ (r.2.2.1 1 1, r.2.1 32 9) = (F 1 1, P 32 9)
/-- the tape's length and the row of what was seen -/
theorem pe2 {x y : Int32} {p q : Nat} (e : x = y) (f : p = q) : (x, p) = (y, q) := by rw [e, f]
theorem pe {x y : Int32} {p : Nat} (e : x = y) : (x, p) = (y, p) := by rw [e]
theorem QKc.ca {r : Int32 × (Nat → Nat → Nat) × (Nat → Nat → Int32) × (Nat → Nat → Nat → Int32) × (Nat → Nat → Nat → Int64)} (G : Gc P F A) (q : QKc P r.2.1 F r.2.2.1 A r.2.2.2.1) : CAc P F A r := ⟨q.g G, pe2 (q.2.2.2.2.2.2 1) (q.1 32 9 (by decide))⟩
theorem ca0 {v : Int32} (G : Gc P F A) : ok (some (v, P, F, A, J)) (CAc P F A) := ok_some ⟨G, rfl⟩
theorem CAc.st {F1 : Nat → Nat → Int32} {P1 : Nat → Nat → Nat} {A1 : Nat → Nat → Nat → Int32} {r : Int32 × (Nat → Nat → Nat) × (Nat → Nat → Int32) × (Nat → Nat → Nat → Int32) × (Nat → Nat → Nat → Int64)} (h : CAc P1 F1 A1 r) (e : (F1 1 1, P1 32 9) = (F 1 1, P 32 9)) : CAc P F A r := ⟨h.1, h.2.trans e⟩
/-- the end of a call that makes the evening stale -/
theorem ca_stale {v : Int32} {F1 : Nat → Nat → Int32} {A1 : Nat → Nat → Nat → Int32} {P1 : Nat → Nat → Nat} (G : Gc P1 F1 A1) (e : (F1 1 1, P1 32 9) = (F 1 1, P 32 9)) : ok ((e_Evening_setStale P1 F1 A1 J).bind fun (_, P7, F8, A9, J10) => some (v, P7, F8, A9, J10)) (CAc P F A) := by
  refine ok_call (q_stale G) ?_
  rintro ⟨u, P2, F2, A2, J2⟩ ⟨-, -, q⟩
  dsimp only at q ⊢
  exact ok_some ⟨q.g G, (pe2 (q.2.2.2.2.2.2 1) (q.1 32 9 (by decide))).trans e⟩
theorem s_isMan {x1 : Int32} (G : Gc P F A) : ok (e_SleepWork_isMan P F A J x1) (fun v => v.toInt = 0 ∨ (v.toInt = 1 ∧ 0 ≤ x1.toInt ∧ x1.toInt < cf F (P 0 8) 17 ∧ x1.toInt ≤ 5)) := by
  have l0 : (0 : Int32).toInt = 0 := by decide
  have a1 : 0 ≤ (F (P 0 8) 17).toInt ∧ (F (P 0 8) 17).toInt ≤ 6 := by have := G.1.1 (P 0 8) 17; rw [G.k08] at this; exact this
  unfold e_SleepWork_isMan
  refine ok_cond (fun _ => ok_some (.inl (by decide))) (fun c => ?_)
  rw [i_nlt] at c
  refine ok_chk G.k08 ?_
  refine ok_cond (fun _ => ok_some (.inl (by decide))) (fun c2 => ?_)
  rw [i_nge] at c2
  exact ok_some (.inr ⟨by decide, by omega, c2, by omega⟩)
theorem s_isTool {x1 : Int32} (G : Gc P F A) : ok (e_SleepWork_isTool P F A J x1) (fun v => v.toInt = 0 ∨ (v.toInt = 1 ∧ 0 ≤ x1.toInt ∧ x1.toInt ≤ 5)) := by
  have l0 : (0 : Int32).toInt = 0 := by decide
  have a1 : 0 ≤ (F (P 0 8) 15).toInt ∧ (F (P 0 8) 15).toInt ≤ 6 := by have := G.1.1 (P 0 8) 15; rw [G.k08] at this; exact this
  unfold e_SleepWork_isTool
  refine ok_cond (fun _ => ok_some (.inl (by decide))) (fun c => ?_)
  rw [i_nlt] at c
  refine ok_chk G.k08 ?_
  refine ok_cond (fun _ => ok_some (.inl (by decide))) (fun c2 => ?_)
  rw [i_nge] at c2
  exact ok_some (.inr ⟨by decide, by omega, by omega⟩)
theorem s_isRoom {x1 : Int32} (G : Gc P F A) : ok (e_SleepWork_isRoom P F A J x1) (fun v => v.toInt = 0 ∨ (v.toInt = 1 ∧ 0 ≤ x1.toInt ∧ x1.toInt ≤ 7)) := by
  have l0 : (0 : Int32).toInt = 0 := by decide
  have a1 : 0 ≤ (F (P 0 8) 13).toInt ∧ (F (P 0 8) 13).toInt ≤ 8 := by have := G.1.1 (P 0 8) 13; rw [G.k08] at this; exact this
  unfold e_SleepWork_isRoom
  refine ok_cond (fun _ => ok_some (.inl (by decide))) (fun c => ?_)
  rw [i_nlt] at c
  refine ok_chk G.k08 ?_
  refine ok_cond (fun _ => ok_some (.inl (by decide))) (fun c2 => ?_)
  rw [i_nge] at c2
  exact ok_some (.inr ⟨by decide, by omega, by omega⟩)
theorem s_areTwoMen {x1 x2 : Int32} (G : Gc P F A) : ok (e_SleepWork_areTwoMen P F A J x1 x2) (fun v => v.toInt = 0 ∨ (v.toInt = 1 ∧ 0 ≤ x1.toInt ∧ x1.toInt ≤ 5 ∧ 0 ≤ x2.toInt ∧ x2.toInt ≤ 5)) := by
  have l0 : (0 : Int32).toInt = 0 := by decide
  unfold e_SleepWork_areTwoMen
  refine ok_call (s_isMan G) ?_
  intro v vp
  refine ok_cond (fun _ => ok_some (.inl (by decide))) (fun c => ?_)
  rw [i_neq, l0] at c
  refine ok_call (s_isMan G) ?_
  intro w wp
  refine ok_cond (fun _ => ok_some (.inl (by decide))) (fun c2 => ?_)
  rw [i_neq, l0] at c2
  have a := vp.resolve_left c
  have b := wp.resolve_left c2
  exact ok_cond (fun _ => ok_some (.inl (by decide))) (fun _ => ok_some (.inr ⟨by decide, by omega, by omega, by omega, by omega⟩))
theorem s_isKnownBy {x1 : Int32} : ok (e_SleepWork_isKnownBy P F A J x1) (fun _ => True) := by
  unfold e_SleepWork_isKnownBy
  exact ok_cond (fun _ => ok_some trivial) (fun _ => ok_cond (fun _ => ok_some trivial) (fun _ => ok_some trivial))
theorem s_cTask {n : Nat} {x1 x2 : Int32} (G : Gc P F A) (hn : 60 ≤ n) : ok (e_SleepWork_task n P F A J x1 x2) (fun _ => True) := by
  have l0 : (0 : Int32).toInt = 0 := by decide
  have a1 : 0 ≤ (F (P 0 8) 16).toInt ∧ (F (P 0 8) 16).toInt ≤ 6 := by have := G.1.1 (P 0 8) 16; rw [G.k08] at this; exact this
  unfold e_SleepWork_task
  refine ok_cond (fun _ => ok_some trivial) (fun c => ?_)
  rw [i_nlt] at c
  refine ok_chk G.k08 ?_
  refine ok_cond (fun c2 => ?_) (fun _ => ok_some trivial)
  rw [i_lt] at c2
  refine ok_cond (fun _ => ok_chk G.k08 (ok_ldn (by omega) (by omega) (fun v => ok_some trivial))) (fun _ => ?_)
  refine ok_cond (fun _ => ok_chk G.k08 (ok_ldn (by omega) (by omega) (fun v => ok_some trivial))) (fun _ => ?_)
  refine ok_cond (fun _ => ok_ldn (by omega) (by omega) (fun v => ok_some trivial)) (fun _ => ?_)
  refine ok_cond (fun _ => ok_chk G.k08 (ok_call (s_worth G.k08 G.1 (by omega) (by omega)) (fun v _ => ok_some trivial))) (fun _ => ?_)
  refine ok_cond (fun _ => ok_chk G.k08 (ok_call (s_isEnded G.k08 G.1 (by omega) (by omega)) (fun v _ => ok_cond (fun _ => ok_some trivial) (fun _ => ok_some trivial)))) (fun _ => ok_some trivial)
theorem s_cStep {x1 x2 x3 : Int32} (G : Gc P F A) : ok (e_SleepWork_step P F A J x1 x2 x3) (fun _ => True) := by
  have l0 : (0 : Int32).toInt = 0 := by decide
  unfold e_SleepWork_step
  refine ok_chk G.k08 ?_
  refine ok_call (s_hasStep G.k08 G.1) ?_
  intro v vp
  refine ok_cond (fun c => ?_) (fun _ => ok_some trivial)
  rw [i_ne, l0] at c
  have a := vp.resolve_left c
  have m := i_mulR (c := 6) (k := 6) (x := x1) (by decide) (by omega) (by omega)
  have b := i_add (x := x1 * 6) (y := x2) (by omega) (by omega)
  refine ok_cond (fun _ => ok_ldn (by omega) (by omega) (fun v => ok_some trivial)) (fun _ => ?_)
  refine ok_cond (fun _ => ok_chk G.k08 (ok_ldn (by omega) (by omega) (fun v => ok_some trivial))) (fun _ => ?_)
  refine ok_cond (fun _ => ok_chk G.k08 (ok_ldn (by omega) (by omega) (fun v => ok_some trivial))) (fun _ => ?_)
  refine ok_cond (fun _ => ok_chk G.k08 (ok_ldn (by omega) (by omega) (fun v => ok_some trivial))) (fun _ => ?_)
  refine ok_cond (fun _ => ok_chk G.k08 (ok_ldn (by omega) (by omega) (fun v => ok_some trivial))) (fun _ => ?_)
  refine ok_cond (fun _ => ok_chk G.k08 (ok_ldn (by omega) (by omega) (fun v => ok_some trivial))) (fun _ => ?_)
  refine ok_cond (fun _ => ok_chk G.k08 (ok_ldn (by omega) (by omega) (fun v => ok_some trivial))) (fun _ => ok_some trivial)
theorem s_cMan {x1 x2 : Int32} (G : Gc P F A) : ok (e_SleepWork_man P F A J x1 x2) (fun _ => True) := by
  have l0 : (0 : Int32).toInt = 0 := by decide
  unfold e_SleepWork_man
  refine ok_call (s_isMan G) ?_
  intro v vp
  refine ok_cond (fun c => ?_) (fun _ => ok_some trivial)
  rw [i_ne, l0] at c
  have a := vp.resolve_left c
  refine ok_ldn (by omega) (by omega) (fun v3 => ?_)
  refine ok_cond (fun _ => ok_chk G.k08 (ok_ldn (by omega) (by omega) (fun v => ok_some trivial))) (fun _ => ?_)
  refine ok_cond (fun _ => ok_cond (fun _ => ok_div1 (by decide) (fun _ _ => ok_some trivial)) (fun _ => ok_some trivial)) (fun _ => ?_)
  refine ok_cond (fun _ => ok_cond (fun _ => ok_rem1 (by decide) (fun _ _ => ok_some trivial)) (fun _ => ok_some trivial)) (fun _ => ?_)
  refine ok_cond (fun _ => ok_ldn (by omega) (by omega) (fun v => ok_some trivial)) (fun _ => ?_)
  refine ok_cond (fun _ => ok_ldn (by omega) (by omega) (fun v => ok_some trivial)) (fun _ => ?_)
  exact ok_cond (fun _ => ok_ldn (by omega) (by omega) (fun v => ok_some trivial)) (fun _ => ok_some trivial)
theorem s_cTool {x1 : Int32} (G : Gc P F A) : ok (e_SleepWork_tool P F A J x1) (fun _ => True) := by
  have l0 : (0 : Int32).toInt = 0 := by decide
  unfold e_SleepWork_tool
  refine ok_call (s_isTool G) ?_
  intro v vp
  refine ok_cond (fun _ => ok_some trivial) (fun c => ?_)
  rw [i_neq, l0] at c
  have a := vp.resolve_left c
  exact ok_ldn (by omega) (by omega) (fun v => ok_some trivial)
theorem q_minutesBetween {n : Nat} {x1 x2 : Int32} (G : Gc P F A) (h1 : 0 ≤ x1.toInt ∧ x1.toInt ≤ 7) (h2 : 0 ≤ x2.toInt ∧ x2.toInt ≤ 7) (hn : 70 ≤ n) : ok (e_Evening_minutesBetween n P F A J x1 x2) (fun r => QKc P r.2.1 F r.2.2.1 A r.2.2.2.1) := by
  unfold e_Evening_minutesBetween
  refine ok_chk G.k324 ?_
  refine ok_call (s_between G.k324 G.1 (by rw [G.2.2.1]; exact G.2.2.2.1) h1 h2 hn) ?_
  rintro ⟨v, P2, F2, A2, J2⟩ ⟨g1, g2, g3, g4⟩
  dsimp only at g1 g2 g3 g4 ⊢
  subst g1
  exact ok_some ⟨fun _ _ _ => rfl, g4, ⟨fun q hq => ⟨fun k => g2 q k (by omega), fun o _ => g3 q o (by omega)⟩, fun r a _ _ => g3 r 3 (by simp), fun k => g2 4 k (by simp), g2 0 10 (by simp), fun k => g2 1 k (by simp)⟩⟩
theorem s_cWay {n : Nat} {x1 x2 : Int32} (G : Gc P F A) (hn : 70 ≤ n) : ok (e_SleepWork_way n P F A J x1 x2) (CAc P F A) := by
  have l0 : (0 : Int32).toInt = 0 := by decide
  unfold e_SleepWork_way
  refine ok_call (s_isRoom G) ?_
  intro v vp
  refine ok_cond (fun _ => ca0 G) (fun c => ?_)
  rw [i_neq, l0] at c
  have a := vp.resolve_left c
  refine ok_call (s_isRoom G) ?_
  intro w wp
  refine ok_cond (fun c2 => ?_) (fun _ => ca0 G)
  rw [i_ne, l0] at c2
  have b := wp.resolve_left c2
  refine ok_call (q_minutesBetween G ⟨by omega, by omega⟩ ⟨by omega, by omega⟩ hn) ?_
  rintro ⟨v5, P2, F2, A2, J2⟩ q
  dsimp only at q ⊢
  exact ok_cond (fun _ => ok_some (QKc.ca G q)) (fun _ => ok_some (QKc.ca G q))
theorem s_cWhere {n : Nat} {x1 x2 : Int32} (G : Gc P F A) (hn : 70 ≤ n) : ok (e_SleepWork_where n P F A J x1 x2) (CAc P F A) := by
  have l0 : (0 : Int32).toInt = 0 := by decide
  unfold e_SleepWork_where
  refine ok_call (s_isMan G) ?_
  intro v vp
  refine ok_cond (fun _ => ca0 G) (fun c => ?_)
  rw [i_neq, l0] at c
  have a := vp.resolve_left c
  refine ok_cond (fun _ => ca0 G) (fun _ => ?_)
  refine ok_chk G.k08 ?_
  refine ok_cond (fun _ => ?_) (fun _ => ca0 G)
  refine ok_chk G.k08 ?_
  refine ok_ldc G.1 G.k08 (by omega) (by omega) ?_
  intro v7 v7e v7r
  change -1 ≤ v7.toInt ∧ v7.toInt ≤ 7 at v7r
  have h7 := G.2.2.2.1.2.1 x1.toInt (by omega) a.2.2.1
  refine ok_ldc (K := 2) G.1 (by decide) (by omega) (by omega) ?_
  intro v8 v8e _
  refine ok_cond (fun c8 => ?_) (fun _ => ca0 G)
  rw [i_ge] at c8
  have lv := G.2.2.2.2.1 x1.toInt (by omega) (by omega)
  have l2 : v8.toInt < 36 ∧ v8.toInt % 6 < ci A (P 0 8) 5 (v8.toInt / 6) := by
    rw [v8e]
    rcases lv with z | z
    · omega
    · exact ⟨z.2.1, z.2.2⟩
  refine ok_chk G.k08 ?_
  refine ok_div1 (by decide) ?_
  intro v11 e11
  have d11 : v11.toInt = v8.toInt / 6 := by rw [e11]; exact i_div6 (by omega)
  refine ok_ldc G.1 G.k08 (by omega) (by omega) ?_
  intro v12 v12e v12r
  change -1 ≤ v12.toInt ∧ v12.toInt ≤ 7 at v12r
  have h12 := G.2.2.2.1.2.2.1 v11.toInt (by omega) (by omega) (by rw [d11]; omega)
  refine ok_call (q_minutesBetween G ⟨by omega, by omega⟩ ⟨by omega, by omega⟩ hn) ?_
  rintro ⟨v5, P2, F2, A2, J2⟩ q
  dsimp only at q ⊢
  exact ok_cond (fun _ => ok_some (QKc.ca G q)) (fun _ => ok_some (QKc.ca G q))
/-- a row of the state of now that nothing rests on -/
theorem Gc.st2 {o : Nat} {i v : Int} (G : Gc P F A) (U : CUm A A' 2 o i v) (ho : o ≠ 3) : Gc P F A' := ((QKc.rfl' (P := P) G.1).st U trivial ⟨fun h => absurd h (by decide), fun _ => .inl ho⟩).g G
theorem s_cLeave {x1 x2 x3 : Int32} (G : Gc P F A) : ok (e_SleepWork_leave P F A J x1 x2 x3) (CAc P F A) := by
  have l0 : (0 : Int32).toInt = 0 := by decide
  unfold e_SleepWork_leave
  refine ok_call (s_isMan G) ?_
  intro v vp
  refine ok_cond (fun c => ?_) (fun _ => ca0 G)
  rw [i_ne, l0] at c
  have a := vp.resolve_left c
  have f69 : ∀ {s2 : Int32}, LVx A (P 0 8) s2.toInt → ok (e_SleepWork_leave_69 P F A J x1 s2) (CAc P F A) := by
    intro s2 hs
    unfold e_SleepWork_leave_69
    refine ok_cst (by omega) (by omega) ?_
    intro A2 U2
    have n2 : P 0 8 ≠ 2 := fun e => absurd G.k08 (by rw [e]; decide)
    have G2 : Gc P F A2 := G.mk2 (r0 := 2) (G.1.st U2 trivial) rfl rfl rfl (fun _ _ _ => rfl) (fun q hq o _ => U2.2.2 q o (by omega)) (fun r _ _ _ h => U2.2.2 r 3 (fun e => h e.1)) (G.2.2.2.2.1.put U2 n2 hs) (fun u u0 u1 => .inr (G.kp u u0 u1)) (fun s _ h => .inr h)
    exact ca_stale G2 rfl
  have f25 : ∀ {s0 : Int32}, (s0.toInt = 0 ∨ s0.toInt ≠ 0) → ok (e_SleepWork_leave_25 P F A J x1 x2 x3 s0) (CAc P F A) := by
    intro s0 _
    unfold e_SleepWork_leave_25
    refine ok_cond (fun c1 => ?_) (fun c1 => ?_)
    · rw [i_ne] at c1
      unfold e_SleepWork_leave_46
      refine ok_cond (fun c2 => ?_) (fun _ => f69 (.inl (by decide)))
      rw [i_eq] at c2
      exact absurd c2 c1
    · refine ok_chk G.k08 ?_
      refine ok_call (s_hasStep G.k08 G.1) ?_
      intro w wp
      refine ok_cond (fun c2 => ?_) (fun _ => ca0 G)
      rw [i_ne, l0] at c2
      have b := wp.resolve_left c2
      unfold e_SleepWork_leave_46
      refine ok_cond (fun _ => ?_) (fun _ => f69 (.inl (by decide)))
      have m := i_mulR (c := 6) (k := 6) (x := x2) (by decide) (by omega) (by omega)
      have d := i_add (x := x2 * 6) (y := x3) (by omega) (by omega)
      refine f69 (.inr ⟨by omega, by omega, ?_⟩)
      rw [show (x2 * 6 + x3).toInt % 6 = x3.toInt by omega, show (x2 * 6 + x3).toInt / 6 = x2.toInt by omega]
      exact b.2.2.2.2.1
  have f24 : ok (e_SleepWork_leave_24 P F A J x1 x2 x3) (CAc P F A) := by
    unfold e_SleepWork_leave_24
    exact f25 (.inl l0)
  exact ok_cond (fun _ => f24) (fun _ => ok_cond (fun _ => f24) (fun _ => f25 (.inr (by decide))))
theorem s_cWork {x1 x2 : Int32} (G : Gc P F A) : ok (e_SleepWork_work P F A J x1 x2) (CAc P F A) := by
  have l0 : (0 : Int32).toInt = 0 := by decide
  unfold e_SleepWork_work
  refine ok_chk G.k08 ?_
  refine ok_call (s_hasStep G.k08 G.1) ?_
  intro w wp
  refine ok_cond (fun _ => ca0 G) (fun c2 => ?_)
  rw [i_neq, l0] at c2
  have b := wp.resolve_left c2
  refine ok_ldn (by omega) (by omega) (fun v4 => ?_)
  refine ok_cond (fun _ => ?_) (fun _ => ca0 G)
  refine ok_ldn (by omega) (by omega) (fun v6 => ?_)
  refine ok_cst (by omega) (by omega) ?_
  intro A2 U2
  have G2 := G.st2 U2 (by decide)
  refine ok_chk G2.k08 ?_
  have hu := G2.2.2.2.1.2.2.2.1 x1.toInt x2.toInt (by omega) (by omega) (by omega) (by rw [ci_fr (U2.2.2 _ 5 (by simp))]; omega)
  refine ok_call (s_finish (r1 := 2) G2.k08 (by decide) G2.1 (by omega) (by omega) hu) ?_
  rintro ⟨u, P3, F3, A3, J3⟩ ⟨g1, g2, g3, g4⟩
  dsimp only at g1 g2 g3 g4 ⊢
  subst g1
  subst g2
  have G3 : Gc P3 F3 A3 := G2.cg g4 ⟨fun q hq => ⟨fun _ => rfl, fun o _ => g3 q o (by omega)⟩, fun r _ _ _ => g3 r 3 (by simp), fun _ => rfl, rfl, fun _ => rfl⟩ rfl rfl rfl
  exact ca_stale G3 rfl
theorem s_cLay {x1 x2 : Int32} (G : Gc P F A) : ok (e_SleepWork_lay P F A J x1 x2) (CAc P F A) := by
  have l0 : (0 : Int32).toInt = 0 := by decide
  unfold e_SleepWork_lay
  refine ok_call (s_isTool G) ?_
  intro v vp
  refine ok_cond (fun _ => ca0 G) (fun c => ?_)
  rw [i_neq, l0] at c
  have a := vp.resolve_left c
  refine ok_call (s_isRoom G) ?_
  intro w wp
  refine ok_cond (fun _ => ?_) (fun _ => ca0 G)
  refine ok_cst (by omega) (by omega) ?_
  intro A2 U2
  exact ca_stale (G.st2 U2 (by decide)) rfl
theorem s_cGive {x1 x2 : Int32} (G : Gc P F A) : ok (e_SleepWork_give P F A J x1 x2) (CAc P F A) := by
  have l0 : (0 : Int32).toInt = 0 := by decide
  unfold e_SleepWork_give
  refine ok_call (s_isTool G) ?_
  intro v vp
  refine ok_cond (fun _ => ca0 G) (fun c => ?_)
  rw [i_neq, l0] at c
  have a := vp.resolve_left c
  refine ok_call (s_isMan G) ?_
  intro w wp
  refine ok_cond (fun _ => ?_) (fun _ => ca0 G)
  refine ok_cst (by omega) (by omega) ?_
  intro A2 U2
  exact ca_stale (G.st2 U2 (by decide)) rfl
theorem s_cBar {x1 x2 : Int32} (G : Gc P F A) : ok (e_SleepWork_bar P F A J x1 x2) (CAc P F A) := by
  have f52 : ∀ s1 : Int32, ok (e_SleepWork_bar_52 P F A J 2 s1) (CAc P F A) := fun s1 => by
    unfold e_SleepWork_bar_52
    refine ok_cpf ?_
    intro F2 U2
    have q2 := (QKc.rfl' (P := P) G.1).pf U2 trivial (by decide)
    exact ca_stale (q2.g G) (pe (q2.2.2.2.2.2.2 1))
  unfold e_SleepWork_bar
  refine ok_cond (fun _ => ca0 G) (fun _ => ?_)
  refine ok_chk G.k08 ?_
  exact ok_cond (fun _ => ok_cond (fun _ => f52 _) (fun _ => f52 _)) (fun _ => ca0 G)
end H94
