section T0
variable {F F0 : Nat → Int32} {A A0 : Nat → Nat → Int32} {J : Nat → Nat → Int64} {l s : Int} {n : Nat}
/-- what a sentence leaves -/
def T0m (l s : Int) (F0 F : Nat → Int32) (A0 : Nat → Nat → Int32) (r : Unit × (Nat → Int32) × (Nat → Nat → Int32) × (Nat → Nat → Int64)) : Prop := RDm l s F0 r.2.1 A0 r.2.2.1 ∧ ((F 11).toInt < (r.2.1 11).toInt ∨ 1 ≤ (r.2.1 13).toInt)
theorem t0_fail (h : RDm l s F0 F A0 A) (h13 : (F 13).toInt = 0) : ok ((d_fail F A J 1).bind fun (_, F24, A25, J26) => some ((), F24, A25, J26)) (T0m l s F0 F A0) := by
  refine ok_call (q_fail h.1 h.2.1 (by decide)) ?_
  rintro ⟨u, F2, A2, J2⟩ ⟨q, q13⟩
  dsimp only at q q13 ⊢
  exact ok_some ⟨h.qc q, .inr q13⟩
/-- a sentence that wants room: roomFor, then the telling -/
theorem t0_room {x1 x2 : Int32} {T : Option (Unit × (Nat → Int32) × (Nat → Nat → Int32) × (Nat → Nat → Int64))} {D : (Nat → Int32) → (Nat → Nat → Int32) → (Nat → Nat → Int64) → Option (Unit × (Nat → Int32) × (Nat → Nat → Int32) × (Nat → Nat → Int64))} (h : RDm l s F0 F A0 A) (h13 : (F 13).toInt = 0)
    (hD : ∀ F2 J2, RDm l s F0 F2 A0 A → (F2 13).toInt = 0 → x1.toInt ≠ x2.toInt → F2 19 = F 19 → ok (D F2 A J2) (fun r => RDm l s F0 r.2.1 A0 r.2.2.1 ∧ (F2 11).toInt ≤ (r.2.1 11).toInt)) : ok ((d_roomFor F A J x1 x2).bind fun (_, F5, A6, J7) => cond (g_cnd .ne (F5 13) 0) (some ((), F5, A6, J7)) ((D F5 A6 J7).bind fun (_, F10, A11, J12) => some ((), F10, A11, J12))) (T0m l s F0 F A0) := by
  have l0 : (0 : Int32).toInt = 0 := by decide
  refine ok_call (q_roomFor h.1 h.2.1 h13) ?_
  rintro ⟨u, F2, A2, J2⟩ ⟨q, w⟩
  dsimp only at q w ⊢
  have r13 : 0 ≤ (F2 13).toInt ∧ (F2 13).toInt ≤ 5 := q.1 13
  have h2 := h.qc q
  have e := q.eq
  subst e
  refine ok_cond (fun c => ?_) (fun c => ?_)
  · rw [i_ne] at c
    exact ok_some ⟨h2, .inr (show 1 ≤ (F2 13).toInt by omega)⟩
  · rw [i_nne] at c
    refine ok_call (hD F2 J2 h2 (by omega) (by omega) (q.2.2.1 19 (by decide))) ?_
    rintro ⟨u3, F3, A3, J3⟩ ⟨g1, g2⟩
    dsimp only at g1 g2 ⊢
    exact ok_some ⟨g1, .inl (show (F 11).toInt < (F3 11).toInt by omega)⟩
theorem s_d_tell0 (hs : 0 ≤ s ∧ s ≤ 1 ∧ s = 1 - l) (h : RDm l s F0 F A0 A) (h13 : (F 13).toInt = 0) (hn : 640 ≤ n) : ok (d_tell0 n F A J) (T0m l s F0 F A0) := by
  have hF := h.1
  have hA := h.2.1
  have r11 : 0 ≤ (F 11).toInt ∧ (F 11).toInt ≤ 400 := hF 11
  have e19 := h.2.2.2.1
  have fl : ∀ {J}, ok ((d_fail F A J 1).bind fun (_, F24, A25, J26) => some ((), F24, A25, J26)) (T0m l s F0 F A0) := fun {J} => t0_fail h h13
  unfold d_tell0
  refine ok_ld (j := 3) hA (by omega) (by omega) ?_
  intro v _ _
  have hl : ∀ {F2}, RDm l s F0 F2 A0 A → 0 ≤ l ∧ (F2 18).toInt = l ∧ (F2 19).toInt = 1 - l := fun g => ⟨by omega, g.2.2.1, by rw [g.2.2.2.1]; omega⟩
  -- room
  refine ok_cond (fun _ => ?_) (fun _ => ?_)
  · refine ok_ld (j := 11) hA (by omega) (by omega) ?_
    intro x xe xr
    change 0 ≤ x.toInt ∧ x.toInt ≤ 8 at xr
    refine t0_room (T := none) (D := fun F A J => d_tellRoom n F A J) h h13 (fun F2 J2 g z ne k19 => ?_)
    have l8 : (8 : Int32).toInt = 8 := by decide
    refine ok_mono (s_d_tellRoom (l := l) g.1 g.2.1 (by omega) (hl g) g.2.2.2.2.1 (by rw [k19]; omega) z) ?_
    rintro ⟨u, F3, A3, J3⟩ ⟨m1, m2, m3, m4, m5, m6, m7, m8, m9⟩
    dsimp only at m1 m2 m3 m4 m5 m6 m7 m8 m9 ⊢
    exact ⟨g.st (fun h => by omega) m1 m2 m3 m5 m6 m8 (fun h => by omega) (fun q hq _ => m4 q (by simp; omega)) (.inr (.inr (fun x => x.fr (fun q hq => m4 q (fun e => absurd hq ((by decide : ∀ x, x ∈ ([9, 10, 11] : List Nat) → x ∉ ([12, 13, 14, 19, 20, 22, 28, 29, 30, 31, 32] : List Nat)) q e)))))), m8⟩
  -- door
  refine ok_cond (fun _ => ?_) (fun _ => ?_)
  · refine ok_ld (j := 12) hA (by omega) (by omega) ?_
    intro x xe xr
    change 0 ≤ x.toInt ∧ x.toInt ≤ 12 at xr
    refine t0_room (T := none) (D := fun F A J => d_tellDoor n F A J) h h13 (fun F2 J2 g z ne k19 => ?_)
    have l8 : (12 : Int32).toInt = 12 := by decide
    refine ok_mono (s_d_tellDoor (l := l) g.1 g.2.1 (by omega) (hl g) g.2.2.2.2.1 (by rw [k19]; omega) z) ?_
    rintro ⟨u, F3, A3, J3⟩ ⟨m1, m2, m3, m4, m5, m6, m7, m8, m9⟩
    dsimp only at m1 m2 m3 m4 m5 m6 m7 m8 m9 ⊢
    rw [g.2.2.2.1] at m9
    refine ⟨g.st (fun h => by omega) m1 m2 (fun q hq => m3 q (fun e => hq ((by decide : ∀ x, x ∈ ([11, 13, 14, 15, 16] : List Nat) → x ∈ ([11, 13, 14, 15, 16, 20] : List Nat)) q e))) m5 m6 m8 (fun h => by omega) (fun q hq _ => m4 q (by simp; omega)) (m9.imp id (fun h => h.imp id (fun k x => ⟨k x.1, x.2.1.fr (m4 19 (by decide)) (m4 20 (by decide)), x.2.2.1.fr (m4 19 (by decide)) (m4 22 (by decide)) (m4 28 (by decide)), x.2.2.2.fr (m4 19 (by decide)) (m4 22 (by decide)) (fun q hq => m4 q (by rcases hq with rfl | rfl | rfl | rfl <;> decide))⟩))), m8⟩
  refine ok_cond (fun _ => fl) (fun _ => ?_)
  -- tool
  refine ok_cond (fun _ => ?_) (fun _ => ?_)
  · refine ok_ld (j := 17) hA (by omega) (by omega) ?_
    intro x xe xr
    change 0 ≤ x.toInt ∧ x.toInt ≤ 6 at xr
    refine t0_room (T := none) (D := fun F A J => d_tellTool n F A J) h h13 (fun F2 J2 g z ne k19 => ?_)
    have l8 : (6 : Int32).toInt = 6 := by decide
    refine ok_mono (s_d_tellTool (l := l) g.1 g.2.1 (by omega) (hl g) g.2.2.2.2.1 (by rw [k19]; omega) z) ?_
    rintro ⟨u, F3, A3, J3⟩ ⟨m1, m2, m3, m4, m5, m6, m7, m8, m9⟩
    dsimp only at m1 m2 m3 m4 m5 m6 m7 m8 m9 ⊢
    exact ⟨g.st (fun h => by omega) m1 m2 m3 m5 m6 m8 (fun h => by omega) (fun q hq _ => m4 q (by simp; omega)) (.inr (.inr (fun x => x.fr (fun q hq => m4 q (fun e => absurd hq ((by decide : ∀ x, x ∈ ([9, 10, 17, 18] : List Nat) → x ∉ ([12, 13, 14, 19, 20, 22, 28, 29, 30, 31, 32] : List Nat)) q e)))))), m8⟩
  -- task
  refine ok_cond (fun _ => ?_) (fun _ => ?_)
  · refine ok_ld (j := 19) hA (by omega) (by omega) ?_
    intro x xe xr
    change 0 ≤ x.toInt ∧ x.toInt ≤ 6 at xr
    refine t0_room (T := none) (D := fun F A J => d_tellTask n F A J) h h13 (fun F2 J2 g z ne k19 => ?_)
    have l8 : (6 : Int32).toInt = 6 := by decide
    refine ok_mono (s_d_tellTask (l := l) g.1 g.2.1 (by omega) (hl g) g.2.2.2.2.1 (by rw [k19]; omega) z) ?_
    rintro ⟨u, F3, A3, J3⟩ ⟨m1, m2, m3, m4, m5, m6, m7, m8, m9⟩
    dsimp only at m1 m2 m3 m4 m5 m6 m7 m8 m9 ⊢
    rw [g.2.2.2.1] at m9
    exact ⟨g.st (fun h => by omega) m1 m2 m3 m5 m6 m8 (fun h => by omega) (fun q hq _ => m4 q (by simp; omega)) (m9.imp id (fun h => h.imp id (fun k x => ⟨x.1.fr (m4 12 (by decide)) (m4 13 (by decide)) (m4 14 (by decide)), k.1 x.2.1, k.2.1 x.2.2.1, k.2.2 x.2.2.2⟩))), m8⟩
  -- step
  refine ok_cond (fun _ => ?_) (fun _ => ?_)
  · refine ok_call (q_goesOn1 hF hA) ?_
    rintro ⟨u, F2, A2, J2⟩ ⟨q, w1, w2⟩
    dsimp only at q w1 w2 ⊢
    have g := h.qc q
    have e := q.eq
    subst e
    have l1 : (1 : Int32).toInt = 1 := by decide
    have r2 : 0 ≤ (F2 11).toInt ∧ (F2 11).toInt ≤ 400 := q.1 11
    have e1 := i_sub (x := F2 11) (y := 1) (by omega) (by omega)
    refine ok_call (s_d_tellStep (l := l) q.1 q.2.1 (by omega) g.2.2.2.2.1 (hl g) (by omega)) ?_
    rintro ⟨u, F3, A3, J3⟩ ⟨m1, m2, m3, m4, m5, m6, m7, m8, m9⟩
    dsimp only at m1 m2 m3 m4 m5 m6 m7 m8 m9 ⊢
    rw [g.2.2.2.1] at m9
    have N3 : NCm F3 A3 := g.2.2.2.2.1.fr0 (m3 19 (by decide)) (m3 20 (by decide)) (fun q hq => m4 q (by rcases hq with rfl | rfl | rfl | rfl | rfl | rfl <;> decide))
    refine ok_some ⟨g.st m7 m1 m2 (fun q hq => m3 q (fun e => hq ((by decide : ∀ x, x ∈ ([11, 13, 14, 15, 16] : List Nat) → x ∈ ([11, 13, 14, 15, 16, 20] : List Nat)) q e))) N3 m5 m6 m8 (fun q hq _ => m4 q (by simp; omega)) (m9.imp id (fun h => h.imp id (fun k x => ⟨x.1.fr (m4 12 (by decide)) (m4 13 (by decide)) (m4 14 (by decide)), x.2.1.fr (m4 19 (by decide)) (m4 20 (by decide)), k.1 x.2.2.1, k.2 x.2.2.2⟩))), ?_⟩
    show (F 11).toInt < (F3 11).toInt ∨ 1 ≤ (F3 13).toInt
    rcases w2 with w | w
    · exact .inl (by omega)
    · exact .inr (m7 w)
  refine ok_cond (fun _ => fl) (fun _ => ?_)
  refine ok_cond (fun _ => fl) (fun _ => ?_)
  -- man
  refine ok_cond (fun _ => ?_) (fun _ => ?_)
  · refine ok_ld (j := 29) hA (by omega) (by omega) ?_
    intro x xe xr
    change 0 ≤ x.toInt ∧ x.toInt ≤ 6 at xr
    refine t0_room (T := none) (D := fun F A J => d_tellMan n F A J) h h13 (fun F2 J2 g z ne k19 => ?_)
    have l8 : (6 : Int32).toInt = 6 := by decide
    refine ok_mono (s_d_tellMan (l := l) g.1 g.2.1 (by omega) (hl g) g.2.2.2.2.1 (by rw [k19]; omega) z) ?_
    rintro ⟨u, F3, A3, J3⟩ ⟨m1, m2, m3, m4, m5, m6, m7, m8, m9⟩
    dsimp only at m1 m2 m3 m4 m5 m6 m7 m8 m9 ⊢
    rw [g.2.2.2.1] at m9
    exact ⟨g.st (fun h => by omega) m1 m2 m3 m5 m6 m8 (fun h => by omega) (fun q hq _ => m4 q (by simp; omega)) (m9.imp id (fun h => h.imp id (fun k x => ⟨x.1.fr (m4 12 (by decide)) (m4 13 (by decide)) (m4 14 (by decide)), x.2.1.fr (m4 19 (by decide)) (m4 20 (by decide)), x.2.2.1.fr (m4 19 (by decide)) (m4 22 (by decide)) (m4 28 (by decide)), k x.2.2.2⟩))), m8⟩
  refine ok_cond (fun _ => fl) (fun _ => ?_)
  -- law
  refine ok_cond (fun _ => ?_) (fun _ => ?_)
  · refine ok_ld (j := 33) hA (by omega) (by omega) ?_
    intro x xe xr
    change 0 ≤ x.toInt ∧ x.toInt ≤ 8 at xr
    refine t0_room (T := none) (D := fun F A J => d_tellLaw n F A J) h h13 (fun F2 J2 g z ne k19 => ?_)
    have l8 : (8 : Int32).toInt = 8 := by decide
    have g' := g
    obtain ⟨a1, a2, a3, a4, a5, a6, a7, a8, a9, a10, a11, a12⟩ := g'
    obtain ⟨b1, b2, b3⟩ := a9.resolve_left (by omega)
    have b0 := a8.resolve_left (by omega)
    have r33 : 0 ≤ ai A 33 s ∧ ai A 33 s ≤ 8 := hA 33 _ (by omega)
    have h33 : ai A 33 s < 8 := by rw [← e19]; omega
    refine ok_mono (s_d_tellLaw hs a1 a2 (by omega) a5 a4 a7 ⟨b0, by omega⟩ h33 (.inr b2)) ?_
    rintro ⟨u, F3, A3, J3⟩ ⟨m1, m2, m3, m4, m5, m6, m7, m8, m9, m10⟩
    dsimp only at m1 m2 m3 m4 m5 m6 m7 m8 m9 m10 ⊢
    have N3 : NCm F3 A3 := a5.fr0 (m3 19 (by decide)) (m3 20 (by decide)) (fun q hq => m4 q (by rcases hq with rfl | rfl | rfl | rfl | rfl | rfl <;> decide))
    refine ⟨⟨m1, m2, by rw [m3 18 (by decide)]; exact a3, by rw [m3 19 (by decide)]; exact a4, N3, a6.tr m5, m9, m10.imp id (fun z => by omega), m10.imp id (fun z => ⟨by omega, z.1, z.2.2.2.2 b3⟩), ?_, fun q hq => (m3 q (fun e => hq ((by decide : ∀ x, x ∈ ([11, 12, 13, 14, 15, 16, 49, 56, 60] : List Nat) → x ∈ ([11, 12, 13, 14, 15, 16, 20, 49, 56, 60] : List Nat)) q e))).trans (a11 q hq), fun q hq => (m4 q (by simp; omega)).trans (a12 q hq)⟩, m6⟩
    rcases a10 with g | g | g
    · exact .inl (m7 g)
    · exact .inr (.inl (m8 g))
    · exact .inr (.inr (g.fr (fun q hq => m4 q (fun e => absurd hq ((by decide : ∀ x, x ∈ ([33, 34, 35, 36, 37, 38, 39, 40, 42, 43, 44] : List Nat) → x ∉ ([12, 13, 14, 19, 20, 22, 28, 29, 30, 31, 32] : List Nat)) q e)))))
  refine ok_cond (fun _ => fl) (fun _ => ?_)
  refine ok_cond (fun _ => fl) (fun _ => ?_)
  refine ok_cond (fun _ => fl) (fun _ => ?_)
  -- night
  refine ok_cond (fun _ => ?_) (fun _ => fl)
  · refine ok_call (q_goesOn1 hF hA) ?_
    rintro ⟨u, F2, A2, J2⟩ ⟨q, w1, w2⟩
    dsimp only at q w1 w2 ⊢
    have g := h.qc q
    refine ok_call (q_bounded q.1 q.2.1 (by decide)) ?_
    rintro ⟨v3, F3, A3, J3⟩ ⟨q3, y0, y1, y2⟩
    dsimp only at q3 y0 y1 y2 ⊢
    have g3 := g.qc q3
    have k19 := g.2.2.2.1
    refine ok_st (j := 41) q3.2.1 (by omega) (by omega) (show 0 ≤ v3.toInt ∧ v3.toInt ≤ 9999 from ⟨y0, y1⟩) ?_
    intro A4 a4 o4 s4 n4
    have g4 : RDm l s F0 F3 A0 A4 := g3.st id g3.1 a4 (fun _ _ => rfl) (g3.2.2.2.2.1.fr0 rfl rfl (fun q hq => o4 q (by omega))) ((LSm.rfl' l A3).st (by omega) 1 rfl o4 n4 ⟨by omega, by omega⟩ (by omega)) (Int.le_refl _) id (fun q _ hq => o4 q hq) (.inr (.inr (fun x => x.fr (fun q hq => o4 q (fun e => absurd hq (by rw [e]; decide))))))
    refine ok_call (q_must g4.1 a4) ?_
    rintro ⟨u, F5, A5, J5⟩ q5
    dsimp only at q5 ⊢
    refine ok_some ⟨g4.qc q5, ?_⟩
    show (F 11).toInt < (F5 11).toInt ∨ 1 ≤ (F5 13).toInt
    have z1 := q3.2.2.2.2.1
    have z2 := q5.2.2.2.2.1
    rcases w2 with w | w
    · exact .inl (by omega)
    · exact .inr (q5.2.2.2.2.2.1 (q3.2.2.2.2.2.1 w))
end T0
