/-! the class: the tape -/
section T96
variable {P : Nat → Nat → Nat} {J : Nat → Nat → Nat → Int64}
/-- only the tape has changed -/
def TPc (F F' : Nat → Nat → Int32) (A A' : Nat → Nat → Nat → Int32) : Prop := (∀ r k, ¬ (r = 1 ∧ k = 1) → F' r k = F r k) ∧ (∀ r o, ¬ (r = 1 ∧ o = 1) → A' r o = A r o) ∧ Rc F' A'
theorem TPc.g {F F' : Nat → Nat → Int32} {A A' : Nat → Nat → Nat → Int32} (t : TPc F F' A A') (G : Gc P F A) : Gc P F' A' :=
  G.mk2 (r0 := 2) t.2.2 rfl rfl rfl (fun q hq k => t.1 q k (by omega)) (fun q hq o _ => t.2.1 q o (by omega)) (fun r _ _ _ _ => t.2.1 r 3 (by simp)) (G.2.2.2.2.1.cg (t.2.1 _ 5 (by simp)) (t.2.1 2 3 (by simp))) (fun u u0 u1 => .inr ⟨u, u0, by unfold cf at u1 ⊢; rw [t.1 4 2 (by simp)] at u1; exact u1, by unfold cf; rw [t.1 4 1 (by simp)]⟩) (fun s _ h => .inr (by rw [t.1 0 10 (by simp)] at h; exact h))
theorem TPc.tr {F F1 F' : Nat → Nat → Int32} {A A1 A' : Nat → Nat → Nat → Int32} (a : TPc F F1 A A1) (b : TPc F1 F' A1 A') : TPc F F' A A' := ⟨fun r k h => (b.1 r k h).trans (a.1 r k h), fun r o h => (b.2.1 r o h).trans (a.2.1 r o h), b.2.2⟩
theorem s_addWord_3 {x1 : Int32} : ∀ {n : Nat} {F : Nat → Nat → Int32} {A : Nat → Nat → Nat → Int32} {J : Nat → Nat → Nat → Int64} {x2 : Int32}, Rc F A → (x2.toInt = 24 ∨ x2.toInt = 16 ∨ x2.toInt = 8 ∨ x2.toInt = 0 ∨ x2.toInt = -8) → 8 * cf F 1 1 + x2.toInt + 8 ≤ 16000 → x2.toInt + 9 < (n : Int) → ok (e_Tape_addWord_3 n P F A J x1 x2) (fun r => r.2.1 = P ∧ TPc F r.2.2.1 A r.2.2.2.1 ∧ 8 * cf r.2.2.1 1 1 = 8 * cf F 1 1 + x2.toInt + 8) := by
  intro n
  induction n with
  | zero => intro F A J x2 R hx hb hn; exact absurd hn (by omega)
  | succ n ih =>
    intro F A J x2 R hx hb hn
    have l0 : (0 : Int32).toInt = 0 := by decide
    have l1 : (1 : Int32).toInt = 1 := by decide
    have l2 : (2000 : Int32).toInt = 2000 := by decide
    have a1 : 0 ≤ (F 1 1).toInt ∧ (F 1 1).toInt ≤ 2000 := R.1 1 1
    unfold cf at hb
    unfold e_Tape_addWord_3
    refine ok_cond (fun c => ?_) (fun c => ?_)
    · rw [i_lt] at c
      refine ok_some ⟨rfl, ⟨fun _ _ _ => rfl, fun _ _ _ => rfl, R⟩, ?_⟩
      show 8 * cf F 1 1 = _
      omega
    · rw [i_nlt] at c
      refine ok_cond (fun c2 => ?_) (fun c2 => ?_)
      · rw [i_ge] at c2
        exact absurd c2 (by omega)
      · rw [i_nge] at c2
        refine ok_cst (by omega) (by omega) ?_
        intro A2 U2
        refine ok_cpf ?_
        intro F3 U3
        have e3 := i_add (x := F 1 1) (y := 1) (by omega) (by omega)
        have k3 : (F3 1 1).toInt = (F 1 1).toInt + 1 := by rw [U3.1]; omega
        have t3 : TPc F F3 A A2 := ⟨U3.2, U2.2.2, (R.st U2 trivial).pf U3 (show 0 ≤ (F 1 1 + 1).toInt ∧ (F 1 1 + 1).toInt ≤ 2000 by omega)⟩
        have e8 := i_m8 (x := x2) (by omega)
        generalize x2 + (-8 : Int32) = y at e8 ⊢
        refine ok_mono (ih t3.2.2 (by omega) (by unfold cf; omega) (by omega)) (fun r hr => ⟨hr.1, t3.tr hr.2.1, ?_⟩)
        have := hr.2.2
        unfold cf at this ⊢
        omega
theorem s_addWord {n : Nat} {F : Nat → Nat → Int32} {A : Nat → Nat → Nat → Int32} {x1 : Int32} (R : Rc F A) (hb : cf F 1 1 + 4 ≤ 2000) (hn : 40 ≤ n) : ok (e_Tape_addWord n P F A J x1) (fun r => r.2.1 = P ∧ TPc F r.2.2.1 A r.2.2.2.1 ∧ cf r.2.2.1 1 1 = cf F 1 1 + 4) := by
  have l24 : (24 : Int32).toInt = 24 := by decide
  unfold e_Tape_addWord
  exact ok_mono (s_addWord_3 R (by decide) (by omega) (by omega)) (fun r hr => ⟨hr.1, hr.2.1, by have := hr.2.2; omega⟩)
theorem s_cFeed {n : Nat} {F : Nat → Nat → Int32} {A : Nat → Nat → Nat → Int32} {x1 x2 x3 x4 x5 : Int32} (G : Gc P F A) (hn : 50 ≤ n) : ok (e_SleepWork_feed n P F A J x1 x2 x3 x4 x5) (fun r => (Gc r.2.1 r.2.2.1 r.2.2.2.1 ∧ r.2.1 32 9 = P 32 9) ∧ ((cf F 1 1 + 20 ≤ 2000 ∧ r.1.toInt = cf F 1 1 + 20 ∧ cf r.2.2.1 1 1 = cf F 1 1 + 20) ∨ (2000 < cf F 1 1 + 20 ∧ r.1.toInt = -1 ∧ cf r.2.2.1 1 1 = cf F 1 1))) := by
  have l0 : (0 : Int32).toInt = 0 := by decide
  have l1 : (1 : Int32).toInt = 1 := by decide
  have l20 : (20 : Int32).toInt = 20 := by decide
  have l2 : (2000 : Int32).toInt = 2000 := by decide
  have lm : (-1 : Int32).toInt = -1 := by decide
  have a1 : 0 ≤ (F 1 1).toInt ∧ (F 1 1).toInt ≤ 2000 := G.1.1 1 1
  have e1 := i_add (x := F 1 1) (y := 20) (by omega) (by omega)
  unfold e_SleepWork_feed e_Tape_hasSpace
  have sp : ok (cond (g_cnd .gt ((F 1 1) + 20) 2000) (some (0 : Int32)) (some 1)) (fun v => (v.toInt = 0 ∧ 2000 < cf F 1 1 + 20) ∨ (v.toInt = 1 ∧ cf F 1 1 + 20 ≤ 2000)) := by
    unfold cf
    refine ok_cond (fun c => ?_) (fun c => ?_)
    · rw [i_gt] at c
      exact ok_some (.inl ⟨l0, by omega⟩)
    · rw [i_ngt] at c
      exact ok_some (.inr ⟨l1, by omega⟩)
  refine ok_call sp ?_
  intro v vp
  refine ok_cond (fun c => ?_) (fun c => ?_)
  · rw [i_ne, l0] at c
    refine ok_call (s_addWord G.1 (by omega) (by omega)) ?_
    rintro ⟨u2, P2, F2, A2, J2⟩ ⟨g2, t2, s2⟩
    dsimp only at g2 t2 s2 ⊢
    subst g2
    refine ok_call (s_addWord t2.2.2 (by omega) (by omega)) ?_
    rintro ⟨u3, P3, F3, A3, J3⟩ ⟨g3, t3, s3⟩
    dsimp only at g3 t3 s3 ⊢
    subst g3
    refine ok_call (s_addWord t3.2.2 (by omega) (by omega)) ?_
    rintro ⟨u4, P4, F4, A4, J4⟩ ⟨g4, t4, s4⟩
    dsimp only at g4 t4 s4 ⊢
    subst g4
    refine ok_call (s_addWord t4.2.2 (by omega) (by omega)) ?_
    rintro ⟨u5, P5, F5, A5, J5⟩ ⟨g5, t5, s5⟩
    dsimp only at g5 t5 s5 ⊢
    subst g5
    refine ok_call (s_addWord t5.2.2 (by omega) (by omega)) ?_
    rintro ⟨u6, P6, F6, A6, J6⟩ ⟨g6, t6, s6⟩
    dsimp only at g6 t6 s6 ⊢
    subst g6
    have tt := (((t2.tr t3).tr t4).tr t5).tr t6
    refine ok_some ⟨⟨tt.g G, rfl⟩, .inl ⟨by omega, ?_, ?_⟩⟩
    · show cf F6 1 1 = _
      omega
    · show cf F6 1 1 = _
      omega
  · rw [i_nne, l0] at c
    exact ok_some ⟨⟨G, rfl⟩, .inr ⟨by omega, lm, rfl⟩⟩
theorem s_cBack {F : Nat → Nat → Int32} {A : Nat → Nat → Nat → Int32} {x1 : Int32} (G : Gc P F A) : ok (e_SleepWork_back P F A J x1) (fun r => (Gc r.2.1 r.2.2.1 r.2.2.2.1 ∧ r.2.1 32 9 = P 32 9) ∧ ((0 ≤ x1.toInt ∧ x1.toInt ≤ cf F 1 1 ∧ r.1.toInt = cf F 1 1 - x1.toInt ∧ cf r.2.2.1 1 1 = cf F 1 1 - x1.toInt) ∨ ((x1.toInt < 0 ∨ cf F 1 1 < x1.toInt) ∧ r.1.toInt = -1 ∧ cf r.2.2.1 1 1 = cf F 1 1))) := by
  have l0 : (0 : Int32).toInt = 0 := by decide
  have lm : (-1 : Int32).toInt = -1 := by decide
  have a1 : 0 ≤ (F 1 1).toInt ∧ (F 1 1).toInt ≤ 2000 := G.1.1 1 1
  unfold e_SleepWork_back
  refine ok_cond (fun c => ?_) (fun c => ?_)
  · rw [i_lt] at c
    exact ok_some ⟨⟨G, rfl⟩, .inr ⟨.inl (by omega), lm, rfl⟩⟩
  · rw [i_nlt] at c
    refine ok_cond (fun c2 => ?_) (fun c2 => ?_)
    · rw [i_le] at c2
      have e1 := i_sub (x := F 1 1) (y := x1) (by omega) (by omega)
      refine ok_cpf ?_
      intro F2 U2
      have t : TPc F F2 A A := ⟨U2.2, fun _ _ _ => rfl, G.1.pf U2 (show 0 ≤ (F 1 1 - x1).toInt ∧ (F 1 1 - x1).toInt ≤ 2000 by omega)⟩
      have k2 : (F2 1 1).toInt = (F 1 1).toInt - x1.toInt := by rw [U2.1]; omega
      exact ok_some ⟨⟨t.g G, rfl⟩, .inl ⟨by omega, c2, k2, k2⟩⟩
    · rw [i_nle] at c2
      exact ok_some ⟨⟨G, rfl⟩, .inr ⟨.inr c2, lm, rfl⟩⟩
end T96
