section Qz85
/-! the class: the tape -/
section T96
variable {P : Nat → Nat → Nat} {J : Nat → Nat → Nat → Int64}
/-- only the tape has changed -/
def TPc (F F' : Nat → Nat → Int32) (A A' : Nat → Nat → Nat → Int32) : Prop := (∀ r k, ¬ (r = 1 ∧ k = 1) → F' r k = F r k) ∧ (∀ r o, ¬ (r = 1 ∧ o = 1) → A' r o = A r o) ∧ Rc F' A'
theorem TPc.g {F F' : Nat → Nat → Int32} {A A' : Nat → Nat → Nat → Int32} (t : TPc F F' A A') (G : Gc P F A) : Gc P F' A' :=
  G.mk2 (r0 := 2) t.2.2 rfl rfl rfl (fun q hq k => t.1 q k (by omega)) (fun q hq o _ => t.2.1 q o (by omega)) (fun r _ _ _ _ => t.2.1 r 3 (by simp)) (G.2.2.2.2.1.cg (t.2.1 _ 5 (by simp)) (t.2.1 2 3 (by simp))) (fun u u0 u1 => .inr ⟨u, u0, by unfold cf at u1 ⊢; rw [t.1 4 2 (by simp)] at u1; exact u1, by unfold cf; rw [t.1 4 1 (by simp)]⟩) (fun s _ h => .inr (by rw [t.1 0 10 (by simp)] at h; exact h))
theorem TPc.tr {F F1 F' : Nat → Nat → Int32} {A A1 A' : Nat → Nat → Nat → Int32} (a : TPc F F1 A A1) (b : TPc F1 F' A1 A') : TPc F F' A A' := ⟨fun r k h => (b.1 r k h).trans (a.1 r k h), fun r o h => (b.2.1 r o h).trans (a.2.1 r o h), b.2.2⟩
theorem s_addWord_3 {x1 : Int32} : ∀ {n : Nat} {F : Nat → Nat → Int32} {A : Nat → Nat → Nat → Int32} {J : Nat → Nat → Nat → Int64} {x2 : Int32}, Rc F A → (x2.toInt = 24 ∨ x2.toInt = 16 ∨ x2.toInt = 8 ∨ x2.toInt = 0 ∨ x2.toInt = -8) → 8 * cf F 1 1 + x2.toInt + 8 ≤ 16000 → x2.toInt + 9 < (n : Int) → ok (e_Tape_addWord_3 n P F A J x1 x2) (fun r => r.2.1 = P ∧ TPc F r.2.2.1 A r.2.2.2.1 ∧ 8 * cf r.2.2.1 1 1 = 8 * cf F 1 1 + x2.toInt + 8) := by
  intro n
  induction n with
  | zero => intro F A J x2 R hx hb hn; exact absurd hn (by omega)
  | succ n ih =>
    intro F A J x2 R hx hb hn
    have l0 : (0 : Int32).toInt = 0 := by decide
    have l1 : (1 : Int32).toInt = 1 := by decide
    have l2 : (2000 : Int32).toInt = 2000 := by decide
    have a1 : 0 ≤ (F 1 1).toInt ∧ (F 1 1).toInt ≤ 2000 := R.1 1 1
    unfold cf at hb
    unfold e_Tape_addWord_3
    refine ok_cond (fun c => ?_) (fun c => ?_)
    · rw [i_lt] at c
      refine ok_some ⟨rfl, ⟨fun _ _ _ => rfl, fun _ _ _ => rfl, R⟩, ?_⟩
      show 8 * cf F 1 1 = _
      omega
    · rw [i_nlt] at c
      refine ok_cond (fun c2 => ?_) (fun c2 => ?_)
      · rw [i_ge] at c2
        exact absurd c2 (by omega)
      · rw [i_nge] at c2
        refine ok_cst (by omega) (by omega) ?_
        intro A2 U2
        refine ok_cpf ?_
        intro F3 U3
        have e3 := i_add (x := F 1 1) (y := 1) (by omega) (by omega)
        have k3 : (F3 1 1).toInt = (F 1 1).toInt + 1 := by rw [U3.1]; omega
        have t3 : TPc F F3 A A2 := ⟨U3.2, U2.2.2, (R.st U2 trivial).pf U3 (show 0 ≤ (F 1 1 + 1).toInt ∧ (F 1 1 + 1).toInt ≤ 2000 by omega)⟩
        have e8 := i_m8 (x := x2) (by omega)
        generalize x2 + (-8 : Int32) = y at e8 ⊢
        refine ok_mono (ih t3.2.2 (by omega) (by unfold cf; omega) (by omega)) (fun r hr => ⟨hr.1, t3.tr hr.2.1, ?_⟩)
        have := hr.2.2
        unfold cf at this ⊢
        omega
theorem s_addWord {n : Nat} {F : Nat → Nat → Int32} {A : Nat → Nat → Nat → Int32} {x1 : Int32} (R : Rc F A) (hb : cf F 1 1 + 4 ≤ 2000) (hn : 40 ≤ n) : ok (e_Tape_addWord n P F A J x1) (fun r => r.2.1 = P ∧ TPc F r.2.2.1 A r.2.2.2.1 ∧ cf r.2.2.1 1 1 = cf F 1 1 + 4) := by
  have l24 : (24 : Int32).toInt = 24 := by decide
  unfold e_Tape_addWord
  exact ok_mono (s_addWord_3 R (by decide) (by omega) (by omega)) (fun r hr => ⟨hr.1, hr.2.1, by have := hr.2.2; omega⟩)
theorem s_cFeed {n : Nat} {F : Nat → Nat → Int32} {A : Nat → Nat → Nat → Int32} {x1 x2 x3 x4 x5 : Int32} (G : Gc P F A) (hn : 50 ≤ n) : ok (e_SleepWork_feed n P F A J x1 x2 x3 x4 x5) (fun r => (Gc r.2.1 r.2.2.1 r.2.2.2.1 ∧ r.2.1 32 9 = P 32 9) ∧ ((cf F 1 1 + 20 ≤ 2000 ∧ r.1.toInt = cf F 1 1 + 20 ∧ cf r.2.2.1 1 1 = cf F 1 1 + 20) ∨ (2000 < cf F 1 1 + 20 ∧ r.1.toInt = -1 ∧ cf r.2.2.1 1 1 = cf F 1 1))) := by
  have l0 : (0 : Int32).toInt = 0 := by decide
  have l1 : (1 : Int32).toInt = 1 := by decide
  have l20 : (20 : Int32).toInt = 20 := by decide
  have l2 : (2000 : Int32).toInt = 2000 := by decide
  have lm : (-1 : Int32).toInt = -1 := by decide
  have a1 : 0 ≤ (F 1 1).toInt ∧ (F 1 1).toInt ≤ 2000 := G.1.1 1 1
  have e1 := i_add (x := F 1 1) (y := 20) (by omega) (by omega)
  unfold e_SleepWork_feed e_Tape_hasSpace
  have sp : ok (cond (g_cnd .gt ((F 1 1) + 20) 2000) (some (0 : Int32)) (some 1)) (fun v => (v.toInt = 0 ∧ 2000 < cf F 1 1 + 20) ∨ (v.toInt = 1 ∧ cf F 1 1 + 20 ≤ 2000)) := by
    unfold cf
    refine ok_cond (fun c => ?_) (fun c => ?_)
    · rw [i_gt] at c
      exact ok_some (.inl ⟨l0, by omega⟩)
    · rw [i_ngt] at c
      exact ok_some (.inr ⟨l1, by omega⟩)
  refine ok_call sp ?_
  intro v vp
  refine ok_cond (fun c => ?_) (fun c => ?_)
  · rw [i_ne, l0] at c
    refine ok_call (s_addWord G.1 (by omega) (by omega)) ?_
    rintro ⟨u2, P2, F2, A2, J2⟩ ⟨g2, t2, s2⟩
    dsimp only at g2 t2 s2 ⊢
    subst g2
    refine ok_call (s_addWord t2.2.2 (by omega) (by omega)) ?_
    rintro ⟨u3, P3, F3, A3, J3⟩ ⟨g3, t3, s3⟩
    dsimp only at g3 t3 s3 ⊢
    subst g3
    refine ok_call (s_addWord t3.2.2 (by omega) (by omega)) ?_
    rintro ⟨u4, P4, F4, A4, J4⟩ ⟨g4, t4, s4⟩
    dsimp only at g4 t4 s4 ⊢
    subst g4
    refine ok_call (s_addWord t4.2.2 (by omega) (by omega)) ?_
    rintro ⟨u5, P5, F5, A5, J5⟩ ⟨g5, t5, s5⟩
    dsimp only at g5 t5 s5 ⊢
    subst g5
    refine ok_call (s_addWord t5.2.2 (by omega) (by omega)) ?_
    rintro ⟨u6, P6, F6, A6, J6⟩ ⟨g6, t6, s6⟩
    dsimp only at g6 t6 s6 ⊢
    subst g6
    have tt := (((t2.tr t3).tr t4).tr t5).tr t6
    refine ok_some ⟨⟨tt.g G, rfl⟩, .inl ⟨by omega, ?_, ?_⟩⟩
    · show cf F6 1 1 = _
      omega
    · show cf F6 1 1 = _
      omega
  · rw [i_nne, l0] at c
    exact ok_some ⟨⟨G, rfl⟩, .inr ⟨by omega, lm, rfl⟩⟩
theorem s_cBack {F : Nat → Nat → Int32} {A : Nat → Nat → Nat → Int32} {x1 : Int32} (G : Gc P F A) : ok (e_SleepWork_back P F A J x1) (fun r => (Gc r.2.1 r.2.2.1 r.2.2.2.1 ∧ r.2.1 32 9 = P 32 9) ∧ ((0 ≤ x1.toInt ∧ x1.toInt ≤ cf F 1 1 ∧ r.1.toInt = cf F 1 1 - x1.toInt ∧ cf r.2.2.1 1 1 = cf F 1 1 - x1.toInt) ∨ ((x1.toInt < 0 ∨ cf F 1 1 < x1.toInt) ∧ r.1.toInt = -1 ∧ cf r.2.2.1 1 1 = cf F 1 1))) := by
  have l0 : (0 : Int32).toInt = 0 := by decide
  have lm : (-1 : Int32).toInt = -1 := by decide
  have a1 : 0 ≤ (F 1 1).toInt ∧ (F 1 1).toInt ≤ 2000 := G.1.1 1 1
  unfold e_SleepWork_back
  refine ok_cond (fun c => ?_) (fun c => ?_)
  · rw [i_lt] at c
    exact ok_some ⟨⟨G, rfl⟩, .inr ⟨.inl (by omega), lm, rfl⟩⟩
  · rw [i_nlt] at c
    refine ok_cond (fun c2 => ?_) (fun c2 => ?_)
    · rw [i_le] at c2
      have e1 := i_sub (x := F 1 1) (y := x1) (by omega) (by omega)
      refine ok_cpf ?_
      intro F2 U2
      have t : TPc F F2 A A := ⟨U2.2, fun _ _ _ => rfl, G.1.pf U2 (show 0 ≤ (F 1 1 - x1).toInt ∧ (F 1 1 - x1).toInt ≤ 2000 by omega)⟩
      have k2 : (F2 1 1).toInt = (F 1 1).toInt - x1.toInt := by rw [U2.1]; omega
      exact ok_some ⟨⟨t.g G, rfl⟩, .inl ⟨by omega, c2, k2, k2⟩⟩
    · rw [i_nle] at c2
      exact ok_some ⟨⟨G, rfl⟩, .inr ⟨.inr c2, lm, rfl⟩⟩
end T96
end Qz85
section Qz86
/-! the class's reader: its small parts -/
/-- nothing but the reader's place in the text and its faults have changed -/
def QRc (P P' : Nat → Nat → Nat) (F F' : Nat → Nat → Int32) (A A' : Nat → Nat → Nat → Int32) : Prop := P' = P ∧ A' = A ∧ (∀ r k, ¬ (r = 37 ∧ 7 ≤ k ∧ k ≤ 13 ∧ k ≠ 9) → F' r k = F r k) ∧ Rc F' A' ∧ cf F 37 7 ≤ cf F' 37 7 ∧ (cf F 37 10 ≠ 0 → cf F' 37 10 ≠ 0) ∧ (cf F 37 12 ≠ 0 → cf F' 37 12 ≠ 0)
section R97
variable {P P' P1 : Nat → Nat → Nat} {F F' F1 : Nat → Nat → Int32} {A A' A1 : Nat → Nat → Nat → Int32} {J : Nat → Nat → Nat → Int64} {n : Nat}
theorem QRc.rfl' (R : Rc F A) : QRc P P F F A A := ⟨rfl, rfl, fun _ _ _ => rfl, R, Int.le_refl _, id, id⟩
theorem QRc.tr (a : QRc P P1 F F1 A A1) (b : QRc P1 P' F1 F' A1 A') : QRc P P' F F' A A' := ⟨b.1.trans a.1, b.2.1.trans a.2.1, fun r k h => (b.2.2.1 r k h).trans (a.2.2.1 r k h), b.2.2.2.1, by have x := a.2.2.2.2.1; have y := b.2.2.2.2.1; omega, fun h => b.2.2.2.2.2.1 (a.2.2.2.2.2.1 h), fun h => b.2.2.2.2.2.2 (a.2.2.2.2.2.2 h)⟩
theorem ok_ldJc {β : Type} {Q : β → Prop} {f : Nat → Int64} {m : Nat} {i : Int32} {g : Int64 → Option β} (h0 : 0 ≤ i.toInt) (h1 : i.toInt < (m : Int)) (k : ∀ v, ok (g v) Q) : ok ((m_ldJ f m i).bind g) Q := ok_ldJ h0 h1 (k _)
theorem ok_cstJ {β : Type} {Q : β → Prop} {r o m : Nat} {i : Int32} {x : Int64} {g : (Nat → Nat → Nat → Int64) → Option β} (h0 : 0 ≤ i.toInt) (h1 : i.toInt < (m : Int)) (k : ∀ J', ok (g J') Q) : ok ((c_stJ J r o m i x).bind g) Q := by
  unfold c_stJ
  rw [if_neg (i_in h0 h1)]
  exact k _
theorem Rc.tok (R : Rc F A) : 0 ≤ (F 37 7).toInt ∧ (F 37 7).toInt ≤ 400 := R.1 37 7
theorem Rc.tkn (R : Rc F A) : 0 ≤ (F 37 8).toInt ∧ (F 37 8).toInt ≤ 400 := R.1 37 8
theorem s_isNext {x1 : Int32} (R : Rc F A) : ok (e_Reader_isNext P F A J x1) (fun v => v.toInt = 0 ∨ (v.toInt = 1 ∧ cf F 37 10 = 0)) := by
  have l0 : (0 : Int32).toInt = 0 := by decide
  have a := R.tok
  unfold e_Reader_isNext
  refine ok_cond (fun _ => ok_some (.inl l0)) (fun c => ?_)
  rw [i_nne, l0] at c
  refine ok_ldn (by omega) (by omega) (fun v => ?_)
  exact ok_cond (fun _ => ok_some (.inl l0)) (fun _ => ok_some (.inr ⟨by decide, c⟩))
theorem s_fail {x1 x2 : Int32} (R : Rc F A) (h1 : x1.toInt ≠ 0) : ok (e_Reader_fail P F A J x1 x2) (fun r => QRc P r.2.1 F r.2.2.1 A r.2.2.2.1 ∧ cf r.2.2.1 37 10 ≠ 0) := by
  have l0 : (0 : Int32).toInt = 0 := by decide
  have f15 : ok (e_Reader_fail_15 P F A J x1 x2) (fun r => QRc P r.2.1 F r.2.2.1 A r.2.2.2.1 ∧ cf r.2.2.1 37 10 ≠ 0) := by
    unfold e_Reader_fail_15
    refine ok_cpf ?_
    intro F2 U2
    refine ok_cpf ?_
    intro F3 U3
    have k10 : F3 37 10 = x1 := (U3.2 37 10 (by simp)).trans U2.1
    have k7 : F3 37 7 = F 37 7 := (U3.2 37 7 (by simp)).trans (U2.2 37 7 (by simp))
    have k12 : F3 37 12 = F 37 12 := (U3.2 37 12 (by simp)).trans (U2.2 37 12 (by simp))
    have hne : cf F3 37 10 ≠ 0 := by unfold cf; rw [k10]; exact h1
    refine ok_some ⟨⟨rfl, rfl, fun r k h => (U3.2 r k (by omega)).trans (U2.2 r k (by omega)), (R.pf U2 trivial).pf U3 trivial, ?_, fun _ => hne, ?_⟩, hne⟩
    · unfold cf
      rw [show ((), P, F3, A, J).2.2.1 = F3 from rfl, k7]; omega
    · unfold cf
      rw [show ((), P, F3, A, J).2.2.1 = F3 from rfl, k12]; exact id
  unfold e_Reader_fail
  refine ok_cond (fun _ => f15) (fun c => ?_)
  rw [i_neq, l0] at c
  exact ok_cond (fun _ => ok_some ⟨QRc.rfl' R, c⟩) (fun _ => f15)
theorem s_take {x1 : Int32} (R : Rc F A) : ok (e_Reader_take P F A J x1) (fun r => QRc P r.2.1 F r.2.2.1 A r.2.2.2.1 ∧ ((r.1.toInt = 0 ∧ cf r.2.2.1 37 10 ≠ 0) ∨ (r.1.toInt = 1 ∧ cf F 37 10 = 0 ∧ cf r.2.2.1 37 10 = 0 ∧ cf r.2.2.1 37 7 = cf F 37 7 + 1 ∧ cf r.2.2.1 37 12 = cf F 37 12))) := by
  have l0 : (0 : Int32).toInt = 0 := by decide
  have l1 : (1 : Int32).toInt = 1 := by decide
  have l400 : (400 : Int32).toInt = 400 := by decide
  have a := R.tok
  unfold e_Reader_take
  refine ok_cond (fun c => ?_) (fun c => ?_)
  · rw [i_eq, l0] at c
    refine ok_ldn (by omega) (by omega) (fun v2 => ?_)
    refine ok_cond (fun _ => ?_) (fun _ => ?_)
    · refine ok_cond (fun c3 => ?_) (fun _ => ?_)
      · rw [i_lt] at c3
        refine ok_cpf ?_
        intro F5 U5
        refine ok_cpf ?_
        intro F6 U6
        have k5 : F5 37 7 = F 37 7 := U5.2 37 7 (by simp)
        rw [k5] at U6
        have e6 := i_add (x := F 37 7) (y := 1) (by omega) (by omega)
        have k7 : (F6 37 7).toInt = (F 37 7).toInt + 1 := by rw [U6.1]; omega
        have k10 : F6 37 10 = F 37 10 := (U6.2 37 10 (by simp)).trans (U5.2 37 10 (by simp))
        have k12 : F6 37 12 = F 37 12 := (U6.2 37 12 (by simp)).trans (U5.2 37 12 (by simp))
        refine ok_some ⟨⟨rfl, rfl, fun r k h => (U6.2 r k (by omega)).trans (U5.2 r k (by omega)), (R.pf U5 (show 0 ≤ (F 37 7).toInt ∧ (F 37 7).toInt ≤ 400 from a)).pf U6 (show 0 ≤ (F 37 7 + 1).toInt ∧ (F 37 7 + 1).toInt ≤ 400 by omega), ?_, ?_, ?_⟩, .inr ⟨l1, c, ?_, k7, ?_⟩⟩
        · show (F 37 7).toInt ≤ (F6 37 7).toInt
          omega
        · unfold cf
          rw [show ((1 : Int32), P, F6, A, J).2.2.1 = F6 from rfl, k10]; exact id
        · unfold cf
          rw [show ((1 : Int32), P, F6, A, J).2.2.1 = F6 from rfl, k12]; exact id
        · unfold cf
          rw [show ((1 : Int32), P, F6, A, J).2.2.1 = F6 from rfl, k10]; exact c
        · unfold cf
          rw [show ((1 : Int32), P, F6, A, J).2.2.1 = F6 from rfl, k12]
      · refine ok_ldn (by omega) (by omega) (fun v7 => ?_)
        refine ok_call (s_fail R (by decide)) ?_
        rintro ⟨u, P2, F2, A2, J2⟩ ⟨q, h⟩
        exact ok_some ⟨q, .inl ⟨l0, h⟩⟩
    · refine ok_ldn (by omega) (by omega) (fun v7 => ?_)
      refine ok_call (s_fail R (by decide)) ?_
      rintro ⟨u, P2, F2, A2, J2⟩ ⟨q, h⟩
      exact ok_some ⟨q, .inl ⟨l0, h⟩⟩
  · rw [i_neq, l0] at c
    exact ok_some ⟨QRc.rfl' R, .inl ⟨l0, c⟩⟩
theorem s_failLate {x1 : Int32} (R : Rc F A) (h1 : x1.toInt ≠ 0) : ok (e_Reader_failLate P F A J x1) (fun r => QRc P r.2.1 F r.2.2.1 A r.2.2.2.1 ∧ cf r.2.2.1 37 12 ≠ 0) := by
  have l0 : (0 : Int32).toInt = 0 := by decide
  have a := R.tkn
  unfold e_Reader_failLate
  refine ok_cond (fun c => ?_) (fun c => ?_)
  · rw [i_ne, l0] at c
    exact ok_some ⟨QRc.rfl' R, c⟩
  · refine ok_cpf ?_
    intro F2 U2
    have k8 : F2 37 8 = F 37 8 := U2.2 37 8 (by simp)
    refine ok_ldn (by rw [k8]; omega) (by rw [k8]; omega) (fun v3 => ?_)
    refine ok_cpf ?_
    intro F4 U4
    have k12 : F4 37 12 = x1 := (U4.2 37 12 (by simp)).trans U2.1
    have k7 : F4 37 7 = F 37 7 := (U4.2 37 7 (by simp)).trans (U2.2 37 7 (by simp))
    have k10 : F4 37 10 = F 37 10 := (U4.2 37 10 (by simp)).trans (U2.2 37 10 (by simp))
    have hne : cf F4 37 12 ≠ 0 := by unfold cf; rw [k12]; exact h1
    refine ok_some ⟨⟨rfl, rfl, fun r k h => (U4.2 r k (by omega)).trans (U2.2 r k (by omega)), (R.pf U2 trivial).pf U4 trivial, ?_, ?_, fun _ => hne⟩, hne⟩
    · unfold cf
      rw [show ((), P, F4, A, J).2.2.1 = F4 from rfl, k7]; omega
    · unfold cf
      rw [show ((), P, F4, A, J).2.2.1 = F4 from rfl, k10]; exact id
theorem s_takeFirst {x1 x2 x3 : Int32} (R : Rc F A) : ok (e_Reader_takeFirst P F A J x1 x2 x3) (fun r => QRc P r.2.1 F r.2.2.1 A r.2.2.2.1 ∧ (cf r.2.2.1 37 10 ≠ 0 ∨ (x2.toInt < x3.toInt ∧ cf r.2.2.1 37 7 = cf F 37 7 + 1))) := by
  have a := R.tok
  unfold e_Reader_takeFirst
  refine ok_cond (fun c => ?_) (fun c => ?_)
  · rw [i_lt] at c
    unfold e_Reader_takeFirst_22
    refine ok_call (s_take R) ?_
    rintro ⟨v, P2, F2, A2, J2⟩ ⟨q, h⟩
    dsimp only at q h ⊢
    refine ok_some ⟨q, ?_⟩
    rcases h with h | h
    · exact .inl h.2
    · exact .inr ⟨c, h.2.2.2.1⟩
  · refine ok_ldn (by omega) (by omega) (fun v2 => ?_)
    refine ok_call (s_fail R (by decide)) ?_
    rintro ⟨u, P2, F2, A2, J2⟩ ⟨q, h⟩
    dsimp only at q h ⊢
    refine ok_call (s_take q.2.2.2.1) ?_
    rintro ⟨v, P3, F3, A3, J3⟩ ⟨q3, _⟩
    dsimp only at q3 ⊢
    exact ok_some ⟨q.tr q3, .inl (q3.2.2.2.2.2.1 h)⟩
theorem s_takeNumber {x1 x2 : Int32} (R : Rc F A) : ok (e_Reader_takeNumber P F A J x1 x2) (fun r => QRc P r.2.1 F r.2.2.1 A r.2.2.2.1 ∧ (cf r.2.2.1 37 10 ≠ 0 ∨ cf r.2.2.1 37 12 ≠ 0 ∨ (x1.toInt ≤ r.1.toInt ∧ r.1.toInt ≤ x2.toInt))) := by
  have l0 : (0 : Int32).toInt = 0 := by decide
  unfold e_Reader_takeNumber
  refine ok_call (s_take R) ?_
  rintro ⟨v, P2, F2, A2, J2⟩ ⟨q, h⟩
  dsimp only at q h ⊢
  have a := q.2.2.2.1.tkn
  refine ok_cond (fun c => ?_) (fun c => ?_)
  · refine ok_ldn (by omega) (by omega) (fun v7 => ?_)
    have f34 : ok (e_Reader_takeNumber_34 P2 F2 A2 J2 v7) (fun r => QRc P r.2.1 F r.2.2.1 A r.2.2.2.1 ∧ (cf r.2.2.1 37 10 ≠ 0 ∨ cf r.2.2.1 37 12 ≠ 0 ∨ (x1.toInt ≤ r.1.toInt ∧ r.1.toInt ≤ x2.toInt))) := by
      unfold e_Reader_takeNumber_34
      refine ok_call (s_failLate q.2.2.2.1 (by decide)) ?_
      rintro ⟨u, P3, F3, A3, J3⟩ ⟨q3, h3⟩
      exact ok_some ⟨q.tr q3, .inr (.inl h3)⟩
    refine ok_cond (fun _ => f34) (fun c2 => ?_)
    rw [i_nlt] at c2
    refine ok_cond (fun c3 => ?_) (fun _ => f34)
    rw [i_le] at c3
    exact ok_some ⟨q, .inr (.inr ⟨c2, c3⟩)⟩
  · rw [i_nne, l0] at c
    exact ok_some ⟨q, .inl (show cf F2 37 10 ≠ 0 by omega)⟩
theorem s_takeStepNumber {d : Nat} {x1 : Int32} (e5 : P 37 5 = d) (hk : c_kind d = 6) (R : Rc F A) (h1 : x1.toInt ≤ 5) : ok (e_Reader_takeStepNumber P F A J x1) (fun r => QRc P r.2.1 F r.2.2.1 A r.2.2.2.1 ∧ (cf r.2.2.1 37 10 ≠ 0 ∨ cf r.2.2.1 37 12 ≠ 0 ∨ x1.toInt < 0 ∨ (0 ≤ r.1.toInt ∧ r.1.toInt < ci A d 5 x1.toInt))) := by
  have l0 : (0 : Int32).toInt = 0 := by decide
  have l1 : (1 : Int32).toInt = 1 := by decide
  have f23 : ∀ {s2 : Int32}, (x1.toInt < 0 ∨ s2.toInt < ci A d 5 x1.toInt) → ok (e_Reader_takeStepNumber_23 P F A J 0 s2) (fun r => QRc P r.2.1 F r.2.2.1 A r.2.2.2.1 ∧ (cf r.2.2.1 37 10 ≠ 0 ∨ cf r.2.2.1 37 12 ≠ 0 ∨ x1.toInt < 0 ∨ (0 ≤ r.1.toInt ∧ r.1.toInt < ci A d 5 x1.toInt))) := by
    intro s2 hs
    unfold e_Reader_takeStepNumber_23
    refine ok_call (s_takeNumber R) ?_
    rintro ⟨v, P2, F2, A2, J2⟩ ⟨q, h⟩
    dsimp only at q h ⊢
    refine ok_some ⟨q, ?_⟩
    rcases h with h | h | h
    · exact .inl h
    · exact .inr (.inl h)
    · rcases hs with z | z
      · exact .inr (.inr (.inl z))
      · exact .inr (.inr (.inr ⟨show 0 ≤ v.toInt by omega, show v.toInt < _ by omega⟩))
  unfold e_Reader_takeStepNumber
  refine ok_cond (fun c => ?_) (fun c => ?_)
  · rw [i_ge] at c
    rw [e5]
    refine ok_chk hk ?_
    refine ok_ldc R hk (by omega) (by omega) ?_
    intro v3 v3e v3r
    change 0 ≤ v3.toInt ∧ v3.toInt ≤ 6 at v3r
    have e := i_sub (x := v3) (y := 1) (by omega) (by omega)
    exact f23 (.inr (by omega))
  · rw [i_nge] at c
    exact f23 (.inl (by omega))
theorem s_find_3 {x0 : Int64} {x3 : Int32} : ∀ {n : Nat} {x4 : Int32}, 0 ≤ x4.toInt ∧ x4.toInt ≤ 8 → 9 - x4.toInt < (n : Int) → ok (e_Reader_find_3 n P F A J x0 x3 x4) (fun v => -1 ≤ v.toInt ∧ (v.toInt < x3.toInt ∨ v.toInt = -1) ∧ v.toInt ≤ 7) := by
  intro n
  induction n with
  | zero => intro x4 hx hn; exact absurd hn (by omega)
  | succ n ih =>
    intro x4 hx hn
    have l1 : (1 : Int32).toInt = 1 := by decide
    have lm : (-1 : Int32).toInt = -1 := by decide
    have lo : (Int32.ofNat 8).toInt = 8 := by decide
    unfold e_Reader_find_3
    refine ok_cond (fun _ => ok_some ⟨by omega, .inr lm, by omega⟩) (fun c => ?_)
    rw [i_nge] at c
    refine ok_cond (fun _ => ok_some ⟨by omega, .inr lm, by omega⟩) (fun c2 => ?_)
    rw [i_nge] at c2
    have e4 := i_add (x := x4) (y := 1) (by omega) (by omega)
    refine ok_ldJc (by omega) (by omega) (fun v3 => ?_)
    exact ok_cond (fun _ => ih (by omega) (by omega)) (fun _ => ok_some ⟨by omega, .inl c, by omega⟩)
theorem s_find {x0 : Int64} {x3 : Int32} (hn : 10 ≤ n) : ok (e_Reader_find n P F A J x0 x3) (fun v => -1 ≤ v.toInt ∧ (v.toInt < x3.toInt ∨ v.toInt = -1) ∧ v.toInt ≤ 7) := by
  have l0 : (0 : Int32).toInt = 0 := by decide
  unfold e_Reader_find
  exact s_find_3 (by decide) (by omega)
theorem s_find_v1_3 {x0 : Int64} {x3 : Int32} : ∀ {n : Nat} {x4 : Int32}, 0 ≤ x4.toInt ∧ x4.toInt ≤ 6 → 7 - x4.toInt < (n : Int) → ok (e_Reader_find_v1_3 n P F A J x0 x3 x4) (fun v => -1 ≤ v.toInt ∧ (v.toInt < x3.toInt ∨ v.toInt = -1) ∧ v.toInt ≤ 5) := by
  intro n
  induction n with
  | zero => intro x4 hx hn; exact absurd hn (by omega)
  | succ n ih =>
    intro x4 hx hn
    have l1 : (1 : Int32).toInt = 1 := by decide
    have lm : (-1 : Int32).toInt = -1 := by decide
    have lo : (Int32.ofNat 6).toInt = 6 := by decide
    unfold e_Reader_find_v1_3
    refine ok_cond (fun _ => ok_some ⟨by omega, .inr lm, by omega⟩) (fun c => ?_)
    rw [i_nge] at c
    refine ok_cond (fun _ => ok_some ⟨by omega, .inr lm, by omega⟩) (fun c2 => ?_)
    rw [i_nge] at c2
    have e4 := i_add (x := x4) (y := 1) (by omega) (by omega)
    refine ok_ldJc (by omega) (by omega) (fun v3 => ?_)
    exact ok_cond (fun _ => ih (by omega) (by omega)) (fun _ => ok_some ⟨by omega, .inl c, by omega⟩)
theorem s_find_v1 {x0 : Int64} {x3 : Int32} (hn : 10 ≤ n) : ok (e_Reader_find_v1 n P F A J x0 x3) (fun v => -1 ≤ v.toInt ∧ (v.toInt < x3.toInt ∨ v.toInt = -1) ∧ v.toInt ≤ 5) := by
  have l0 : (0 : Int32).toInt = 0 := by decide
  unfold e_Reader_find_v1
  exact s_find_v1_3 (by decide) (by omega)
theorem s_find_v2_3 {x0 : Int64} {x3 : Int32} : ∀ {n : Nat} {x4 : Int32}, 0 ≤ x4.toInt ∧ x4.toInt ≤ 6 → 7 - x4.toInt < (n : Int) → ok (e_Reader_find_v2_3 n P F A J x0 x3 x4) (fun v => -1 ≤ v.toInt ∧ (v.toInt < x3.toInt ∨ v.toInt = -1) ∧ v.toInt ≤ 5) := by
  intro n
  induction n with
  | zero => intro x4 hx hn; exact absurd hn (by omega)
  | succ n ih =>
    intro x4 hx hn
    have l1 : (1 : Int32).toInt = 1 := by decide
    have lm : (-1 : Int32).toInt = -1 := by decide
    have lo : (Int32.ofNat 6).toInt = 6 := by decide
    unfold e_Reader_find_v2_3
    refine ok_cond (fun _ => ok_some ⟨by omega, .inr lm, by omega⟩) (fun c => ?_)
    rw [i_nge] at c
    refine ok_cond (fun _ => ok_some ⟨by omega, .inr lm, by omega⟩) (fun c2 => ?_)
    rw [i_nge] at c2
    have e4 := i_add (x := x4) (y := 1) (by omega) (by omega)
    refine ok_ldJc (by omega) (by omega) (fun v3 => ?_)
    exact ok_cond (fun _ => ih (by omega) (by omega)) (fun _ => ok_some ⟨by omega, .inl c, by omega⟩)
theorem s_find_v2 {x0 : Int64} {x3 : Int32} (hn : 10 ≤ n) : ok (e_Reader_find_v2 n P F A J x0 x3) (fun v => -1 ≤ v.toInt ∧ (v.toInt < x3.toInt ∨ v.toInt = -1) ∧ v.toInt ≤ 5) := by
  have l0 : (0 : Int32).toInt = 0 := by decide
  unfold e_Reader_find_v2
  exact s_find_v2_3 (by decide) (by omega)
theorem s_find_v3_3 {x0 : Int64} {x3 : Int32} : ∀ {n : Nat} {x4 : Int32}, 0 ≤ x4.toInt ∧ x4.toInt ≤ 6 → 7 - x4.toInt < (n : Int) → ok (e_Reader_find_v3_3 n P F A J x0 x3 x4) (fun v => -1 ≤ v.toInt ∧ (v.toInt < x3.toInt ∨ v.toInt = -1) ∧ v.toInt ≤ 5) := by
  intro n
  induction n with
  | zero => intro x4 hx hn; exact absurd hn (by omega)
  | succ n ih =>
    intro x4 hx hn
    have l1 : (1 : Int32).toInt = 1 := by decide
    have lm : (-1 : Int32).toInt = -1 := by decide
    have lo : (Int32.ofNat 6).toInt = 6 := by decide
    unfold e_Reader_find_v3_3
    refine ok_cond (fun _ => ok_some ⟨by omega, .inr lm, by omega⟩) (fun c => ?_)
    rw [i_nge] at c
    refine ok_cond (fun _ => ok_some ⟨by omega, .inr lm, by omega⟩) (fun c2 => ?_)
    rw [i_nge] at c2
    have e4 := i_add (x := x4) (y := 1) (by omega) (by omega)
    refine ok_ldJc (by omega) (by omega) (fun v3 => ?_)
    exact ok_cond (fun _ => ih (by omega) (by omega)) (fun _ => ok_some ⟨by omega, .inl c, by omega⟩)
theorem s_find_v3 {x0 : Int64} {x3 : Int32} (hn : 10 ≤ n) : ok (e_Reader_find_v3 n P F A J x0 x3) (fun v => -1 ≤ v.toInt ∧ (v.toInt < x3.toInt ∨ v.toInt = -1) ∧ v.toInt ≤ 5) := by
  have l0 : (0 : Int32).toInt = 0 := by decide
  unfold e_Reader_find_v3
  exact s_find_v3_3 (by decide) (by omega)
theorem s_known {x2 : Int32} (R : Rc F A) (hn : 10 ≤ n) : ok (e_Reader_takeKnownName n P F A J x2) (fun r => QRc P r.2.1 F r.2.2.1 A r.2.2.2.1 ∧ -1 ≤ r.1.toInt ∧ (r.1.toInt < x2.toInt ∨ r.1.toInt = -1) ∧ r.1.toInt ≤ 7 ∧ (0 ≤ r.1.toInt ∨ cf r.2.2.1 37 10 ≠ 0 ∨ cf r.2.2.1 37 12 ≠ 0)) := by
  have l0 : (0 : Int32).toInt = 0 := by decide
  have lm : (-1 : Int32).toInt = -1 := by decide
  unfold e_Reader_takeKnownName
  refine ok_call (s_take R) ?_
  rintro ⟨v, P2, F2, A2, J2⟩ ⟨q, h⟩
  dsimp only at q h ⊢
  have a := q.2.2.2.1.tkn
  refine ok_cond (fun c => ?_) (fun c => ?_)
  · refine ok_ldJc (by omega) (by omega) (fun v7 => ?_)
    refine ok_call (s_find hn) ?_
    intro v8 p8
    refine ok_cond (fun c2 => ?_) (fun c2 => ?_)
    · rw [i_ge] at c2
      exact ok_some ⟨q, p8.1, p8.2.1, p8.2.2, .inl (show 0 ≤ v8.toInt by omega)⟩
    · refine ok_call (s_failLate q.2.2.2.1 (by decide)) ?_
      rintro ⟨u, P3, F3, A3, J3⟩ ⟨q3, h3⟩
      exact ok_some ⟨q.tr q3, p8.1, p8.2.1, p8.2.2, .inr (.inr h3)⟩
  · rw [i_nne, l0] at c
    exact ok_some ⟨q, by show -1 ≤ (-1 : Int32).toInt; decide, .inr lm, by show (-1 : Int32).toInt ≤ 7; decide, .inr (.inl (show cf F2 37 10 ≠ 0 by omega))⟩
theorem s_known_v1 {x2 : Int32} (R : Rc F A) (hn : 10 ≤ n) : ok (e_Reader_takeKnownName_v1 n P F A J x2) (fun r => QRc P r.2.1 F r.2.2.1 A r.2.2.2.1 ∧ -1 ≤ r.1.toInt ∧ (r.1.toInt < x2.toInt ∨ r.1.toInt = -1) ∧ r.1.toInt ≤ 5 ∧ (0 ≤ r.1.toInt ∨ cf r.2.2.1 37 10 ≠ 0 ∨ cf r.2.2.1 37 12 ≠ 0)) := by
  have l0 : (0 : Int32).toInt = 0 := by decide
  have lm : (-1 : Int32).toInt = -1 := by decide
  unfold e_Reader_takeKnownName_v1
  refine ok_call (s_take R) ?_
  rintro ⟨v, P2, F2, A2, J2⟩ ⟨q, h⟩
  dsimp only at q h ⊢
  have a := q.2.2.2.1.tkn
  refine ok_cond (fun c => ?_) (fun c => ?_)
  · refine ok_ldJc (by omega) (by omega) (fun v7 => ?_)
    refine ok_call (s_find_v2 hn) ?_
    intro v8 p8
    refine ok_cond (fun c2 => ?_) (fun c2 => ?_)
    · rw [i_ge] at c2
      exact ok_some ⟨q, p8.1, p8.2.1, p8.2.2, .inl (show 0 ≤ v8.toInt by omega)⟩
    · refine ok_call (s_failLate q.2.2.2.1 (by decide)) ?_
      rintro ⟨u, P3, F3, A3, J3⟩ ⟨q3, h3⟩
      exact ok_some ⟨q.tr q3, p8.1, p8.2.1, p8.2.2, .inr (.inr h3)⟩
  · rw [i_nne, l0] at c
    exact ok_some ⟨q, by show -1 ≤ (-1 : Int32).toInt; decide, .inr lm, by show (-1 : Int32).toInt ≤ 5; decide, .inr (.inl (show cf F2 37 10 ≠ 0 by omega))⟩
theorem s_known_v2 {x2 : Int32} (R : Rc F A) (hn : 10 ≤ n) : ok (e_Reader_takeKnownName_v2 n P F A J x2) (fun r => QRc P r.2.1 F r.2.2.1 A r.2.2.2.1 ∧ -1 ≤ r.1.toInt ∧ (r.1.toInt < x2.toInt ∨ r.1.toInt = -1) ∧ r.1.toInt ≤ 5 ∧ (0 ≤ r.1.toInt ∨ cf r.2.2.1 37 10 ≠ 0 ∨ cf r.2.2.1 37 12 ≠ 0)) := by
  have l0 : (0 : Int32).toInt = 0 := by decide
  have lm : (-1 : Int32).toInt = -1 := by decide
  unfold e_Reader_takeKnownName_v2
  refine ok_call (s_take R) ?_
  rintro ⟨v, P2, F2, A2, J2⟩ ⟨q, h⟩
  dsimp only at q h ⊢
  have a := q.2.2.2.1.tkn
  refine ok_cond (fun c => ?_) (fun c => ?_)
  · refine ok_ldJc (by omega) (by omega) (fun v7 => ?_)
    refine ok_call (s_find_v1 hn) ?_
    intro v8 p8
    refine ok_cond (fun c2 => ?_) (fun c2 => ?_)
    · rw [i_ge] at c2
      exact ok_some ⟨q, p8.1, p8.2.1, p8.2.2, .inl (show 0 ≤ v8.toInt by omega)⟩
    · refine ok_call (s_failLate q.2.2.2.1 (by decide)) ?_
      rintro ⟨u, P3, F3, A3, J3⟩ ⟨q3, h3⟩
      exact ok_some ⟨q.tr q3, p8.1, p8.2.1, p8.2.2, .inr (.inr h3)⟩
  · rw [i_nne, l0] at c
    exact ok_some ⟨q, by show -1 ≤ (-1 : Int32).toInt; decide, .inr lm, by show (-1 : Int32).toInt ≤ 5; decide, .inr (.inl (show cf F2 37 10 ≠ 0 by omega))⟩
theorem s_known_v3 {x2 : Int32} (R : Rc F A) (hn : 10 ≤ n) : ok (e_Reader_takeKnownName_v3 n P F A J x2) (fun r => QRc P r.2.1 F r.2.2.1 A r.2.2.2.1 ∧ -1 ≤ r.1.toInt ∧ (r.1.toInt < x2.toInt ∨ r.1.toInt = -1) ∧ r.1.toInt ≤ 5 ∧ (0 ≤ r.1.toInt ∨ cf r.2.2.1 37 10 ≠ 0 ∨ cf r.2.2.1 37 12 ≠ 0)) := by
  have l0 : (0 : Int32).toInt = 0 := by decide
  have lm : (-1 : Int32).toInt = -1 := by decide
  unfold e_Reader_takeKnownName_v3
  refine ok_call (s_take R) ?_
  rintro ⟨v, P2, F2, A2, J2⟩ ⟨q, h⟩
  dsimp only at q h ⊢
  have a := q.2.2.2.1.tkn
  refine ok_cond (fun c => ?_) (fun c => ?_)
  · refine ok_ldJc (by omega) (by omega) (fun v7 => ?_)
    refine ok_call (s_find_v3 hn) ?_
    intro v8 p8
    refine ok_cond (fun c2 => ?_) (fun c2 => ?_)
    · rw [i_ge] at c2
      exact ok_some ⟨q, p8.1, p8.2.1, p8.2.2, .inl (show 0 ≤ v8.toInt by omega)⟩
    · refine ok_call (s_failLate q.2.2.2.1 (by decide)) ?_
      rintro ⟨u, P3, F3, A3, J3⟩ ⟨q3, h3⟩
      exact ok_some ⟨q.tr q3, p8.1, p8.2.1, p8.2.2, .inr (.inr h3)⟩
  · rw [i_nne, l0] at c
    exact ok_some ⟨q, by show -1 ≤ (-1 : Int32).toInt; decide, .inr lm, by show (-1 : Int32).toInt ≤ 5; decide, .inr (.inl (show cf F2 37 10 ≠ 0 by omega))⟩
theorem s_newName {d : Nat} {x2 : Int32} (e5 : P 37 5 = d) (hk : c_kind d = 6) (R : Rc F A) (h2 : 0 ≤ x2.toInt) (hn : 10 ≤ n) : ok (e_Reader_takeNewName n P F A J x2) (fun r => QRc P r.2.1 F r.2.2.1 A r.2.2.2.1) := by
  have lo : (Int32.ofNat 8).toInt = 8 := by decide
  unfold e_Reader_takeNewName
  refine ok_call (s_take R) ?_
  rintro ⟨v, P2, F2, A2, J2⟩ ⟨q, h⟩
  dsimp only at q h ⊢
  have a := q.2.2.2.1.tkn
  have e5' : P2 37 5 = d := by rw [q.1]; exact e5
  refine ok_cond (fun _ => ok_some q) (fun c => ?_)
  refine ok_cond (fun c2 => ?_) (fun _ => ok_some q)
  rw [i_lt] at c2
  refine ok_ldJc (by omega) (by omega) (fun v8 => ?_)
  have f101 : ok (e_Reader_takeNewName_101 n P2 F2 A2 J2 x2 v8) (fun r => QRc P r.2.1 F r.2.2.1 A r.2.2.2.1) := by
    unfold e_Reader_takeNewName_101
    refine ok_call (s_failLate q.2.2.2.1 (by decide)) ?_
    rintro ⟨u, P3, F3, A3, J3⟩ ⟨q3, h3⟩
    dsimp only at q3 ⊢
    exact ok_cstJ (by omega) (by omega) (fun J' => ok_some (q.tr q3))
  rw [e5']
  refine ok_chk hk ?_
  refine ok_call (s_find hn) ?_
  intro v10 _
  refine ok_cond (fun _ => f101) (fun _ => ?_)
  refine ok_chk hk ?_
  refine ok_call (s_find_v1 hn) ?_
  intro v13 _
  refine ok_cond (fun _ => f101) (fun _ => ?_)
  refine ok_chk hk ?_
  refine ok_call (s_find_v2 hn) ?_
  intro v16 _
  refine ok_cond (fun _ => f101) (fun _ => ?_)
  refine ok_chk hk ?_
  refine ok_call (s_find_v3 hn) ?_
  intro v19 _
  refine ok_cond (fun _ => ?_) (fun _ => f101)
  unfold e_Reader_takeNewName_106
  exact ok_cstJ (by omega) (by omega) (fun J' => ok_some q)
theorem s_newName_v1 {d : Nat} {x2 : Int32} (e5 : P 37 5 = d) (hk : c_kind d = 6) (R : Rc F A) (h2 : 0 ≤ x2.toInt) (hn : 10 ≤ n) : ok (e_Reader_takeNewName_v1 n P F A J x2) (fun r => QRc P r.2.1 F r.2.2.1 A r.2.2.2.1) := by
  have lo : (Int32.ofNat 6).toInt = 6 := by decide
  unfold e_Reader_takeNewName_v1
  refine ok_call (s_take R) ?_
  rintro ⟨v, P2, F2, A2, J2⟩ ⟨q, h⟩
  dsimp only at q h ⊢
  have a := q.2.2.2.1.tkn
  have e5' : P2 37 5 = d := by rw [q.1]; exact e5
  refine ok_cond (fun _ => ok_some q) (fun c => ?_)
  refine ok_cond (fun c2 => ?_) (fun _ => ok_some q)
  rw [i_lt] at c2
  refine ok_ldJc (by omega) (by omega) (fun v8 => ?_)
  have f101 : ok (e_Reader_takeNewName_v1_101 n P2 F2 A2 J2 x2 v8) (fun r => QRc P r.2.1 F r.2.2.1 A r.2.2.2.1) := by
    unfold e_Reader_takeNewName_v1_101
    refine ok_call (s_failLate q.2.2.2.1 (by decide)) ?_
    rintro ⟨u, P3, F3, A3, J3⟩ ⟨q3, h3⟩
    dsimp only at q3 ⊢
    exact ok_cstJ (by omega) (by omega) (fun J' => ok_some (q.tr q3))
  rw [e5']
  refine ok_chk hk ?_
  refine ok_call (s_find hn) ?_
  intro v10 _
  refine ok_cond (fun _ => f101) (fun _ => ?_)
  refine ok_chk hk ?_
  refine ok_call (s_find_v1 hn) ?_
  intro v13 _
  refine ok_cond (fun _ => f101) (fun _ => ?_)
  refine ok_chk hk ?_
  refine ok_call (s_find_v2 hn) ?_
  intro v16 _
  refine ok_cond (fun _ => f101) (fun _ => ?_)
  refine ok_chk hk ?_
  refine ok_call (s_find_v3 hn) ?_
  intro v19 _
  refine ok_cond (fun _ => ?_) (fun _ => f101)
  unfold e_Reader_takeNewName_v1_106
  exact ok_cstJ (by omega) (by omega) (fun J' => ok_some q)
theorem s_newName_v2 {d : Nat} {x2 : Int32} (e5 : P 37 5 = d) (hk : c_kind d = 6) (R : Rc F A) (h2 : 0 ≤ x2.toInt) (hn : 10 ≤ n) : ok (e_Reader_takeNewName_v2 n P F A J x2) (fun r => QRc P r.2.1 F r.2.2.1 A r.2.2.2.1) := by
  have lo : (Int32.ofNat 6).toInt = 6 := by decide
  unfold e_Reader_takeNewName_v2
  refine ok_call (s_take R) ?_
  rintro ⟨v, P2, F2, A2, J2⟩ ⟨q, h⟩
  dsimp only at q h ⊢
  have a := q.2.2.2.1.tkn
  have e5' : P2 37 5 = d := by rw [q.1]; exact e5
  refine ok_cond (fun _ => ok_some q) (fun c => ?_)
  refine ok_cond (fun c2 => ?_) (fun _ => ok_some q)
  rw [i_lt] at c2
  refine ok_ldJc (by omega) (by omega) (fun v8 => ?_)
  have f101 : ok (e_Reader_takeNewName_v2_101 n P2 F2 A2 J2 x2 v8) (fun r => QRc P r.2.1 F r.2.2.1 A r.2.2.2.1) := by
    unfold e_Reader_takeNewName_v2_101
    refine ok_call (s_failLate q.2.2.2.1 (by decide)) ?_
    rintro ⟨u, P3, F3, A3, J3⟩ ⟨q3, h3⟩
    dsimp only at q3 ⊢
    exact ok_cstJ (by omega) (by omega) (fun J' => ok_some (q.tr q3))
  rw [e5']
  refine ok_chk hk ?_
  refine ok_call (s_find hn) ?_
  intro v10 _
  refine ok_cond (fun _ => f101) (fun _ => ?_)
  refine ok_chk hk ?_
  refine ok_call (s_find_v1 hn) ?_
  intro v13 _
  refine ok_cond (fun _ => f101) (fun _ => ?_)
  refine ok_chk hk ?_
  refine ok_call (s_find_v2 hn) ?_
  intro v16 _
  refine ok_cond (fun _ => f101) (fun _ => ?_)
  refine ok_chk hk ?_
  refine ok_call (s_find_v3 hn) ?_
  intro v19 _
  refine ok_cond (fun _ => ?_) (fun _ => f101)
  unfold e_Reader_takeNewName_v2_106
  exact ok_cstJ (by omega) (by omega) (fun J' => ok_some q)
theorem s_newName_v3 {d : Nat} {x2 : Int32} (e5 : P 37 5 = d) (hk : c_kind d = 6) (R : Rc F A) (h2 : 0 ≤ x2.toInt) (hn : 10 ≤ n) : ok (e_Reader_takeNewName_v3 n P F A J x2) (fun r => QRc P r.2.1 F r.2.2.1 A r.2.2.2.1) := by
  have lo : (Int32.ofNat 6).toInt = 6 := by decide
  unfold e_Reader_takeNewName_v3
  refine ok_call (s_take R) ?_
  rintro ⟨v, P2, F2, A2, J2⟩ ⟨q, h⟩
  dsimp only at q h ⊢
  have a := q.2.2.2.1.tkn
  have e5' : P2 37 5 = d := by rw [q.1]; exact e5
  refine ok_cond (fun _ => ok_some q) (fun c => ?_)
  refine ok_cond (fun c2 => ?_) (fun _ => ok_some q)
  rw [i_lt] at c2
  refine ok_ldJc (by omega) (by omega) (fun v8 => ?_)
  have f101 : ok (e_Reader_takeNewName_v3_101 n P2 F2 A2 J2 x2 v8) (fun r => QRc P r.2.1 F r.2.2.1 A r.2.2.2.1) := by
    unfold e_Reader_takeNewName_v3_101
    refine ok_call (s_failLate q.2.2.2.1 (by decide)) ?_
    rintro ⟨u, P3, F3, A3, J3⟩ ⟨q3, h3⟩
    dsimp only at q3 ⊢
    exact ok_cstJ (by omega) (by omega) (fun J' => ok_some (q.tr q3))
  rw [e5']
  refine ok_chk hk ?_
  refine ok_call (s_find hn) ?_
  intro v10 _
  refine ok_cond (fun _ => f101) (fun _ => ?_)
  refine ok_chk hk ?_
  refine ok_call (s_find_v1 hn) ?_
  intro v13 _
  refine ok_cond (fun _ => f101) (fun _ => ?_)
  refine ok_chk hk ?_
  refine ok_call (s_find_v2 hn) ?_
  intro v16 _
  refine ok_cond (fun _ => f101) (fun _ => ?_)
  refine ok_chk hk ?_
  refine ok_call (s_find_v3 hn) ?_
  intro v19 _
  refine ok_cond (fun _ => ?_) (fun _ => f101)
  unfold e_Reader_takeNewName_v3_106
  exact ok_cstJ (by omega) (by omega) (fun J' => ok_some q)
end R97
end Qz86
section Qz87
/-! the class's scanner -/
section S98
variable {P : Nat → Nat → Nat} {J : Nat → Nat → Nat → Int64}
/-- what the scanner changes -/
def SCc (F F' : Nat → Nat → Int32) (A A' : Nat → Nat → Nat → Int32) : Prop := (∀ r k, ¬ (r = 37 ∧ k = 105) → F' r k = F r k) ∧ (∀ r o, ¬ (r = 37 ∧ (o = 2 ∨ o = 3 ∨ o = 4)) → A' r o = A r o) ∧ Rc F' A'
theorem SCc.tr {F F1 F' : Nat → Nat → Int32} {A A1 A' : Nat → Nat → Nat → Int32} (a : SCc F F1 A A1) (b : SCc F1 F' A1 A') : SCc F F' A A' := ⟨fun r k h => (b.1 r k h).trans (a.1 r k h), fun r o h => (b.2.1 r o h).trans (a.2.1 r o h), b.2.2⟩
theorem SCc.rfl' {F : Nat → Nat → Int32} {A : Nat → Nat → Nat → Int32} (R : Rc F A) : SCc F F A A := ⟨fun _ _ _ => rfl, fun _ _ _ => rfl, R⟩
theorem SCc.st {F F' : Nat → Nat → Int32} {A A1 A' : Nat → Nat → Nat → Int32} {o : Nat} {i v : Int} (a : SCc F F' A A1) (U : CUm A1 A' 37 o i v) (ho : o = 2 ∨ o = 3 ∨ o = 4) : SCc F F' A A' := ⟨a.1, fun r o' h => (U.2.2 r o' (by rintro ⟨rfl, rfl⟩; exact h ⟨rfl, ho⟩)).trans (a.2.1 r o' h), a.2.2.st U trivial⟩
def SPc (P : Nat → Nat → Nat) (F : Nat → Nat → Int32) (A : Nat → Nat → Nat → Int32) (r : Unit × (Nat → Nat → Nat) × (Nat → Nat → Int32) × (Nat → Nat → Nat → Int32) × (Nat → Nat → Nat → Int64)) : Prop := r.2.1 = P ∧ SCc F r.2.2.1 A r.2.2.2.1
theorem SPc.go {F F1 : Nat → Nat → Int32} {A A1 : Nat → Nat → Nat → Int32} {r : Unit × (Nat → Nat → Nat) × (Nat → Nat → Int32) × (Nat → Nat → Nat → Int32) × (Nat → Nat → Nat → Int64)} (a : SCc F F1 A A1) (b : SPc P F1 A1 r) : SPc P F A r := ⟨b.1, a.tr b.2⟩
theorem s_isBlank {F : Nat → Nat → Int32} {A : Nat → Nat → Nat → Int32} {x0 : Int32} : ok (e_Scanner_isBlank P F A J x0) (fun _ => True) := by
  unfold e_Scanner_isBlank
  exact ok_cond (fun _ => ok_some trivial) (fun _ => ok_cond (fun _ => ok_some trivial) (fun _ => ok_cond (fun _ => ok_some trivial) (fun _ => ok_cond (fun _ => ok_some trivial) (fun _ => ok_some trivial))))
theorem s_isLetter {F : Nat → Nat → Int32} {A : Nat → Nat → Nat → Int32} {x0 : Int32} : ok (e_Scanner_isLetter P F A J x0) (fun _ => True) := by
  unfold e_Scanner_isLetter
  exact ok_cond (fun _ => ok_some trivial) (fun _ => ok_cond (fun _ => ok_some trivial) (fun _ => ok_some trivial))
theorem s_isDigit {F : Nat → Nat → Int32} {A : Nat → Nat → Nat → Int32} {x0 : Int32} : ok (e_Scanner_isDigit P F A J x0) (fun _ => True) := by
  unfold e_Scanner_isDigit
  exact ok_cond (fun _ => ok_some trivial) (fun _ => ok_cond (fun _ => ok_some trivial) (fun _ => ok_some trivial))
theorem s_indexOfChar_7 {F : Nat → Nat → Int32} {A : Nat → Nat → Nat → Int32} {x3 x4 : Int32} (h3 : x3.toInt ≤ 9) : ∀ {n : Nat} {x5 : Int32}, 0 ≤ x5.toInt ∧ x5.toInt ≤ 9 → 10 - x5.toInt < (n : Int) → ok (e_StringLatin1_indexOfChar_7 n P F A J x3 x4 x5) (fun _ => True) := by
  intro n
  induction n with
  | zero => intro x5 hx hn; exact absurd hn (by omega)
  | succ n ih =>
    intro x5 hx hn
    have l1 : (1 : Int32).toInt = 1 := by decide
    unfold e_StringLatin1_indexOfChar_7
    refine ok_cond (fun _ => ok_some trivial) (fun c => ?_)
    rw [i_nge] at c
    have e := i_add (x := x5) (y := 1) (by omega) (by omega)
    refine ok_ldn (by omega) (by omega) (fun v => ?_)
    exact ok_cond (fun _ => ih (by omega) (by omega)) (fun _ => ok_some trivial)
theorem s_indexOf {n : Nat} {F : Nat → Nat → Int32} {A : Nat → Nat → Nat → Int32} {x1 : Int32} (hn : 12 ≤ n) : ok (e_String_indexOf n P F A J x1) (fun _ => True) := by
  unfold e_String_indexOf e_String_indexOf_v1 e_String_length
  have body : ok ((some ((9 : Int32) >>> ((0 : Int32) &&& 31))).bind fun v2 => (e_StringLatin1_indexOf n P F A J x1 0 v2).bind fun v3 => some v3) (fun _ => True) := by
    show ok ((e_StringLatin1_indexOf n P F A J x1 0 ((9 : Int32) >>> ((0 : Int32) &&& 31))).bind fun v3 => some v3) (fun _ => True)
    have e9 : ((9 : Int32) >>> ((0 : Int32) &&& 31)) = 9 := by decide
    rw [e9]
    have idx : ok (e_StringLatin1_indexOf n P F A J x1 0 9) (fun _ => True) := by
      unfold e_StringLatin1_indexOf e_StringLatin1_canEncode
      have enc : ok (cond (g_cnd .lt x1 0) (some (0 : Int32)) (cond (g_cnd .gt x1 255) (some 0) (some 1))) (fun _ => True) := ok_cond (fun _ => ok_some trivial) (fun _ => ok_cond (fun _ => ok_some trivial) (fun _ => ok_some trivial))
      refine ok_call enc ?_
      intro v1 _
      refine ok_cond (fun _ => ?_) (fun _ => ok_some trivial)
      refine ok_cond (fun _ => ?_) (fun _ => ok_some trivial)
      unfold e_StringLatin1_indexOfChar
      have t1 : (if (0 : Int32) < 0 then 0 else 0 : Int32).toInt = 0 := by decide
      have t2 : (if (9 : Int32) < 9 then 9 else 9 : Int32).toInt = 9 := by decide
      exact ok_call (s_indexOfChar_7 (by rw [t2]; decide) (by rw [t1]; decide) (by rw [t1]; omega)) (fun _ _ => ok_some trivial)
    exact ok_call idx (fun _ _ => ok_some trivial)
  exact ok_call body (fun _ _ => ok_some trivial)
/-- one byte on -/
theorem SCc.on {F F' : Nat → Nat → Int32} {A : Nat → Nat → Nat → Int32} (R : Rc F A) (U : FUm F F' 37 105 (F 37 105 + 1)) (h : (F 37 105).toInt < (F 1 1).toInt) : SCc F F' A A ∧ (F' 37 105).toInt = (F 37 105).toInt + 1 ∧ F' 1 1 = F 1 1 := by
  have a : 0 ≤ (F 37 105).toInt ∧ (F 37 105).toInt ≤ 2000 := R.1 37 105
  have b : 0 ≤ (F 1 1).toInt ∧ (F 1 1).toInt ≤ 2000 := R.1 1 1
  have l1 : (1 : Int32).toInt = 1 := by decide
  have e := i_add (x := F 37 105) (y := 1) (by omega) (by omega)
  exact ⟨⟨U.2, fun _ _ _ => rfl, R.pf U (show 0 ≤ (F 37 105 + 1).toInt ∧ (F 37 105 + 1).toInt ≤ 2000 by omega)⟩, by rw [U.1]; omega, U.2 1 1 (by simp)⟩
theorem s_scanDigits_2 {x1 : Int32} (h1 : 0 ≤ x1.toInt ∧ x1.toInt ≤ 400) : ∀ {n : Nat} {F : Nat → Nat → Int32} {A : Nat → Nat → Nat → Int32} {J : Nat → Nat → Nat → Int64} {x3 : Int32}, Rc F A → 2100 - cf F 37 105 < (n : Int) → ok (e_Scanner_scanDigits_2 n P F A J x1 x3) (SPc P F A) := by
  intro n
  induction n with
  | zero =>
    intro F A J x3 R hn
    have a : 0 ≤ (F 37 105).toInt ∧ (F 37 105).toInt ≤ 2000 := R.1 37 105
    unfold cf at hn
    exact absurd hn (by omega)
  | succ n ih =>
    intro F A J x3 R hn
    have a : 0 ≤ (F 37 105).toInt ∧ (F 37 105).toInt ≤ 2000 := R.1 37 105
    have b : 0 ≤ (F 1 1).toInt ∧ (F 1 1).toInt ≤ 2000 := R.1 1 1
    unfold cf at hn
    have f59 : ok (e_Scanner_scanDigits_59 n P F A J x1 x3) (SPc P F A) := by
      unfold e_Scanner_scanDigits_59
      refine ok_cst (by omega) (by omega) ?_
      intro A2 U2
      refine ok_ldn (by omega) (by omega) (fun v8 => ?_)
      have s2 := (SCc.rfl' R).st U2 (by omega)
      have f93 : ∀ s : Int32, ok (e_Scanner_scanDigits_93 n P F A2 J x1 s) (SPc P F A) := fun s => by
        unfold e_Scanner_scanDigits_93
        refine ok_cst (by omega) (by omega) ?_
        intro A3 U3
        exact ok_some ⟨rfl, s2.st U3 (by omega)⟩
      exact ok_cond (fun _ => f93 _) (fun _ => f93 _)
    unfold e_Scanner_scanDigits_2
    refine ok_cond (fun _ => f59) (fun c => ?_)
    rw [i_nge] at c
    refine ok_ldn (by omega) (by omega) (fun v2 => ?_)
    refine ok_call s_isDigit ?_
    intro v3 _
    refine ok_cond (fun _ => f59) (fun _ => ?_)
    refine ok_ldn (by omega) (by omega) (fun v5 => ?_)
    refine ok_cpf ?_
    intro F2 U2
    obtain ⟨s2, k2, _⟩ := SCc.on R U2 c
    exact ok_mono (ih s2.2.2 (by unfold cf; omega)) (fun r hr => hr.go s2)
theorem s_scanLetters_85 {x1 : Int32} {x3 : Int64} {F : Nat → Nat → Int32} {A : Nat → Nat → Nat → Int32} (h1 : 0 ≤ x1.toInt ∧ x1.toInt ≤ 400) (R : Rc F A) : ∀ {n : Nat} {J : Nat → Nat → Nat → Int64} {x5 x6 : Int32}, 0 ≤ x6.toInt ∧ x6.toInt ≤ 21 → 22 - x6.toInt < (n : Int) → ok (e_Scanner_scanLetters_85 n P F A J x1 x3 x5 x6) (SPc P F A) := by
  intro n
  induction n with
  | zero => intro J x5 x6 hx hn; exact absurd hn (by omega)
  | succ n ih =>
    intro J x5 x6 hx hn
    have l1 : (1 : Int32).toInt = 1 := by decide
    have l21 : (21 : Int32).toInt = 21 := by decide
    have f121 : ok (e_Scanner_scanLetters_121 n P F A J x1 x3 x5) (SPc P F A) := by
      unfold e_Scanner_scanLetters_121
      refine ok_cstJ (by omega) (by omega) (fun J' => ?_)
      refine ok_cst (by omega) (by omega) ?_
      intro A2 U2
      exact ok_some ⟨rfl, (SCc.rfl' R).st U2 (by omega)⟩
    unfold e_Scanner_scanLetters_85
    refine ok_cond (fun _ => f121) (fun c => ?_)
    rw [i_nge] at c
    refine ok_cond (fun _ => f121) (fun _ => ?_)
    have e := i_add (x := x6) (y := 1) (by omega) (by omega)
    refine ok_ldJc (by omega) (by omega) (fun v11 => ?_)
    refine ok_cond (fun _ => ?_) (fun _ => ?_)
    · unfold e_Scanner_scanLetters_115
      exact ih (by omega) (by omega)
    · unfold e_Scanner_scanLetters_115
      exact ih (by omega) (by omega)
theorem s_scanLetters_2 {x1 : Int32} (h1 : 0 ≤ x1.toInt ∧ x1.toInt ≤ 400) : ∀ {n : Nat} {F : Nat → Nat → Int32} {A : Nat → Nat → Nat → Int32} {J : Nat → Nat → Nat → Int64} {x3 : Int64}, Rc F A → 2100 - cf F 37 105 < (n : Int) → ok (e_Scanner_scanLetters_2 n P F A J x1 x3) (SPc P F A) := by
  intro n
  induction n with
  | zero =>
    intro F A J x3 R hn
    have a : 0 ≤ (F 37 105).toInt ∧ (F 37 105).toInt ≤ 2000 := R.1 37 105
    unfold cf at hn
    exact absurd hn (by omega)
  | succ n ih =>
    intro F A J x3 R hn
    have a : 0 ≤ (F 37 105).toInt ∧ (F 37 105).toInt ≤ 2000 := R.1 37 105
    have b : 0 ≤ (F 1 1).toInt ∧ (F 1 1).toInt ≤ 2000 := R.1 1 1
    have l0 : (0 : Int32).toInt = 0 := by decide
    unfold cf at hn
    have f57 : ok (e_Scanner_scanLetters_57 n P F A J x1 x3) (SPc P F A) := by
      unfold e_Scanner_scanLetters_57
      refine ok_ldn (by omega) (by omega) (fun v7 => ?_)
      refine ok_cond (fun _ => ?_) (fun _ => ?_)
      · unfold e_Scanner_scanLetters_80
        exact s_scanLetters_85 h1 R (by decide) (by omega)
      · unfold e_Scanner_scanLetters_80
        exact s_scanLetters_85 h1 R (by decide) (by omega)
    unfold e_Scanner_scanLetters_2
    refine ok_cond (fun _ => f57) (fun c => ?_)
    rw [i_nge] at c
    refine ok_ldn (by omega) (by omega) (fun v2 => ?_)
    refine ok_call s_isLetter ?_
    intro v3 _
    refine ok_cond (fun _ => f57) (fun _ => ?_)
    refine ok_ldn (by omega) (by omega) (fun v5 => ?_)
    refine ok_cpf ?_
    intro F2 U2
    obtain ⟨s2, k2, _⟩ := SCc.on R U2 c
    exact ok_mono (ih s2.2.2 (by unfold cf; omega)) (fun r hr => hr.go s2)
theorem s_scanNext_0 {x1 : Int32} (h1 : 0 ≤ x1.toInt ∧ x1.toInt ≤ 400) : ∀ {n : Nat} {F : Nat → Nat → Int32} {A : Nat → Nat → Nat → Int32} {J : Nat → Nat → Nat → Int64}, Rc F A → 4200 - cf F 37 105 < (n : Int) → ok (e_Scanner_scanNext_0 n P F A J x1) (SPc P F A) := by
  intro n
  induction n with
  | zero =>
    intro F A J R hn
    have a : 0 ≤ (F 37 105).toInt ∧ (F 37 105).toInt ≤ 2000 := R.1 37 105
    unfold cf at hn
    exact absurd hn (by omega)
  | succ n ih =>
    intro F A J R hn
    have a : 0 ≤ (F 37 105).toInt ∧ (F 37 105).toInt ≤ 2000 := R.1 37 105
    have b : 0 ≤ (F 1 1).toInt ∧ (F 1 1).toInt ≤ 2000 := R.1 1 1
    unfold cf at hn
    have f39 : ok (e_Scanner_scanNext_39 n P F A J x1) (SPc P F A) := by
      unfold e_Scanner_scanNext_39
      refine ok_cst (by omega) (by omega) ?_
      intro A2 U2
      have s2 := (SCc.rfl' R).st U2 (by omega)
      refine ok_cond (fun c => ?_) (fun _ => ?_)
      · rw [i_lt] at c
        refine ok_ldn (by omega) (by omega) (fun v8 => ?_)
        refine ok_call s_isLetter ?_
        intro v9 _
        refine ok_cond (fun _ => ?_) (fun _ => ?_)
        · refine ok_call s_isDigit ?_
          intro v11 _
          refine ok_cond (fun _ => ?_) (fun _ => ?_)
          · have f136 : ∀ s : Int32, ok (e_Scanner_scanNext_136 n P F A2 J x1 s) (SPc P F A) := fun s => by
              unfold e_Scanner_scanNext_136
              refine ok_cst (by omega) (by omega) ?_
              intro A3 U3
              have s3 := s2.st U3 (by omega)
              refine ok_cpf ?_
              intro F4 U4
              obtain ⟨s4, _, _⟩ := SCc.on s3.2.2 U4 c
              exact ok_some ⟨rfl, s3.tr s4⟩
            have f134 : ok (e_Scanner_scanNext_134 n P F A2 J x1) (SPc P F A) := by
              unfold e_Scanner_scanNext_134
              exact f136 _
            refine ok_cond (fun _ => f134) (fun _ => ?_)
            refine ok_call (s_indexOf (by omega)) ?_
            intro v14 _
            exact ok_cond (fun _ => f134) (fun _ => f136 _)
          · unfold e_Scanner_scanDigits
            refine ok_call (s_scanDigits_2 h1 s2.2.2 (by unfold cf; omega)) ?_
            rintro ⟨u, P2, F2, A3, J2⟩ hr
            exact ok_some (SPc.go s2 hr)
        · unfold e_Scanner_scanLetters
          refine ok_call (s_scanLetters_2 h1 s2.2.2 (by unfold cf; omega)) ?_
          rintro ⟨u, P2, F2, A3, J2⟩ hr
          exact ok_some (SPc.go s2 hr)
      · refine ok_cst (by omega) (by omega) ?_
        intro A3 U3
        exact ok_some ⟨rfl, s2.st U3 (by omega)⟩
    unfold e_Scanner_scanNext_0
    refine ok_cond (fun _ => f39) (fun c => ?_)
    rw [i_nge] at c
    refine ok_ldn (by omega) (by omega) (fun v2 => ?_)
    refine ok_call s_isBlank ?_
    intro v3 _
    refine ok_cond (fun _ => f39) (fun _ => ?_)
    refine ok_cpf ?_
    intro F2 U2
    obtain ⟨s2, k2, _⟩ := SCc.on R U2 c
    exact ok_mono (ih s2.2.2 (by unfold cf; omega)) (fun r hr => hr.go s2)
theorem s_scanAll_9 : ∀ {n : Nat} {F : Nat → Nat → Int32} {A : Nat → Nat → Nat → Int32} {J : Nat → Nat → Nat → Int64} {x2 x3 : Int32}, Rc F A → 0 ≤ x3.toInt ∧ x3.toInt ≤ 401 → 5000 - x3.toInt < (n : Int) → ok (e_Scanner_scanAll_9 n P F A J x2 x3) (SPc P F A) := by
  intro n
  induction n with
  | zero => intro F A J x2 x3 R hx hn; exact absurd hn (by omega)
  | succ n ih =>
    intro F A J x2 x3 R hx hn
    have a : 0 ≤ (F 37 105).toInt ∧ (F 37 105).toInt ≤ 2000 := R.1 37 105
    have l1 : (1 : Int32).toInt = 1 := by decide
    have l400 : (400 : Int32).toInt = 400 := by decide
    unfold e_Scanner_scanAll_9
    refine ok_cond (fun _ => ok_some ⟨rfl, SCc.rfl' R⟩) (fun c => ?_)
    rw [i_ngt] at c
    refine ok_cond (fun _ => ok_some ⟨rfl, SCc.rfl' R⟩) (fun _ => ?_)
    have e := i_add (x := x3) (y := 1) (by omega) (by omega)
    unfold e_Scanner_scanNext
    refine ok_call (s_scanNext_0 ⟨by omega, by omega⟩ R (by unfold cf; omega)) ?_
    rintro ⟨u, P2, F2, A2, J2⟩ ⟨g1, s2⟩
    dsimp only at g1 s2 ⊢
    subst g1
    have go : ∀ {y : Int32}, ok (e_Scanner_scanAll_9 n P2 F2 A2 J2 y (x3 + 1)) (SPc P2 F A) := fun {y} => ok_mono (ih s2.2.2 (by omega) (by omega)) (fun r hr => hr.go s2)
    refine ok_ldn (by omega) (by omega) (fun v9 => ?_)
    refine ok_cond (fun _ => ?_) (fun _ => ?_)
    · unfold e_Scanner_scanAll_52 e_Scanner_scanAll_53
      exact go
    · refine ok_ldn (by omega) (by omega) (fun v11 => ?_)
      refine ok_cond (fun _ => ?_) (fun _ => ?_)
      · unfold e_Scanner_scanAll_52 e_Scanner_scanAll_53
        exact go
      · unfold e_Scanner_scanAll_53
        exact go
theorem s_scanAll {n : Nat} {F : Nat → Nat → Int32} {A : Nat → Nat → Nat → Int32} (R : Rc F A) (hn : 5100 ≤ n) : ok (e_Scanner_scanAll n P F A J) (SPc P F A) := by
  have l0 : (0 : Int32).toInt = 0 := by decide
  unfold e_Scanner_scanAll
  refine ok_cpf ?_
  intro F2 U2
  have s2 : SCc F F2 A A := ⟨U2.2, fun _ _ _ => rfl, R.pf U2 (show 0 ≤ (0 : Int32).toInt ∧ (0 : Int32).toInt ≤ 2000 by decide)⟩
  exact ok_mono (s_scanAll_9 s2.2.2 (by decide) (by omega)) (fun r hr => hr.go s2)
end S98
end Qz87
section Qz88
/-! the class's reader: laws -/
def CVc (F : Nat → Nat → Int32) (A : Nat → Nat → Nat → Int32) (d : Nat) : Prop := ∀ i, 0 ≤ i → i < cf F d 1304 → ci A d 15 i = 2 → 0 ≤ ci A d 16 i ∧ ci A d 16 i ≤ 5
/-- what the reading of a law changes -/
def QLc (d : Nat) (P P' : Nat → Nat → Nat) (F F' : Nat → Nat → Int32) (A A' : Nat → Nat → Nat → Int32) : Prop := P' = P ∧ (∀ r k, ¬ (r = 37 ∧ 7 ≤ k ∧ k ≤ 13 ∧ k ≠ 9) → ¬ (r = d ∧ k = 1304) → F' r k = F r k) ∧ (∀ r o, ¬ (r = d ∧ (o = 15 ∨ o = 16)) → A' r o = A r o) ∧ Rc F' A' ∧ cf F 37 7 ≤ cf F' 37 7 ∧ (cf F 37 10 ≠ 0 → cf F' 37 10 ≠ 0) ∧ (cf F 37 12 ≠ 0 → cf F' 37 12 ≠ 0) ∧ cf F d 1304 ≤ cf F' d 1304 ∧ (∀ i, 0 ≤ i → i < cf F d 1304 → ci A' d 15 i = ci A d 15 i) ∧ (cf F' 37 10 ≠ 0 ∨ (CVc F A d → CVc F' A' d))
section L99
variable {P P' P1 : Nat → Nat → Nat} {F F' F1 : Nat → Nat → Int32} {A A' A1 : Nat → Nat → Nat → Int32} {J : Nat → Nat → Nat → Int64} {n d : Nat}
theorem QLc.rfl' (R : Rc F A) : QLc d P P F F A A := ⟨rfl, fun _ _ _ _ => rfl, fun _ _ _ => rfl, R, Int.le_refl _, id, id, Int.le_refl _, fun _ _ _ => rfl, .inr id⟩
theorem QLc.tr (a : QLc d P P1 F F1 A A1) (b : QLc d P1 P' F1 F' A1 A') : QLc d P P' F F' A A' := by
  obtain ⟨a1, a2, a3, a4, a5, a6, a7, a8, a9, a10⟩ := a
  obtain ⟨b1, b2, b3, b4, b5, b6, b7, b8, b9, b10⟩ := b
  refine ⟨b1.trans a1, fun r k x y => (b2 r k x y).trans (a2 r k x y), fun r o x => (b3 r o x).trans (a3 r o x), b4, by omega, fun h => b6 (a6 h), fun h => b7 (a7 h), by omega, fun i x y => (b9 i x (by omega)).trans (a9 i x y), ?_⟩
  rcases b10 with h | h
  · exact .inl h
  · rcases a10 with g | g
    · exact .inl (b6 g)
    · exact .inr (fun z => h (g z))
theorem QRc.ql (q : QRc P P' F F' A A') (hd : d ≠ 37) : QLc d P P' F F' A A' := by
  obtain ⟨a1, a2, a3, a4, a5, a6, a7⟩ := q
  subst a2
  have e : F' d 1304 = F d 1304 := a3 d 1304 (fun h => hd h.1)
  refine ⟨a1, fun r k x _ => a3 r k x, fun _ _ _ => rfl, a4, a5, a6, a7, by unfold cf; rw [e]; omega, fun _ _ _ => rfl, .inr (fun z => ?_)⟩
  unfold CVc cf
  rw [e]
  exact z
theorem s_add {x1 x2 : Int32} (hk : c_kind d = 6) (R : Rc F A) (hx : x1.toInt = 2 → 0 ≤ x2.toInt ∧ x2.toInt ≤ 5) : ok (e_Laws_add P F A J d x1 x2) (fun r => QLc d P r.2.1 F r.2.2.1 A r.2.2.2.1 ∧ r.2.2.1 37 7 = F 37 7 ∧ r.2.2.1 37 10 = F 37 10 ∧ cf r.2.2.1 d 1304 ≤ cf F d 1304 + 1 ∧ (cf F d 1304 < 400 → r.1.toInt = cf F d 1304 ∧ cf r.2.2.1 d 1304 = cf F d 1304 + 1 ∧ ci r.2.2.2.1 d 15 (cf F d 1304) = x1.toInt)) := by
  have l1 : (1 : Int32).toInt = 1 := by decide
  have l4 : (400 : Int32).toInt = 400 := by decide
  have a : 0 ≤ (F d 1304).toInt ∧ (F d 1304).toInt ≤ 400 := by have := R.1 d 1304; rw [hk] at this; exact this
  have hd : d ≠ 37 := fun e => absurd hk (by rw [e]; decide)
  have nt : ∀ o v, o = 15 ∨ o = 16 → rRc (c_kind d) o v := fun o v ho => by
    rw [hk]
    rcases ho with rfl | rfl <;> exact trivial
  unfold e_Laws_add
  refine ok_cond (fun c => ?_) (fun c => ?_)
  · rw [i_ge] at c
    exact ok_some ⟨QLc.rfl' R, rfl, rfl, by show cf F d 1304 ≤ _; omega, fun h => absurd h (by unfold cf; omega)⟩
  · rw [i_nge] at c
    refine ok_cst (by omega) (by omega) ?_
    intro A2 U2
    refine ok_cst (by omega) (by omega) ?_
    intro A3 U3
    refine ok_cpf ?_
    intro F4 U4
    have e := i_add (x := F d 1304) (y := 1) (by omega) (by omega)
    have k4 : (F4 d 1304).toInt = (F d 1304).toInt + 1 := by rw [U4.1]; omega
    have e2 := i_sub (x := F4 d 1304) (y := 1) (by omega) (by omega)
    have k7 : F4 37 7 = F 37 7 := U4.2 37 7 (fun h => hd h.1.symm)
    have k10 : F4 37 10 = F 37 10 := U4.2 37 10 (fun h => hd h.1.symm)
    have k12 : F4 37 12 = F 37 12 := U4.2 37 12 (fun h => hd h.1.symm)
    have r15 : ci A3 d 15 = ci A2 d 15 := ci_fr (U3.2.2 d 15 (by simp))
    have b16 : ci A2 d 16 = ci A d 16 := ci_fr (U2.2.2 d 16 (by simp))
    refine ok_some ⟨⟨rfl, fun r k _ y => U4.2 r k y, fun r o x => (U3.2.2 r o (by omega)).trans (U2.2.2 r o (by omega)), ((R.st U2 (nt _ _ (.inl rfl))).st U3 (nt _ _ (.inr rfl))).pf U4 (by rw [hk]; exact (show 0 ≤ (F d 1304 + 1).toInt ∧ (F d 1304 + 1).toInt ≤ 400 by omega)), ?_, ?_, ?_, ?_, fun i i0 i1 => ?_, .inr (fun z i i0 i1 => ?_)⟩, k7, k10, ?_, fun _ => ⟨?_, ?_, ?_⟩⟩
    · show (F 37 7).toInt ≤ (F4 37 7).toInt
      rw [k7]; omega
    · show (F 37 10).toInt ≠ 0 → (F4 37 10).toInt ≠ 0
      rw [k10]; exact id
    · show (F 37 12).toInt ≠ 0 → (F4 37 12).toInt ≠ 0
      rw [k12]; exact id
    · show (F d 1304).toInt ≤ (F4 d 1304).toInt
      omega
    · unfold cf at i1
      show ci A3 d 15 i = _
      rw [r15, U2.2.1 i i0 (by omega)]
    · have i2 : i < (F4 d 1304).toInt := i1
      show ci A3 d 15 i = 2 → 0 ≤ ci A3 d 16 i ∧ ci A3 d 16 i ≤ 5
      rw [r15]
      by_cases e : i = (F d 1304).toInt
      · subst e
        rw [U2.1, U3.1]
        exact hx
      · rw [U2.2.1 i i0 e, U3.2.1 i i0 e, b16]
        exact z i i0 (by unfold cf; omega)
    · show (F4 d 1304).toInt ≤ (F d 1304).toInt + 1
      omega
    · show (F4 d 1304 - 1).toInt = (F d 1304).toInt
      omega
    · exact k4
    · show ci A3 d 15 (F d 1304).toInt = _
      rw [r15, U2.1]
/-- a law's part: what it leaves, and no more instructions than tokens -/
def LNc (d : Nat) (P : Nat → Nat → Nat) (F : Nat → Nat → Int32) (A : Nat → Nat → Nat → Int32) (r : Unit × (Nat → Nat → Nat) × (Nat → Nat → Int32) × (Nat → Nat → Nat → Int32) × (Nat → Nat → Nat → Int64)) : Prop := QLc d P r.2.1 F r.2.2.1 A r.2.2.2.1 ∧ (cf r.2.2.1 37 10 ≠ 0 ∨ cf r.2.2.1 d 1304 + cf F 37 7 ≤ cf F d 1304 + cf r.2.2.1 37 7)
theorem s_addSign {x1 : Int32} (e5 : P 37 5 = d) (hk : c_kind d = 6) (R : Rc F A) (hx : x1.toInt ≠ 2) : ok (e_Reader_addSign P F A J x1) (fun r => QLc d P r.2.1 F r.2.2.1 A r.2.2.2.1 ∧ r.2.2.1 37 7 = F 37 7 ∧ r.2.2.1 37 10 = F 37 10 ∧ cf r.2.2.1 d 1304 ≤ cf F d 1304 + 1 ∧ (x1.toInt = 0 → cf r.2.2.1 d 1304 = cf F d 1304)) := by
  have l0 : (0 : Int32).toInt = 0 := by decide
  unfold e_Reader_addSign
  refine ok_cond (fun c => ?_) (fun c => ?_)
  · exact ok_some ⟨QLc.rfl' R, rfl, rfl, by show cf F d 1304 ≤ _; omega, fun _ => rfl⟩
  · rw [i_neq, l0] at c
    rw [e5]
    refine ok_chk hk ?_
    refine ok_call (s_add hk R (fun h => absurd h hx)) ?_
    rintro ⟨v, P2, F2, A2, J2⟩ ⟨q, a, b, c', _⟩
    exact ok_some ⟨q, a, b, c', fun h => absurd h c⟩
theorem s_takeEither {x1 x2 : Int32} (R : Rc F A) : ok (e_Reader_takeEither P F A J x1 x2) (fun r => QRc P r.2.1 F r.2.2.1 A r.2.2.2.1 ∧ (r.1.toInt = 0 ∨ r.1 = x1 ∨ r.1 = x2) ∧ (cf r.2.2.1 37 10 ≠ 0 ∨ r.1.toInt = 0 ∨ cf F 37 7 + 1 ≤ cf r.2.2.1 37 7)) := by
  have l0 : (0 : Int32).toInt = 0 := by decide
  have f18 : ∀ {P1 F1 A1 J1}, QRc P P1 F F1 A A1 → ok (e_Reader_takeEither_18 P1 F1 A1 J1 x2) (fun r => QRc P r.2.1 F r.2.2.1 A r.2.2.2.1 ∧ (r.1.toInt = 0 ∨ r.1 = x1 ∨ r.1 = x2) ∧ (cf r.2.2.1 37 10 ≠ 0 ∨ r.1.toInt = 0 ∨ cf F 37 7 + 1 ≤ cf r.2.2.1 37 7)) := by
    intro P1 F1 A1 J1 q1
    unfold e_Reader_takeEither_18
    refine ok_call (s_isNext q1.2.2.2.1) ?_
    intro v9 p9
    refine ok_cond (fun _ => ok_some ⟨q1, .inl l0, .inr (.inl l0)⟩) (fun c9 => ?_)
    rw [i_neq, l0] at c9
    have z := p9.resolve_left c9
    refine ok_call (s_take q1.2.2.2.1) ?_
    rintro ⟨v, P2, F2, A2, J2⟩ ⟨q, h⟩
    dsimp only at q h ⊢
    refine ok_cond (fun _ => ok_some ⟨q1.tr q, .inl l0, .inr (.inl l0)⟩) (fun c => ?_)
    rw [i_neq, l0] at c
    have z1 := q1.2.2.2.2.1
    refine ok_some ⟨q1.tr q, .inr (.inr rfl), .inr (.inr (show cf F 37 7 + 1 ≤ cf F2 37 7 by omega))⟩
  unfold e_Reader_takeEither
  refine ok_call (s_isNext R) ?_
  intro v1 p1
  refine ok_cond (fun _ => f18 (QRc.rfl' R)) (fun c1 => ?_)
  refine ok_call (s_take R) ?_
  rintro ⟨v, P2, F2, A2, J2⟩ ⟨q, h⟩
  dsimp only at q h ⊢
  refine ok_cond (fun _ => f18 q) (fun c => ?_)
  rw [i_neq, l0] at c
  exact ok_some ⟨q, .inr (.inl rfl), .inr (.inr (show cf F 37 7 + 1 ≤ cf F2 37 7 by omega))⟩
/-- what a sum leaves, for every depth -/
def KSc (d : Nat) (P : Nat → Nat → Nat) (KS : (Nat → Nat → Nat) → (Nat → Nat → Int32) → (Nat → Nat → Nat → Int32) → (Nat → Nat → Nat → Int64) → Int32 → Option (Unit × (Nat → Nat → Nat) × (Nat → Nat → Int32) × (Nat → Nat → Nat → Int32) × (Nat → Nat → Nat → Int64))) (y : Int) : Prop := ∀ F A J (x : Int32), Rc F A → 0 ≤ x.toInt ∧ x.toInt ≤ 6 → x.toInt = y → ok (KS P F A J x) (LNc d P F A)
theorem LNc.go {r : Unit × (Nat → Nat → Nat) × (Nat → Nat → Int32) × (Nat → Nat → Nat → Int32) × (Nat → Nat → Nat → Int64)} (q : QLc d P P F F1 A A1) (h : cf F1 37 10 ≠ 0 ∨ cf F1 d 1304 + cf F 37 7 ≤ cf F d 1304 + cf F1 37 7) (b : LNc d P F1 A1 r) : LNc d P F A r := by
  refine ⟨q.tr b.1, ?_⟩
  have m := b.1.2.2.2.2.2.1
  rcases b.2 with z | z
  · exact .inl z
  · rcases h with w | w
    · exact .inl (m w)
    · exact .inr (by omega)
theorem s_readUnit_58 {KS : (Nat → Nat → Nat) → (Nat → Nat → Int32) → (Nat → Nat → Nat → Int32) → (Nat → Nat → Nat → Int64) → Int32 → Option (Unit × (Nat → Nat → Nat) × (Nat → Nat → Int32) × (Nat → Nat → Nat → Int32) × (Nat → Nat → Nat → Int64))} (e5 : P 37 5 = d) (hk : c_kind d = 6) : ∀ {n : Nat} {F : Nat → Nat → Int32} {A : Nat → Nat → Nat → Int32} {J : Nat → Nat → Nat → Int64} {x2 : Int32}, Rc F A → 15 ≤ x2.toInt ∧ x2.toInt ≤ 21 → 22 - x2.toInt < (n : Int) → ok (e_Reader_readUnit_58 KS n P F A J x2) (LNc d P F A) := by
  have hd : d ≠ 37 := fun e => absurd hk (by rw [e]; decide)
  intro n
  induction n with
  | zero => intro F A J x2 R hx hn; exact absurd hn (by omega)
  | succ n ih =>
    intro F A J x2 R hx hn
    have l0 : (0 : Int32).toInt = 0 := by decide
    have l1 : (1 : Int32).toInt = 1 := by decide
    have l15 : (15 : Int32).toInt = 15 := by decide
    have l20 : (20 : Int32).toInt = 20 := by decide
    have e2 : (x2 + 1).toInt = x2.toInt + 1 := by rw [i_add (by omega) (by omega), l1]
    -- a token is taken, an instruction is added
    have addOn : ∀ {P2 F2 A2 J2} {c v : Int32}, QRc P P2 F F2 A A2 → cf F2 37 10 = 0 → cf F2 37 7 = cf F 37 7 + 1 → (c.toInt = 2 → 0 ≤ v.toInt ∧ v.toInt ≤ 5) → ok ((e_Laws_add P2 F2 A2 J2 d c v).bind fun (v34, P35, F36, A37, J38) => some ((), P35, F36, A37, J38)) (LNc d P F A) := by
      intro P2 F2 A2 J2 c v q h0 h7 hc
      refine ok_call (s_add hk q.2.2.2.1 hc) ?_
      rintro ⟨w, P3, F3, A3, J3⟩ ⟨q3, a, b, c', _⟩
      dsimp only at q3 a b c' ⊢
      have ed : F2 d 1304 = F d 1304 := q.2.2.1 d 1304 (fun h => hd h.1)
      refine ok_some ⟨(q.ql hd).tr q3, .inr ?_⟩
      show cf F3 d 1304 + cf F 37 7 ≤ cf F d 1304 + cf F3 37 7
      unfold cf at c' h7 ⊢
      rw [a]
      rw [ed] at c'
      omega
    unfold e_Reader_readUnit_58
    refine ok_cond (fun c => ?_) (fun c => ?_)
    · refine ok_call (s_take R) ?_
      rintro ⟨v, P2, F2, A2, J2⟩ ⟨q, h⟩
      dsimp only at q h ⊢
      refine ok_cond (fun c2 => ?_) (fun c2 => ?_)
      · rw [i_eq, l0] at c2
        exact ok_some ⟨q.ql hd, .inl (show cf F2 37 10 ≠ 0 by omega)⟩
      · rw [i_neq, l0] at c2
        have e5' : P2 37 5 = d := by rw [q.1]; exact e5
        rw [e5']
        refine ok_chk hk ?_
        have a := q.2.2.2.1.tkn
        refine ok_ldn (by omega) (by omega) (fun v33 => ?_)
        exact addOn q (by omega) (by omega) (fun h => absurd h (by decide))
    · rw [i_ngt] at c
      refine ok_call (s_isNext R) ?_
      intro v39 p39
      refine ok_cond (fun _ => ?_) (fun _ => ?_)
      · unfold e_Reader_readUnit_97
        exact ih R (by omega) (by omega)
      · refine ok_call (s_take R) ?_
        rintro ⟨v, P2, F2, A2, J2⟩ ⟨q, h⟩
        dsimp only at q h ⊢
        have e5' : P2 37 5 = d := by rw [q.1]; exact e5
        refine ok_cond (fun c2 => ?_) (fun c2 => ?_)
        · rw [i_eq, l0] at c2
          unfold e_Reader_readUnit_97
          have ep := q.1
          subst ep
          exact ok_mono (ih q.2.2.2.1 (by omega) (by omega)) (fun r hr => hr.go (q.ql hd) (.inl (by omega)))
        · rw [i_neq, l0] at c2
          rw [e5']
          refine ok_chk hk ?_
          have es := i_sub (x := x2) (y := 15) (by omega) (by omega)
          exact addOn q (by omega) (by omega) (fun _ => by omega)
theorem s_readUnit {KS : (Nat → Nat → Nat) → (Nat → Nat → Int32) → (Nat → Nat → Nat → Int32) → (Nat → Nat → Nat → Int64) → Int32 → Option (Unit × (Nat → Nat → Nat) × (Nat → Nat → Int32) × (Nat → Nat → Nat → Int32) × (Nat → Nat → Nat → Int64))} {x1 : Int32} (e5 : P 37 5 = d) (hk : c_kind d = 6) (R : Rc F A) (h1 : 0 ≤ x1.toInt ∧ x1.toInt ≤ 6) (hK : x1.toInt < 6 → KSc d P KS (x1.toInt + 1)) (hn : 10 ≤ n) : ok (e_Reader_readUnit KS n P F A J x1) (LNc d P F A) := by
  have hd : d ≠ 37 := fun e => absurd hk (by rw [e]; decide)
  have l0 : (0 : Int32).toInt = 0 := by decide
  have l1 : (1 : Int32).toInt = 1 := by decide
  have l6 : (6 : Int32).toInt = 6 := by decide
  have l15 : (15 : Int32).toInt = 15 := by decide
  have a := R.tok
  unfold e_Reader_readUnit
  refine ok_call (s_isNext R) ?_
  intro v1 p1
  refine ok_cond (fun _ => s_readUnit_58 e5 hk R (by decide) (by omega)) (fun _ => ?_)
  refine ok_cond (fun c => ?_) (fun _ => ?_)
  · rw [i_lt] at c
    refine ok_call (s_take R) ?_
    rintro ⟨v, P2, F2, A2, J2⟩ ⟨q, h⟩
    dsimp only at q h ⊢
    have ep := q.1
    subst ep
    have e := i_add (x := x1) (y := 1) (by omega) (by omega)
    refine ok_call (hK (by omega) F2 A2 J2 (x1 + 1) q.2.2.2.1 (by omega) (by omega)) ?_
    rintro ⟨u, P3, F3, A3, J3⟩ hr
    have hr' := hr
    obtain ⟨q3, h3⟩ := hr'
    dsimp only at q3 h3 ⊢
    refine ok_call (s_take q3.2.2.2.1) ?_
    rintro ⟨v4, P4, F4, A4, J4⟩ ⟨q4, h4⟩
    dsimp only at q4 h4 ⊢
    have ed2 : F2 d 1304 = F d 1304 := q.2.2.1 d 1304 (fun h => hd h.1)
    have ed4 : F4 d 1304 = F3 d 1304 := q4.2.2.1 d 1304 (fun h => hd h.1)
    have m4 := q4.2.2.2.2.1
    have m2 := q.2.2.2.2.1
    refine ok_some ⟨((q.ql hd).tr q3).tr (q4.ql hd), ?_⟩
    show cf F4 37 10 ≠ 0 ∨ cf F4 d 1304 + cf F 37 7 ≤ cf F d 1304 + cf F4 37 7
    rcases h3 with z | z
    · exact .inl (q4.2.2.2.2.2.1 z)
    · right
      unfold cf at z m4 m2 ⊢
      rw [ed4]
      rw [ed2] at z
      omega
  · refine ok_ldn (by omega) (by omega) (fun v19 => ?_)
    refine ok_call (s_fail R (by decide)) ?_
    rintro ⟨u, P2, F2, A2, J2⟩ ⟨q, h⟩
    exact ok_some ⟨q.ql hd, .inl h⟩
theorem s_readSum_10 {KS : (Nat → Nat → Nat) → (Nat → Nat → Int32) → (Nat → Nat → Nat → Int32) → (Nat → Nat → Nat → Int64) → Int32 → Option (Unit × (Nat → Nat → Nat) × (Nat → Nat → Int32) × (Nat → Nat → Nat → Int32) × (Nat → Nat → Nat → Int64))} {x1 : Int32} {F0 : Nat → Nat → Int32} {A0 : Nat → Nat → Nat → Int32} (e5 : P 37 5 = d) (hk : c_kind d = 6) (h1 : 0 ≤ x1.toInt ∧ x1.toInt ≤ 6) (hK : x1.toInt < 6 → KSc d P KS (x1.toInt + 1)) : ∀ {n : Nat} {F : Nat → Nat → Int32} {A : Nat → Nat → Nat → Int32} {J : Nat → Nat → Nat → Int64} {x2 x3 x4 x5 : Int32} {p2 p3 : Int}, QLc d P P F0 F A0 A → 0 ≤ p2 ∧ (x2.toInt = 0 ∨ 1 ≤ p2) → 0 ≤ p3 ∧ (x3.toInt = 0 ∨ 1 ≤ p3) → x2.toInt ≠ 2 ∧ x3.toInt ≠ 2 → (cf F 37 10 ≠ 0 ∨ cf F d 1304 + p2 + p3 + cf F0 37 7 ≤ cf F0 d 1304 + cf F 37 7) → 0 ≤ x5.toInt ∧ x5.toInt ≤ 401 → 450 - x5.toInt < (n : Int) → ok (e_Reader_readSum_10 KS n P F A J x1 x2 x3 x4 x5) (LNc d P F0 A0) := by
  have hd : d ≠ 37 := fun e => absurd hk (by rw [e]; decide)
  intro n
  induction n with
  | zero => intro F A J x2 x3 x4 x5 p2 p3 q h2 h3 h22 hb hx hn; exact absurd hn (by omega)
  | succ n ih =>
    intro F A J x2 x3 x4 x5 p2 p3 q h2 h3 h22 hb hx hn
    have l0 : (0 : Int32).toInt = 0 := by decide
    have l1 : (1 : Int32).toInt = 1 := by decide
    have l400 : (400 : Int32).toInt = 400 := by decide
    have fin : ok (some ((), P, F, A, J)) (LNc d P F0 A0) := ok_some ⟨q, hb.imp id (fun z => by show cf F d 1304 + cf F0 37 7 ≤ cf F0 d 1304 + cf F 37 7; omega)⟩
    unfold e_Reader_readSum_10
    refine ok_cond (fun _ => fin) (fun c => ?_)
    rw [i_ngt] at c
    refine ok_cond (fun _ => fin) (fun _ => ?_)
    have e5' := i_add (x := x5) (y := 1) (by omega) (by omega)
    refine ok_call (s_readUnit e5 hk q.2.2.2.1 h1 hK (by omega)) ?_
    rintro ⟨u, P2, F2, A2, J2⟩ ⟨q2, w2⟩
    dsimp only at q2 w2 ⊢
    have ep := q2.1
    subst ep
    refine ok_call (s_addSign e5 hk q2.2.2.2.1 h22.2) ?_
    rintro ⟨u3, P3, F3, A3, J3⟩ ⟨q3, a3, b3, c3, d3⟩
    dsimp only at q3 a3 b3 c3 d3 ⊢
    have ep := q3.1
    subst ep
    refine ok_call (s_takeEither q3.2.2.2.1) ?_
    rintro ⟨v, P4, F4, A4, J4⟩ ⟨q4, v4, w4⟩
    dsimp only at q4 v4 w4 ⊢
    have ep := q4.1
    subst ep
    have ed4 : F4 d 1304 = F3 d 1304 := q4.2.2.1 d 1304 (fun h => hd h.1)
    have m2 := q2.2.2.2.2.2.1
    have m4 := q4.2.2.2.2.2.1
    have t4 := q4.2.2.2.2.1
    have qa := ((q.tr q2).tr q3).tr (q4.ql hd)
    have B3 : cf F3 37 10 ≠ 0 ∨ cf F3 d 1304 + p2 + cf F0 37 7 ≤ cf F0 d 1304 + cf F3 37 7 := by
      unfold cf at *
      rw [a3, b3]
      rcases w2 with z | z
      · exact .inl z
      · rcases hb with y | y
        · exact .inl (m2 y)
        · right
          rcases h3.2 with g | g
          · have := d3 g; omega
          · omega
    have l42 : (42 : Int32).toInt = 42 := by decide
    have l47 : (47 : Int32).toInt = 47 := by decide
    have l43 : (43 : Int32).toInt = 43 := by decide
    have l45 : (45 : Int32).toInt = 45 := by decide
    have v2 : v.toInt ≠ 2 := by
      rcases v4 with z | z | z
      · omega
      · rw [z, l42]; decide
      · rw [z, l47]; decide
    refine ok_cond (fun c5 => ?_) (fun c5 => ?_)
    · rw [i_ne, l0] at c5
      unfold e_Reader_readSum_71
      refine ih (p2 := p2) (p3 := 1) qa h2 ⟨by decide, .inr (by decide)⟩ ⟨h22.1, v2⟩ ?_ (by omega) (by omega)
      unfold cf at *
      rw [ed4]
      rcases w4 with z | z | z
      · exact .inl z
      · exact absurd z c5
      · rcases B3 with y | y
        · exact .inl (m4 y)
        · right; omega
    · rw [i_nne, l0] at c5
      refine ok_call (s_addSign e5 hk q4.2.2.2.1 h22.1) ?_
      rintro ⟨u5, P5, F5, A5, J5⟩ ⟨q5, a5, b5, c5', d5⟩
      dsimp only at q5 a5 b5 c5' d5 ⊢
      have ep := q5.1
      subst ep
      refine ok_call (s_takeEither q5.2.2.2.1) ?_
      rintro ⟨w, P6, F6, A6, J6⟩ ⟨q6, v6, w6⟩
      dsimp only at q6 v6 w6 ⊢
      have ep := q6.1
      subst ep
      have ed6 : F6 d 1304 = F5 d 1304 := q6.2.2.1 d 1304 (fun h => hd h.1)
      have m6 := q6.2.2.2.2.2.1
      have t6 := q6.2.2.2.2.1
      have qb := (qa.tr q5).tr (q6.ql hd)
      have B5 : cf F5 37 10 ≠ 0 ∨ cf F5 d 1304 + cf F0 37 7 ≤ cf F0 d 1304 + cf F5 37 7 := by
        unfold cf at *
        rw [a5, b5]
        rw [ed4] at c5' d5
        rcases B3 with y | y
        · exact .inl (m4 y)
        · right
          rcases h2.2 with g | g
          · have := d5 g; omega
          · omega
      have w2' : w.toInt ≠ 2 := by
        rcases v6 with z | z | z
        · omega
        · rw [z, l43]; decide
        · rw [z, l45]; decide
      have go : ∀ {s0 : Int32}, ok (e_Reader_readSum_10 KS n P6 F6 A6 J6 x1 w v s0 (x5 + 1)) (LNc d P6 F0 A0) := by
        intro s0
        refine ih (p2 := if w.toInt = 0 then 0 else 1) (p3 := 0) qb ?_ ⟨by decide, .inl c5⟩ ⟨w2', v2⟩ ?_ (by omega) (by omega)
        · by_cases z : w.toInt = 0
          · rw [if_pos z]; exact ⟨by decide, .inl z⟩
          · rw [if_neg z]; exact ⟨by decide, .inr (by decide)⟩
        · unfold cf at *
          rw [ed6]
          rcases w6 with z | z | z
          · exact .inl z
          · rw [if_pos z]
            rcases B5 with y | y
            · exact .inl (m6 y)
            · right; omega
          · rcases B5 with y | y
            · exact .inl (m6 y)
            · right
              split <;> omega
      refine ok_cond (fun _ => ?_) (fun _ => ?_)
      · unfold e_Reader_readSum_69 e_Reader_readSum_71
        exact go
      · unfold e_Reader_readSum_69 e_Reader_readSum_71
        exact go
theorem s_readSum (e5 : P 37 5 = d) (hk : c_kind d = 6) (hn : 500 ≤ n) : ∀ {m : Nat} {F : Nat → Nat → Int32} {A : Nat → Nat → Nat → Int32} {J : Nat → Nat → Nat → Int64} {x1 : Int32}, Rc F A → 0 ≤ x1.toInt ∧ x1.toInt ≤ 6 → 7 - x1.toInt ≤ (m : Int) → ok (e_Reader_readSum m n P F A J x1) (LNc d P F A) := by
  intro m
  induction m with
  | zero => intro F A J x1 R hx hm; exact absurd hm (by omega)
  | succ m ih =>
    intro F A J x1 R hx hm
    have l0 : (0 : Int32).toInt = 0 := by decide
    unfold e_Reader_readSum e_Reader_readSumB
    exact s_readSum_10 (p2 := 0) (p3 := 0) e5 hk hx (fun h F A J x R hx' hy => ih R hx' (by omega)) (QLc.rfl' R) (by decide) (by decide) (by decide) (.inr (by omega)) (by decide) (by omega)
end L99
end Qz88
section Qz89
/-! the class's reader: what is told -/
/-- the draft, where its text has no fault -/
def DVc (F : Nat → Nat → Int32) (A : Nat → Nat → Nat → Int32) (d : Nat) : Prop := (∀ x, 0 ≤ x → x < cf F d 14 → 0 ≤ ci A d 1 x ∧ 0 ≤ ci A d 2 x) ∧ (∀ m, 0 ≤ m → m < cf F d 17 → 0 ≤ ci A d 12 m) ∧ (∀ t, 0 ≤ t → t < cf F d 16 → 0 ≤ ci A d 4 t) ∧ (∀ t s, 0 ≤ t → t < 6 → 0 ≤ s → s < ci A d 5 t → ci A d 11 (t * 6 + s) ≤ 5) ∧ CVc F A d ∧ (1 ≤ cf F d 18 ∧ cf F d 18 ≤ 600) ∧ LVc A d 3
def RVc (d : Nat) (F0 F : Nat → Nat → Int32) (A0 A : Nat → Nat → Nat → Int32) : Prop := Rc F A ∧ ((∀ r k, r ≠ 37 → r ≠ d → r ≠ 3 → F r k = F0 r k) ∧ (∀ r o, r ≠ 37 → r ≠ d → r ≠ 3 → A r o = A0 r o)) ∧ (∀ t, cf F d 16 ≤ t → t < 6 → ci A d 5 t = 0) ∧ (cf F 37 10 ≠ 0 ∨ cf F d 1304 ≤ cf F 37 7) ∧ (cf F 37 10 ≠ 0 ∨ cf F 37 12 ≠ 0 ∨ DVc F A d)
def RXc (P : Nat → Nat → Nat) (d : Nat) (F0 : Nat → Nat → Int32) (A0 : Nat → Nat → Nat → Int32) (r : Unit × (Nat → Nat → Nat) × (Nat → Nat → Int32) × (Nat → Nat → Nat → Int32) × (Nat → Nat → Nat → Int64)) : Prop := r.2.1 = P ∧ RVc d F0 r.2.2.1 A0 r.2.2.2.1
section R9a
variable {P P' : Nat → Nat → Nat} {F F' F0 : Nat → Nat → Int32} {A A' A0 : Nat → Nat → Nat → Int32} {J : Nat → Nat → Nat → Int64} {n d : Nat}
theorem DVc.cgF (D : DVc F A d) (h : ∀ k, F' d k = F d k) : DVc F' A d := by
  unfold DVc CVc cf
  simp only [h]
  exact D
theorem RVc.q (V : RVc d F0 F A0 A) (hd : d ≠ 37) (q : QRc P P' F F' A A') : RVc d F0 F' A0 A' := by
  obtain ⟨v1, ⟨v2, v3⟩, v4, v5, v6⟩ := V
  obtain ⟨q1, q2, q3, q4, q5, q6, q7⟩ := q
  subst q2
  have e : ∀ k, F' d k = F d k := fun k => q3 d k (fun h => hd h.1)
  refine ⟨q4, ⟨fun r k a b c => (q3 r k (fun h => a h.1)).trans (v2 r k a b c), v3⟩, by unfold cf; rw [e]; exact v4, ?_, ?_⟩
  · rcases v5 with h | h
    · exact .inl (q6 h)
    · right
      have : cf F' d 1304 = cf F d 1304 := by unfold cf; rw [e]
      omega
  · rcases v6 with h | h | h
    · exact .inl (q6 h)
    · exact .inr (.inl (q7 h))
    · exact .inr (.inr (h.cgF e))
/-- the draft is written -/
theorem RVc.up (V : RVc d F0 F A0 A) (h0 : d ≠ 37) (R : Rc F' A') (oF : ∀ r k, r ≠ d → r ≠ 3 → F' r k = F r k) (oA : ∀ r o, r ≠ d → r ≠ 3 → A' r o = A r o) (h5 : ∀ t, cf F' d 16 ≤ t → t < 6 → ci A' d 5 t = 0) (hl : F' d 1304 = F d 1304) (hD : cf F 37 10 ≠ 0 ∨ cf F 37 12 ≠ 0 ∨ (DVc F A d → DVc F' A' d)) : RVc d F0 F' A0 A' := by
  obtain ⟨v1, ⟨v2, v3⟩, v4, v5, v6⟩ := V
  have e7 : F' 37 7 = F 37 7 := oF 37 7 (fun e => h0 e.symm) (by decide)
  have e10 : F' 37 10 = F 37 10 := oF 37 10 (fun e => h0 e.symm) (by decide)
  have e12 : F' 37 12 = F 37 12 := oF 37 12 (fun e => h0 e.symm) (by decide)
  refine ⟨R, ⟨fun r k a b c => (oF r k b c).trans (v2 r k a b c), fun r o a b c => (oA r o b c).trans (v3 r o a b c)⟩, h5, ?_, ?_⟩
  · unfold cf at v5 ⊢
    rw [hl, e7, e10]
    exact v5
  · unfold cf at v6 hD ⊢
    rw [e10, e12]
    rcases hD with h | h | h
    · exact .inl h
    · exact .inr (.inl h)
    · exact v6.imp id (fun z => z.imp id h)
theorem kd37 (hk : c_kind d = 6) : d ≠ 37 := fun e => absurd hk (by rw [e]; decide)
theorem kd3 (hk : c_kind d = 6) : d ≠ 3 := fun e => absurd hk (by rw [e]; decide)
theorem Rc.h (R : Rc F A) (hk : c_kind d = 6) : (0 ≤ (F d 13).toInt ∧ (F d 13).toInt ≤ 8) ∧ (0 ≤ (F d 14).toInt ∧ (F d 14).toInt ≤ 12) ∧ (0 ≤ (F d 15).toInt ∧ (F d 15).toInt ≤ 6) ∧ (0 ≤ (F d 16).toInt ∧ (F d 16).toInt ≤ 6) ∧ (0 ≤ (F d 17).toInt ∧ (F d 17).toInt ≤ 6) := by
  have a := R.1 d 13
  have b := R.1 d 14
  have c := R.1 d 15
  have e := R.1 d 16
  have f := R.1 d 17
  rw [hk] at a b c e f
  exact ⟨a, b, c, e, f⟩
theorem QRc.dd (q : QRc P P' F F' A A') (hd : d ≠ 37) (k : Nat) : F' d k = F d k := q.2.2.1 d k (fun h => hd h.1)
theorem s_readRoom (e5 : P 37 5 = d) (hk : c_kind d = 6) (V : RVc d F0 F A0 A) (hn : 20 ≤ n) : ok (e_Reader_readRoom n P F A J) (RXc P d F0 A0) := by
  have l0 : (0 : Int32).toInt = 0 := by decide
  have l1 : (1 : Int32).toInt = 1 := by decide
  have l8 : (8 : Int32).toInt = 8 := by decide
  have hd := kd37 hk
  have rh := V.1.h hk
  unfold e_Reader_readRoom
  rw [e5]
  refine ok_chk hk ?_
  refine ok_call (s_takeFirst V.1) ?_
  rintro ⟨u2, P2, F2, A2, J2⟩ ⟨q2, w2⟩
  dsimp only at q2 w2 ⊢
  have e5' : P2 37 5 = d := by rw [q2.1]; exact e5
  rw [e5']
  refine ok_chk hk ?_
  have k2 := q2.dd hd 13
  refine ok_call (s_newName e5' hk q2.2.2.2.1 (by rw [k2]; omega) (by omega)) ?_
  rintro ⟨u3, P3, F3, A3, J3⟩ q3
  dsimp only at q3 ⊢
  refine ok_call (s_take q3.2.2.2.1) ?_
  rintro ⟨v, P4, F4, A4, J4⟩ ⟨q4, w4⟩
  dsimp only at q4 w4 ⊢
  have qa := (q2.tr q3).tr q4
  have V4 := V.q hd qa
  refine ok_cond (fun _ => ok_some ⟨qa.1, V4⟩) (fun c => ?_)
  rw [i_neq, l0] at c
  have z4 : cf F4 37 10 = 0 := by omega
  have lt : (F d 13).toInt < 8 := by
    rcases w2 with h | h
    · exact absurd (q4.2.2.2.2.2.1 (q3.2.2.2.2.2.1 h)) (by omega)
    · omega
  have e5'' : P4 37 5 = d := by rw [qa.1]; exact e5
  rw [e5'']
  refine ok_chk hk ?_
  refine ok_cpf ?_
  intro F5 U5
  have k4 := qa.dd hd 13
  rw [k4] at U5
  have e := i_add (x := F d 13) (y := 1) (by omega) (by omega)
  suffices V6 : RVc d F0 F5 A0 A4 from ok_some ⟨qa.1, V6⟩
  refine V4.up hd (V4.1.pf U5 (by rw [hk]; exact (show 0 ≤ (F d 13 + 1).toInt ∧ (F d 13 + 1).toInt ≤ 8 by omega))) (fun r k a _ => U5.2 r k (fun h => a h.1)) (fun _ _ _ _ => rfl) (by unfold cf; rw [U5.2 d 16 (by simp)]; exact V4.2.2.1) (U5.2 d 1304 (by simp)) (.inr (.inr (fun D => ?_)))
  unfold DVc CVc cf
  rw [U5.2 d 14 (by simp), U5.2 d 17 (by simp), U5.2 d 16 (by simp), U5.2 d 1304 (by simp), U5.2 d 18 (by simp)]
  exact D
theorem s_readTool (e5 : P 37 5 = d) (e6 : P 37 6 = 3) (hk : c_kind d = 6) (V : RVc d F0 F A0 A) (hn : 20 ≤ n) : ok (e_Reader_readTool n P F A J) (RXc P d F0 A0) := by
  have l0 : (0 : Int32).toInt = 0 := by decide
  have l1 : (1 : Int32).toInt = 1 := by decide
  have l6 : (6 : Int32).toInt = 6 := by decide
  have hd := kd37 hk
  have h3 := kd3 hk
  have rh := V.1.h hk
  unfold e_Reader_readTool
  rw [e5]
  refine ok_chk hk ?_
  refine ok_call (s_takeFirst V.1) ?_
  rintro ⟨u2, P2, F2, A2, J2⟩ ⟨q2, w2⟩
  dsimp only at q2 w2 ⊢
  have e5' : P2 37 5 = d := by rw [q2.1]; exact e5
  rw [e5']
  refine ok_chk hk ?_
  have k2 := q2.dd hd 15
  refine ok_call (s_newName_v1 e5' hk q2.2.2.2.1 (by rw [k2]; omega) (by omega)) ?_
  rintro ⟨u3, P3, F3, A3, J3⟩ q3
  dsimp only at q3 ⊢
  have e5'' : P3 37 5 = d := by rw [(q2.tr q3).1]; exact e5
  rw [e5'']
  refine ok_chk hk ?_
  refine ok_call (s_known q3.2.2.2.1 (by omega)) ?_
  rintro ⟨v14, P4, F4, A4, J4⟩ ⟨q4, a4, b4, c4, d4⟩
  dsimp only at q4 a4 b4 c4 d4 ⊢
  refine ok_call (s_take q4.2.2.2.1) ?_
  rintro ⟨v, P5, F5, A5, J5⟩ ⟨q5, w5⟩
  dsimp only at q5 w5 ⊢
  have qa := ((q2.tr q3).tr q4).tr q5
  have V5 := V.q hd qa
  refine ok_cond (fun _ => ok_some ⟨qa.1, V5⟩) (fun c => ?_)
  rw [i_neq, l0] at c
  have z5 : cf F5 37 10 = 0 := by omega
  have lt : (F d 15).toInt < 6 := by
    rcases w2 with h | h
    · exact absurd (q5.2.2.2.2.2.1 (q4.2.2.2.2.2.1 (q3.2.2.2.2.2.1 h))) (by omega)
    · omega
  have k5 := qa.dd hd 15
  have x5 : P5 37 5 = d := by rw [qa.1]; exact e5
  have x6 : P5 37 6 = 3 := by rw [qa.1]; exact e6
  rw [x5, x6]
  refine ok_chk (by decide) ?_
  refine ok_chk hk ?_
  rw [k5]
  refine ok_cst (by omega) (by omega) ?_
  intro A6 U6
  refine ok_chk hk ?_
  refine ok_cpf ?_
  intro F7 U7
  have e := i_add (x := F d 15) (y := 1) (by omega) (by omega)
  have ad : ∀ o, A6 d o = A5 d o := fun o => U6.2.2 d o (fun h => h3 h.1)
  rw [k5] at U7
  suffices V6 : RVc d F0 F7 A0 A6 from ok_some ⟨qa.1, V6⟩
  refine V5.up hd ((V5.1.st U6 trivial).pf U7 (by rw [hk]; exact (show 0 ≤ (F d 15 + 1).toInt ∧ (F d 15 + 1).toInt ≤ 6 by omega))) (fun r k a _ => U7.2 r k (fun h => a h.1)) (fun r o _ b => U6.2.2 r o (fun h => b h.1)) (by unfold cf; rw [U7.2 d 16 (by simp), ci_fr (ad 5)]; exact V5.2.2.1) (U7.2 d 1304 (by simp)) (.inr (.inr (fun D => ?_)))
  unfold DVc CVc LVc LVx cf
  rw [U7.2 d 14 (by simp), U7.2 d 17 (by simp), U7.2 d 16 (by simp), U7.2 d 1304 (by simp), U7.2 d 18 (by simp), ci_fr (ad 1), ci_fr (ad 2), ci_fr (ad 12), ci_fr (ad 4), ci_fr (ad 5), ci_fr (ad 11), ci_fr (ad 15), ci_fr (ad 16), ci_fr (U6.2.2 3 3 (by simp))]
  exact D
end R9a
end Qz89
section Qz90
section R9b
variable {P P' : Nat → Nat → Nat} {F F' F0 : Nat → Nat → Int32} {A A' A0 : Nat → Nat → Nat → Int32} {J : Nat → Nat → Nat → Int64} {n d : Nat}
theorem hrow (hk : c_kind d = 6) (o : Nat) (v : Int) (h : rRc 6 o v) : rRc (c_kind d) o v := by rw [hk]; exact h
theorem s_readDoor_91 {x1 x2 x3 s0 : Int32} (e5 : P 37 5 = d) (e6 : P 37 6 = 3) (hk : c_kind d = 6) (V : RVc d F0 F A0 A) (h1 : -1 ≤ x1.toInt ∧ x1.toInt ≤ 7) (h2 : -1 ≤ x2.toInt ∧ x2.toInt ≤ 7) (hv : cf F 37 10 ≠ 0 ∨ cf F 37 12 ≠ 0 ∨ (0 ≤ x1.toInt ∧ 0 ≤ x2.toInt)) (hc : cf F 37 10 ≠ 0 ∨ cf F d 14 < 12) : ok (e_Reader_readDoor_91 n P F A J x1 x2 x3 s0) (RXc P d F0 A0) := by
  have l0 : (0 : Int32).toInt = 0 := by decide
  have l1 : (1 : Int32).toInt = 1 := by decide
  have hd := kd37 hk
  have h3 := kd3 hk
  unfold e_Reader_readDoor_91
  refine ok_call (s_take V.1) ?_
  rintro ⟨v, P5, F5, A5, J5⟩ ⟨q5, w5⟩
  dsimp only at q5 w5 ⊢
  have V5 := V.q hd q5
  refine ok_cond (fun _ => ok_some ⟨q5.1, V5⟩) (fun c => ?_)
  rw [i_neq, l0] at c
  have z5 : cf F5 37 10 = 0 := by omega
  have z0 : cf F 37 10 = 0 := by omega
  have rh := V5.1.h hk
  have k14 := q5.dd hd 14
  have lt : (F5 d 14).toInt < 12 := by
    rw [k14]
    rcases hc with h | h
    · exact absurd z0 h
    · exact h
  have hv5 : cf F5 37 12 ≠ 0 ∨ (0 ≤ x1.toInt ∧ 0 ≤ x2.toInt) := by
    rcases hv with h | h | h
    · exact absurd z0 h
    · exact .inl (q5.2.2.2.2.2.2 h)
    · exact .inr h
  have x5 : P5 37 5 = d := by rw [q5.1]; exact e5
  have x6 : P5 37 6 = 3 := by rw [q5.1]; exact e6
  rw [x5, x6]
  refine ok_chk hk ?_
  refine ok_chk hk ?_
  refine ok_cst (by omega) (by omega) ?_
  intro A6 U6
  refine ok_chk hk ?_
  refine ok_cst (by omega) (by omega) ?_
  intro A7 U7
  refine ok_chk hk ?_
  refine ok_cst (by omega) (by omega) ?_
  intro A8 U8
  refine ok_chk (by decide) ?_
  have R8 : Rc F5 A8 := ((V5.1.st U6 (hrow hk 1 _ h1)).st U7 (hrow hk 2 _ h2)).st U8 (hrow hk 3 _ trivial)
  have f165 : ∀ {s1 s2 : Int32}, ok (e_Reader_readDoor_165 n P5 F5 A8 J5 3 s1 s2) (RXc P d F0 A0) := by
    intro s1 s2
    unfold e_Reader_readDoor_165
    refine ok_cpf ?_
    intro F9 U9
    rw [x5]
    refine ok_chk hk ?_
    refine ok_cpf ?_
    intro F10 U10
    have k9 : F9 d 14 = F5 d 14 := U9.2 d 14 (fun h => h3 h.1)
    rw [k9] at U10
    have e := i_add (x := F5 d 14) (y := 1) (by omega) (by omega)
    have fd : ∀ k, k ≠ 14 → F10 d k = F5 d k := fun k hkk => (U10.2 d k (fun h => hkk h.2)).trans (U9.2 d k (fun h => h3 h.1))
    have ad : ∀ o, o ≠ 1 → o ≠ 2 → o ≠ 3 → A8 d o = A5 d o := fun o a b c => (U8.2.2 d o (fun h => c h.2)).trans ((U7.2.2 d o (fun h => b h.2)).trans (U6.2.2 d o (fun h => a h.2)))
    have a3 : A8 3 3 = A5 3 3 := (U8.2.2 3 3 (fun h => h3 h.1.symm)).trans ((U7.2.2 3 3 (fun h => h3 h.1.symm)).trans (U6.2.2 3 3 (fun h => h3 h.1.symm)))
    have k14' : (F10 d 14).toInt = (F5 d 14).toInt + 1 := by rw [U10.1]; omega
    have R10 : Rc F10 A8 := (R8.pf U9 trivial).pf U10 (by rw [hk]; exact (show 0 ≤ (F5 d 14 + 1).toInt ∧ (F5 d 14 + 1).toInt ≤ 12 by omega))
    suffices V6 : RVc d F0 F10 A0 A8 from ok_some ⟨q5.1, V6⟩
    refine V5.up hd R10 (fun r k a b => (U10.2 r k (fun h => a h.1)).trans (U9.2 r k (fun h => b h.1))) (fun r o a _ => (U8.2.2 r o (fun h => a h.1)).trans ((U7.2.2 r o (fun h => a h.1)).trans (U6.2.2 r o (fun h => a h.1)))) (by unfold cf; rw [fd 16 (by decide), ci_fr (ad 5 (by decide) (by decide) (by decide))]; exact V5.2.2.1) (fd 1304 (by decide)) (.inr (hv5.imp id (fun hh D => ?_)))
    obtain ⟨d1, d2, d3, d4, d5, d6, d7⟩ := D
    refine ⟨fun x p r => ?_, ?_, ?_, ?_, ?_, ?_, d7.cg (ad 5 (by decide) (by decide) (by decide)) a3⟩
    · have r' : x < (F10 d 14).toInt := r
      have b1 : ci A8 d 1 = ci A6 d 1 := by rw [ci_fr (U8.2.2 d 1 (by simp)), ci_fr (U7.2.2 d 1 (by simp))]
      have b2 : ci A8 d 2 = ci A7 d 2 := ci_fr (U8.2.2 d 2 (by simp))
      show 0 ≤ ci A8 d 1 x ∧ 0 ≤ ci A8 d 2 x
      rw [b1, b2]
      by_cases z : x = (F5 d 14).toInt
      · rw [z, U6.1, U7.1]; exact hh
      · rw [U6.2.1 x p z, U7.2.1 x p z, ci_fr (U6.2.2 d 2 (by simp))]
        exact d1 x p (by unfold cf; omega)
    · unfold cf
      rw [fd 17 (by decide), ci_fr (ad 12 (by decide) (by decide) (by decide))]
      exact d2
    · unfold cf
      rw [fd 16 (by decide), ci_fr (ad 4 (by decide) (by decide) (by decide))]
      exact d3
    · rw [ci_fr (ad 5 (by decide) (by decide) (by decide)), ci_fr (ad 11 (by decide) (by decide) (by decide))]
      exact d4
    · unfold CVc cf
      rw [fd 1304 (by decide), ci_fr (ad 15 (by decide) (by decide) (by decide)), ci_fr (ad 16 (by decide) (by decide) (by decide))]
      exact d5
    · unfold cf
      rw [fd 18 (by decide)]
      exact d6
  exact ok_cond (fun _ => f165) (fun _ => f165)
theorem s_readDoor (e5 : P 37 5 = d) (e6 : P 37 6 = 3) (hk : c_kind d = 6) (V : RVc d F0 F A0 A) (hn : 20 ≤ n) : ok (e_Reader_readDoor n P F A J) (RXc P d F0 A0) := by
  have l0 : (0 : Int32).toInt = 0 := by decide
  have l12 : (12 : Int32).toInt = 12 := by decide
  have hd := kd37 hk
  unfold e_Reader_readDoor
  rw [e5]
  refine ok_chk hk ?_
  refine ok_call (s_takeFirst V.1) ?_
  rintro ⟨u2, P2, F2, A2, J2⟩ ⟨q2, w2⟩
  dsimp only at q2 w2 ⊢
  have e5' : P2 37 5 = d := by rw [q2.1]; exact e5
  rw [e5']
  refine ok_chk hk ?_
  refine ok_call (s_known q2.2.2.2.1 (by omega)) ?_
  rintro ⟨v8, P3, F3, A3, J3⟩ ⟨q3, a3, b3, c3, d3⟩
  dsimp only at q3 a3 b3 c3 d3 ⊢
  have e5'' : P3 37 5 = d := by rw [(q2.tr q3).1]; exact e5
  rw [e5'']
  refine ok_chk hk ?_
  refine ok_call (s_known q3.2.2.2.1 (by omega)) ?_
  rintro ⟨v14, P4, F4, A4, J4⟩ ⟨q4, a4, b4, c4, d4⟩
  dsimp only at q4 a4 b4 c4 d4 ⊢
  have qa := (q2.tr q3).tr q4
  -- the rest of it
  have rest : ∀ {P5 F5 A5 J5}, QRc P4 P5 F4 F5 A4 A5 → ok ((e_Reader_takeNumber P5 F5 A5 J5 1 60).bind fun (v39, P40, F41, A42, J43) => (e_Reader_isNext P40 F41 A42 J43 8).bind fun v44 => cond (g_cnd .eq v44 0) (e_Reader_readDoor_90 n P40 F41 A42 J43 v8 v14 v39) ((e_Reader_take P40 F41 A42 J43 8).bind fun (v46, P47, F48, A49, J50) => cond (g_cnd .eq v46 0) (e_Reader_readDoor_90 n P47 F48 A49 J50 v8 v14 v39) (e_Reader_readDoor_91 n P47 F48 A49 J50 v8 v14 v39 1))) (RXc P d F0 A0) := by
    intro P5 F5 A5 J5 q5
    have last : ∀ {P7 F7 A7 J7} {v s : Int32}, QRc P4 P7 F4 F7 A4 A7 → ok (e_Reader_readDoor_91 n P7 F7 A7 J7 v8 v14 v s) (RXc P d F0 A0) := by
      intro P7 F7 A7 J7 v s q7
      have qz := qa.tr q7
      have ep : P7 = P := qz.1
      subst ep
      refine s_readDoor_91 e5 e6 hk (V.q hd qz) ⟨a3, by omega⟩ ⟨a4, by omega⟩ ?_ ?_
      · rcases d3 with h | h | h
        · rcases d4 with g | g | g
          · exact .inr (.inr ⟨h, g⟩)
          · exact .inl (q7.2.2.2.2.2.1 g)
          · exact .inr (.inl (q7.2.2.2.2.2.2 g))
        · exact .inl (q7.2.2.2.2.2.1 (q4.2.2.2.2.2.1 h))
        · exact .inr (.inl (q7.2.2.2.2.2.2 (q4.2.2.2.2.2.2 h)))
      · rcases w2 with h | h
        · exact .inl (q7.2.2.2.2.2.1 (q4.2.2.2.2.2.1 (q3.2.2.2.2.2.1 h)))
        · right
          unfold cf
          rw [qz.dd hd 14]
          omega
    refine ok_call (s_takeNumber q5.2.2.2.1) ?_
    rintro ⟨v39, P6, F6, A6, J6⟩ ⟨q6, _⟩
    dsimp only at q6 ⊢
    refine ok_call (s_isNext q6.2.2.2.1) ?_
    intro v44 _
    refine ok_cond (fun _ => ?_) (fun _ => ?_)
    · unfold e_Reader_readDoor_90
      exact last (q5.tr q6)
    · refine ok_call (s_take q6.2.2.2.1) ?_
      rintro ⟨v46, P7, F7, A7, J7⟩ ⟨q7, _⟩
      dsimp only at q7 ⊢
      refine ok_cond (fun _ => ?_) (fun _ => ?_)
      · unfold e_Reader_readDoor_90
        exact last ((q5.tr q6).tr q7)
      · exact last ((q5.tr q6).tr q7)
  have f60 : ok (e_Reader_readDoor_60 n P4 F4 A4 J4 v8 v14) (RXc P d F0 A0) := by
    unfold e_Reader_readDoor_60
    exact rest (QRc.rfl' q4.2.2.2.1)
  refine ok_cond (fun _ => f60) (fun _ => ?_)
  refine ok_cond (fun _ => f60) (fun _ => ?_)
  refine ok_call (s_failLate q4.2.2.2.1 (by decide)) ?_
  rintro ⟨u5, P5, F5, A5, J5⟩ ⟨q5, _⟩
  dsimp only at q5 ⊢
  exact rest q5
theorem s_readTask (e5 : P 37 5 = d) (e6 : P 37 6 = 3) (hk : c_kind d = 6) (V : RVc d F0 F A0 A) (hn : 20 ≤ n) : ok (e_Reader_readTask n P F A J) (RXc P d F0 A0) := by
  have l0 : (0 : Int32).toInt = 0 := by decide
  have l1 : (1 : Int32).toInt = 1 := by decide
  have l6 : (6 : Int32).toInt = 6 := by decide
  have hd := kd37 hk
  have h3 := kd3 hk
  have rh := V.1.h hk
  unfold e_Reader_readTask
  rw [e5]
  refine ok_chk hk ?_
  refine ok_call (s_takeFirst V.1) ?_
  rintro ⟨u2, P2, F2, A2, J2⟩ ⟨q2, w2⟩
  dsimp only at q2 w2 ⊢
  have e5' : P2 37 5 = d := by rw [q2.1]; exact e5
  rw [e5']
  refine ok_chk hk ?_
  have k2 := q2.dd hd 16
  refine ok_call (s_newName_v2 e5' hk q2.2.2.2.1 (by rw [k2]; omega) (by omega)) ?_
  rintro ⟨u3, P3, F3, A3, J3⟩ q3
  dsimp only at q3 ⊢
  have e5'' : P3 37 5 = d := by rw [(q2.tr q3).1]; exact e5
  rw [e5'']
  refine ok_chk hk ?_
  refine ok_call (s_known q3.2.2.2.1 (by omega)) ?_
  rintro ⟨v14, P4, F4, A4, J4⟩ ⟨q4, a4, b4, c4, d4⟩
  dsimp only at q4 a4 b4 c4 d4 ⊢
  refine ok_call (s_takeNumber q4.2.2.2.1) ?_
  rintro ⟨v19, P4b, F4b, A4b, J4b⟩ ⟨q4b, _⟩
  dsimp only at q4b ⊢
  refine ok_call (s_take q4b.2.2.2.1) ?_
  rintro ⟨v, P5, F5, A5, J5⟩ ⟨q5, w5⟩
  dsimp only at q5 w5 ⊢
  have qa := (((q2.tr q3).tr q4).tr q4b).tr q5
  have V5 := V.q hd qa
  refine ok_cond (fun _ => ok_some ⟨qa.1, V5⟩) (fun c => ?_)
  rw [i_neq, l0] at c
  have z5 : cf F5 37 10 = 0 := by omega
  have lt : (F d 16).toInt < 6 := by
    rcases w2 with h | h
    · exact absurd (q5.2.2.2.2.2.1 (q4b.2.2.2.2.2.1 (q4.2.2.2.2.2.1 (q3.2.2.2.2.2.1 h)))) (by omega)
    · omega
  have hv : cf F5 37 12 ≠ 0 ∨ 0 ≤ v14.toInt := by
    rcases d4 with h | h | h
    · exact .inr h
    · exact absurd (q5.2.2.2.2.2.1 (q4b.2.2.2.2.2.1 h)) (by omega)
    · exact .inl (q5.2.2.2.2.2.2 (q4b.2.2.2.2.2.2 h))
  have k5 := qa.dd hd 16
  have x5 : P5 37 5 = d := by rw [qa.1]; exact e5
  have x6 : P5 37 6 = 3 := by rw [qa.1]; exact e6
  rw [x5, x6]
  refine ok_chk hk ?_
  refine ok_chk hk ?_
  rw [k5]
  refine ok_cst (by omega) (by omega) ?_
  intro A6 U6
  refine ok_chk (by decide) ?_
  refine ok_chk hk ?_
  rw [k5]
  refine ok_cst (by omega) (by omega) ?_
  intro A7 U7
  refine ok_chk hk ?_
  refine ok_cpf ?_
  intro F8 U8
  rw [k5] at U8
  have e := i_add (x := F d 16) (y := 1) (by omega) (by omega)
  have k8 : (F8 d 16).toInt = (F d 16).toInt + 1 := by rw [U8.1]; omega
  have t5 : (F5 d 16).toInt = (F d 16).toInt := by rw [k5]
  have fd : ∀ k, k ≠ 16 → F8 d k = F5 d k := fun k hkk => U8.2 d k (fun h => hkk h.2)
  have ad : ∀ o, o ≠ 4 → A7 d o = A5 d o := fun o a => (U7.2.2 d o (fun h => h3 h.1)).trans (U6.2.2 d o (fun h => a h.2))
  have a3 : A7 3 3 = A5 3 3 := (U7.2.2 3 3 (by simp)).trans (U6.2.2 3 3 (fun h => h3 h.1.symm))
  have R8 : Rc F8 A7 := ((V5.1.st U6 (hrow hk 4 _ ⟨a4, by omega⟩)).st U7 trivial).pf U8 (by rw [hk]; exact (show 0 ≤ (F d 16 + 1).toInt ∧ (F d 16 + 1).toInt ≤ 6 by omega))
  suffices V6 : RVc d F0 F8 A0 A7 from ok_some ⟨qa.1, V6⟩
  refine V5.up hd R8 (fun r k a _ => U8.2 r k (fun h => a h.1)) (fun r o a b => (U7.2.2 r o (fun h => b h.1)).trans (U6.2.2 r o (fun h => a h.1))) (fun t p r => ?_) (fd 1304 (by decide)) (.inr (hv.imp id (fun hh D => ?_)))
  · have p' : (F8 d 16).toInt ≤ t := p
    show ci A7 d 5 t = 0
    rw [ci_fr (ad 5 (by decide))]
    exact V5.2.2.1 t (by unfold cf; omega) r
  obtain ⟨d1, d2, d3, d4', d5, d6, d7⟩ := D
  refine ⟨?_, ?_, fun t p r => ?_, ?_, ?_, ?_, d7.cg (ad 5 (by decide)) a3⟩
  · unfold cf
    rw [fd 14 (by decide), ci_fr (ad 1 (by decide)), ci_fr (ad 2 (by decide))]
    exact d1
  · unfold cf
    rw [fd 17 (by decide), ci_fr (ad 12 (by decide))]
    exact d2
  · have r' : t < (F8 d 16).toInt := r
    show 0 ≤ ci A7 d 4 t
    rw [ci_fr (U7.2.2 d 4 (fun h => h3 h.1))]
    by_cases z : t = (F d 16).toInt
    · rw [z, U6.1]; exact hh
    · rw [U6.2.1 t p z]
      exact d3 t p (by unfold cf; omega)
  · rw [ci_fr (ad 5 (by decide)), ci_fr (ad 11 (by decide))]
    exact d4'
  · unfold CVc cf
    rw [fd 1304 (by decide), ci_fr (ad 15 (by decide)), ci_fr (ad 16 (by decide))]
    exact d5
  · unfold cf
    rw [fd 18 (by decide)]
    exact d6
end R9b
end Qz90
section Qz91
section R9c
variable {P P' : Nat → Nat → Nat} {F F' F0 : Nat → Nat → Int32} {A A' A0 : Nat → Nat → Nat → Int32} {J : Nat → Nat → Nat → Int64} {n d : Nat}
theorem s_taskOfStep_57 {x1 x2 : Int32} {F1 : Nat → Nat → Int32} {P1 : Nat → Nat → Nat} {A1 : Nat → Nat → Nat → Int32} (e5 : P 37 5 = d) (hk : c_kind d = 6) (q1 : QRc P P1 F F1 A A1) (h2 : -1 ≤ x2.toInt ∧ x2.toInt ≤ 5 ∧ (x2.toInt < cf F d 16 ∨ x2.toInt = -1)) (hn : 20 ≤ n) : ok (e_Reader_takeTaskOfStep_57 n P1 F1 A1 J x1 x2) (fun r => QRc P r.2.1 F r.2.2.1 A r.2.2.2.1 ∧ -1 ≤ r.1.toInt ∧ r.1.toInt ≤ 5 ∧ (r.1.toInt < cf F d 16 ∨ r.1.toInt = -1) ∧ (cf r.2.2.1 37 10 ≠ 0 ∨ r.1.toInt < 0 ∨ ci A d 5 r.1.toInt < 6)) := by
  have l0 : (0 : Int32).toInt = 0 := by decide
  have l6 : (6 : Int32).toInt = 6 := by decide
  have x5 : P1 37 5 = d := by rw [q1.1]; exact e5
  unfold e_Reader_takeTaskOfStep_57
  rw [x5]
  refine ok_chk hk ?_
  refine ok_call (s_known_v1 q1.2.2.2.1 (by omega)) ?_
  rintro ⟨v13, P2, F2, A2, J2⟩ ⟨q2, -⟩
  dsimp only at q2 ⊢
  have qa := q1.tr q2
  refine ok_cond (fun c => ?_) (fun c => ?_)
  · rw [i_lt] at c
    exact ok_some ⟨qa, h2.1, h2.2.1, h2.2.2, .inr (.inl (show x2.toInt < 0 by omega))⟩
  · rw [i_nlt] at c
    have x5' : P2 37 5 = d := by rw [qa.1]; exact e5
    rw [x5']
    refine ok_chk hk ?_
    refine ok_ldc q2.2.2.2.1 hk (by omega) (by omega) ?_
    intro v20 v20e _
    rw [qa.2.1] at v20e
    refine ok_cond (fun c2 => ?_) (fun c2 => ?_)
    · rw [i_lt] at c2
      exact ok_some ⟨qa, h2.1, h2.2.1, h2.2.2, .inr (.inr (show ci A d 5 x2.toInt < 6 by omega))⟩
    · refine ok_call (s_fail q2.2.2.2.1 (by decide)) ?_
      rintro ⟨u, P3, F3, A3, J3⟩ ⟨q3, h3⟩
      exact ok_some ⟨qa.tr q3, h2.1, h2.2.1, h2.2.2, .inl h3⟩
theorem s_taskOfStep (e5 : P 37 5 = d) (hk : c_kind d = 6) (R : Rc F A) (hn : 20 ≤ n) : ok (e_Reader_takeTaskOfStep n P F A J) (fun r => QRc P r.2.1 F r.2.2.1 A r.2.2.2.1 ∧ -1 ≤ r.1.toInt ∧ r.1.toInt ≤ 5 ∧ (r.1.toInt < cf F d 16 ∨ r.1.toInt = -1) ∧ (cf r.2.2.1 37 10 ≠ 0 ∨ r.1.toInt < 0 ∨ ci A d 5 r.1.toInt < 6)) := by
  have l0 : (0 : Int32).toInt = 0 := by decide
  have lm : (-1 : Int32).toInt = -1 := by decide
  have hd := kd37 hk
  have a := R.tok
  unfold e_Reader_takeTaskOfStep
  refine ok_ldn (by omega) (by omega) (fun v1 => ?_)
  refine ok_call (s_take R) ?_
  rintro ⟨v2, P2, F2, A2, J2⟩ ⟨q2, -⟩
  dsimp only at q2 ⊢
  refine ok_call (s_isNext q2.2.2.2.1) ?_
  intro v7 _
  refine ok_cond (fun _ => ?_) (fun _ => ?_)
  · exact s_taskOfStep_57 e5 hk q2 ⟨by decide, by decide, .inr lm⟩ hn
  · have b := q2.2.2.2.1.tok
    refine ok_ldJc (by omega) (by omega) (fun v9 => ?_)
    have x5 : P2 37 5 = d := by rw [q2.1]; exact e5
    rw [x5]
    refine ok_chk hk ?_
    refine ok_call (s_find_v2 (by omega)) ?_
    intro v11 p11
    refine s_taskOfStep_57 e5 hk q2 ⟨p11.1, by omega, ?_⟩ hn
    have := p11.2.1
    rw [q2.dd hd 16] at this
    exact this
theorem s_readStep_107 {x1 x2 x3 x4 x5 x6 x7 : Int32} (e5 : P 37 5 = d) (hk : c_kind d = 6) (V : RVc d F0 F A0 A) (h1 : -1 ≤ x1.toInt ∧ x1.toInt ≤ 5 ∧ (x1.toInt < cf F d 16 ∨ x1.toInt = -1)) (h6 : -2 ≤ x6.toInt ∧ x6.toInt ≤ 5) (hc : cf F 37 10 ≠ 0 ∨ x1.toInt < 0 ∨ ci A d 5 x1.toInt < 6) (h7 : cf F 37 10 ≠ 0 ∨ cf F 37 12 ≠ 0 ∨ x1.toInt < 0 ∨ x7.toInt ≤ 5) : ok (e_Reader_readStep_107 n P F A J x1 x2 x3 x4 x5 x6 x7) (RXc P d F0 A0) := by
  have l0 : (0 : Int32).toInt = 0 := by decide
  have l1 : (1 : Int32).toInt = 1 := by decide
  have hd := kd37 hk
  have h3 := kd3 hk
  unfold e_Reader_readStep_107
  refine ok_call (s_take V.1) ?_
  rintro ⟨v, P5, F5, A5, J5⟩ ⟨q5, w5⟩
  dsimp only at q5 w5 ⊢
  have V5 := V.q hd q5
  have ea : A5 = A := q5.2.1
  subst ea
  refine ok_cond (fun _ => ok_some ⟨q5.1, V5⟩) (fun c => ?_)
  rw [i_neq, l0] at c
  refine ok_cond (fun _ => ok_some ⟨q5.1, V5⟩) (fun c1 => ?_)
  rw [i_nlt] at c1
  have z5 : cf F5 37 10 = 0 := by omega
  have z0 : cf F 37 10 = 0 := by omega
  have cnt : ci A5 d 5 x1.toInt < 6 := by omega
  have p5 : P5 37 5 = d := by rw [q5.1]; exact e5
  rw [p5]
  refine ok_chk hk ?_
  refine ok_ldc V5.1 hk (by omega) (by omega) ?_
  intro v61 v61e v61r
  change 0 ≤ v61.toInt ∧ v61.toInt ≤ 6 at v61r
  have m := i_mulR (c := 6) (k := 6) (x := x1) (by decide) (by omega) (by omega)
  have a := i_add (x := x1 * 6) (y := v61) (by omega) (by omega)
  refine ok_chk hk ?_
  refine ok_cst (by omega) (by omega) ?_
  intro B1 U1
  refine ok_chk hk ?_
  refine ok_cst (by omega) (by omega) ?_
  intro B2 U2
  refine ok_chk hk ?_
  refine ok_cst (by omega) (by omega) ?_
  intro B3 U3
  refine ok_chk hk ?_
  refine ok_cst (by omega) (by omega) ?_
  intro B4 U4
  refine ok_chk hk ?_
  refine ok_cst (by omega) (by omega) ?_
  intro B5 U5
  refine ok_chk hk ?_
  refine ok_cst (by omega) (by omega) ?_
  intro B6 U6
  refine ok_chk hk ?_
  have R6 : Rc F5 B6 := (((((V5.1.st U1 (hrow hk 6 _ trivial)).st U2 (hrow hk 7 _ trivial)).st U3 (hrow hk 8 _ trivial)).st U4 (hrow hk 9 _ trivial)).st U5 (hrow hk 10 _ h6)).st U6 (hrow hk 11 _ trivial)
  have b5 : B6 d 5 = A5 d 5 := (U6.2.2 d 5 (by simp)).trans ((U5.2.2 d 5 (by simp)).trans ((U4.2.2 d 5 (by simp)).trans ((U3.2.2 d 5 (by simp)).trans ((U2.2.2 d 5 (by simp)).trans (U1.2.2 d 5 (by simp))))))
  have b11 : B5 d 11 = A5 d 11 := (U5.2.2 d 11 (by simp)).trans ((U4.2.2 d 11 (by simp)).trans ((U3.2.2 d 11 (by simp)).trans ((U2.2.2 d 11 (by simp)).trans (U1.2.2 d 11 (by simp)))))
  refine ok_ldc R6 hk (by omega) (by omega) ?_
  intro v75 v75e _
  rw [ci_fr b5] at v75e
  have e := i_add (x := v75) (y := 1) (by omega) (by omega)
  refine ok_cst (by omega) (by omega) ?_
  intro B7 U7
  have R7 : Rc F5 B7 := R6.st U7 (hrow hk 5 _ (show 0 ≤ (v75 + 1).toInt ∧ (v75 + 1).toInt ≤ 6 by omega))
  have oth : ∀ r o, ¬ (r = d ∧ (o = 5 ∨ o = 6 ∨ o = 7 ∨ o = 8 ∨ o = 9 ∨ o = 10 ∨ o = 11)) → B7 r o = A5 r o := fun r o h => (U7.2.2 r o (by omega)).trans ((U6.2.2 r o (by omega)).trans ((U5.2.2 r o (by omega)).trans ((U4.2.2 r o (by omega)).trans ((U3.2.2 r o (by omega)).trans ((U2.2.2 r o (by omega)).trans (U1.2.2 r o (by omega)))))))
  have n5 : ∀ j, 0 ≤ j → j ≠ x1.toInt → ci B7 d 5 j = ci A5 d 5 j := fun j a b => by rw [U7.2.1 j a b, ci_fr b5]
  have s5 : ci B7 d 5 x1.toInt = ci A5 d 5 x1.toInt + 1 := by rw [U7.1]; omega
  have t16 : F5 d 16 = F d 16 := q5.dd hd 16
  suffices V6 : RVc d F0 F5 A0 B7 from ok_some ⟨q5.1, V6⟩
  refine V5.up hd R7 (fun _ _ _ _ => rfl) (fun r o a _ => oth r o (fun h => a h.1)) (fun t p r => ?_) rfl ?_
  · have p' : (F5 d 16).toInt ≤ t := p
    rw [t16] at p'
    have g1 := h1.2.2
    unfold cf at g1
    have rh := V.1.h hk
    rw [n5 t (by omega) (by omega)]
    exact V5.2.2.1 t p r
  · have h7' : cf F5 37 12 ≠ 0 ∨ x7.toInt ≤ 5 := by
      rcases h7 with h | h | h | h
      · exact absurd z0 h
      · exact .inl (q5.2.2.2.2.2.2 h)
      · omega
      · exact .inr h
    refine .inr (h7'.imp id (fun hh D => ?_))
    obtain ⟨d1, d2, d3, d4, d5, d6, d7⟩ := D
    refine ⟨?_, ?_, ?_, fun t s t0 t1 s0 s1 => ?_, ?_, d6, fun mm m0 m1 => ?_⟩
    · rw [ci_fr (oth d 1 (by simp)), ci_fr (oth d 2 (by simp))]; exact d1
    · rw [ci_fr (oth d 12 (by simp))]; exact d2
    · rw [ci_fr (oth d 4 (by simp))]; exact d3
    · have c11 : ci B7 d 11 = ci B6 d 11 := ci_fr (U7.2.2 d 11 (by simp))
      rw [c11]
      have idx : (x1 * 6 + v61).toInt = x1.toInt * 6 + v61.toInt := by omega
      rw [idx] at U6
      by_cases e1 : t = x1.toInt
      · subst e1
        rw [s5] at s1
        by_cases e2 : s = v61.toInt
        · rw [e2, U6.1]; exact hh
        · rw [U6.2.1 _ (by omega) (by omega), ci_fr b11]
          exact d4 _ s t0 t1 s0 (by omega)
      · rw [n5 t t0 e1] at s1
        have g6 : ci A5 d 5 t ≤ 6 := by
          have := V5.1.2 d 5 t t0
          rw [hk] at this
          exact this.2
        rw [U6.2.1 _ (by omega) (by omega), ci_fr b11]
        exact d4 t s t0 t1 s0 s1
    · unfold CVc
      rw [ci_fr (oth d 15 (by simp)), ci_fr (oth d 16 (by simp))]
      exact d5
    · rw [ci_fr (oth 3 3 (fun h => h3 h.1.symm))]
      rcases d7 mm m0 m1 with z | ⟨z1, z2, z3⟩
      · exact .inl z
      · refine .inr ⟨z1, z2, ?_⟩
        by_cases e1 : ci A5 3 3 mm / 6 = x1.toInt
        · rw [e1, s5]
          rw [e1] at z3
          omega
        · rw [n5 _ (by omega) e1]
          exact z3
theorem s_readStep (e5 : P 37 5 = d) (hk : c_kind d = 6) (V : RVc d F0 F A0 A) (hn : 20 ≤ n) : ok (e_Reader_readStep n P F A J) (RXc P d F0 A0) := by
  have l0 : (0 : Int32).toInt = 0 := by decide
  have lm2 : (-2 : Int32).toInt = -2 := by decide
  have hd := kd37 hk
  have rh := V.1.h hk
  unfold e_Reader_readStep
  refine ok_call (s_taskOfStep e5 hk V.1 hn) ?_
  rintro ⟨v1, P1, F1, A1, J1⟩ ⟨q1, a1, b1, c1, d1⟩
  dsimp only at q1 a1 b1 c1 d1 ⊢
  refine ok_call (s_takeNumber q1.2.2.2.1) ?_
  rintro ⟨v6, P2, F2, A2, J2⟩ ⟨q2, -⟩
  dsimp only at q2 ⊢
  refine ok_call (s_takeNumber q2.2.2.2.1) ?_
  rintro ⟨v11, P3, F3, A3, J3⟩ ⟨q3, -⟩
  dsimp only at q3 ⊢
  refine ok_call (s_takeNumber q3.2.2.2.1) ?_
  rintro ⟨v16, P4, F4, A4, J4⟩ ⟨q4, -⟩
  dsimp only at q4 ⊢
  refine ok_call (s_takeNumber q4.2.2.2.1) ?_
  rintro ⟨v21, P5, F5, A5, J5⟩ ⟨q5, -⟩
  dsimp only at q5 ⊢
  have qb := ((q2.tr q3).tr q4).tr q5
  -- the end, whatever quiet calls come between
  have last : ∀ {P7 F7 A7 J7} {x6 x7 : Int32}, QRc P1 P7 F1 F7 A1 A7 → -2 ≤ x6.toInt ∧ x6.toInt ≤ 5 → (cf F7 37 10 ≠ 0 ∨ cf F7 37 12 ≠ 0 ∨ v1.toInt < 0 ∨ x7.toInt ≤ 5) → ok (e_Reader_readStep_107 n P7 F7 A7 J7 v1 v6 v11 v16 v21 x6 x7) (RXc P d F0 A0) := by
    intro P7 F7 A7 J7 x6 x7 q7 h6 h7
    have qz := q1.tr q7
    have ep : P7 = P := qz.1
    subst ep
    refine s_readStep_107 e5 hk (V.q hd qz) ⟨a1, b1, by unfold cf at c1 ⊢; rw [qz.dd hd 16]; exact c1⟩ h6 ?_ h7
    rw [qz.2.1]
    rcases d1 with h | h | h
    · exact .inl (q7.2.2.2.2.2.1 h)
    · exact .inr (.inl h)
    · exact .inr (.inr h)
  have f78 : ∀ {P6 F6 A6 J6} {x6 : Int32}, QRc P1 P6 F1 F6 A1 A6 → -2 ≤ x6.toInt ∧ x6.toInt ≤ 5 → ok (e_Reader_readStep_78 n P6 F6 A6 J6 v1 v6 v11 v16 v21 x6) (RXc P d F0 A0) := by
    intro P6 F6 A6 J6 x6 q6 h6
    unfold e_Reader_readStep_78
    refine ok_call (s_isNext q6.2.2.2.1) ?_
    intro v40 _
    refine ok_cond (fun _ => last q6 h6 (.inr (.inr (.inr (by rw [lm2]; decide))))) (fun _ => ?_)
    refine ok_call (s_take q6.2.2.2.1) ?_
    rintro ⟨v42, P7, F7, A7, J7⟩ ⟨q7, -⟩
    dsimp only at q7 ⊢
    refine ok_cond (fun _ => last (q6.tr q7) h6 (.inr (.inr (.inr (by rw [lm2]; decide))))) (fun _ => ?_)
    have q17 := q1.tr (q6.tr q7)
    have x5 : P7 37 5 = d := by rw [q17.1]; exact e5
    refine ok_call (s_takeStepNumber x5 hk q7.2.2.2.1 b1) ?_
    rintro ⟨v48, P8, F8, A8, J8⟩ ⟨q8, w8⟩
    dsimp only at q8 w8 ⊢
    refine last ((q6.tr q7).tr q8) h6 ?_
    rcases w8 with h | h | h | h
    · exact .inl h
    · exact .inr (.inl h)
    · exact .inr (.inr (.inl h))
    · by_cases z : v1.toInt < 0
      · exact .inr (.inr (.inl z))
      · have g6 : ci A7 d 5 v1.toInt ≤ 6 := by
          have := q7.2.2.2.1.2 d 5 v1.toInt (by omega)
          rw [hk] at this
          exact this.2
        exact .inr (.inr (.inr (by omega)))
  refine ok_call (s_isNext q5.2.2.2.1) ?_
  intro v26 _
  refine ok_cond (fun _ => f78 qb (by decide)) (fun _ => ?_)
  refine ok_call (s_take q5.2.2.2.1) ?_
  rintro ⟨v28, P6, F6, A6, J6⟩ ⟨q6, -⟩
  dsimp only at q6 ⊢
  refine ok_cond (fun _ => f78 (qb.tr q6) (by decide)) (fun _ => ?_)
  have x5 : P6 37 5 = d := by rw [(q1.tr (qb.tr q6)).1]; exact e5
  rw [x5]
  refine ok_chk hk ?_
  refine ok_call (s_known_v2 q6.2.2.2.1 (by omega)) ?_
  rintro ⟨v35, P7, F7, A7, J7⟩ ⟨q7, a7, b7, c7, d7⟩
  dsimp only at q7 a7 b7 c7 d7 ⊢
  exact f78 ((qb.tr q6).tr q7) ⟨by omega, by omega⟩
theorem s_readMan_92 {x1 x2 : Int32} (e5 : P 37 5 = d) (e6 : P 37 6 = 3) (hk : c_kind d = 6) (V : RVc d F0 F A0 A) (h1 : -1 ≤ x1.toInt ∧ x1.toInt ≤ 7) (hc : cf F 37 10 ≠ 0 ∨ cf F d 17 < 6) (hv : cf F 37 10 ≠ 0 ∨ cf F 37 12 ≠ 0 ∨ (0 ≤ x1.toInt ∧ LVx A d x2.toInt)) : ok (e_Reader_readMan_92 n P F A J x1 x2) (RXc P d F0 A0) := by
  have l0 : (0 : Int32).toInt = 0 := by decide
  have l1 : (1 : Int32).toInt = 1 := by decide
  have hd := kd37 hk
  have h3 := kd3 hk
  unfold e_Reader_readMan_92
  refine ok_call (s_take V.1) ?_
  rintro ⟨v, P5, F5, A5, J5⟩ ⟨q5, w5⟩
  dsimp only at q5 w5 ⊢
  have V5 := V.q hd q5
  have ea : A5 = A := q5.2.1
  subst ea
  refine ok_cond (fun _ => ok_some ⟨q5.1, V5⟩) (fun c => ?_)
  rw [i_neq, l0] at c
  have z5 : cf F5 37 10 = 0 := by omega
  have z0 : cf F 37 10 = 0 := by omega
  have k17 := q5.dd hd 17
  have rh := V5.1.h hk
  have lt : (F5 d 17).toInt < 6 := by
    rw [k17]
    rcases hc with h | h
    · exact absurd z0 h
    · exact h
  have hv5 : cf F5 37 12 ≠ 0 ∨ (0 ≤ x1.toInt ∧ LVx A5 d x2.toInt) := by
    rcases hv with h | h | h
    · exact absurd z0 h
    · exact .inl (q5.2.2.2.2.2.2 h)
    · exact .inr h
  have p5 : P5 37 5 = d := by rw [q5.1]; exact e5
  have p6 : P5 37 6 = 3 := by rw [q5.1]; exact e6
  rw [p5, p6]
  refine ok_chk hk ?_
  refine ok_chk hk ?_
  refine ok_cst (by omega) (by omega) ?_
  intro A6 U6
  refine ok_chk (by decide) ?_
  refine ok_chk hk ?_
  refine ok_cst (by omega) (by omega) ?_
  intro A7 U7
  refine ok_chk hk ?_
  refine ok_cpf ?_
  intro F8 U8
  have e := i_add (x := F5 d 17) (y := 1) (by omega) (by omega)
  have k8 : (F8 d 17).toInt = (F5 d 17).toInt + 1 := by rw [U8.1]; omega
  have fd : ∀ k, k ≠ 17 → F8 d k = F5 d k := fun k hkk => U8.2 d k (fun h => hkk h.2)
  have ad : ∀ o, o ≠ 12 → A7 d o = A5 d o := fun o a => (U7.2.2 d o (fun h => h3 h.1)).trans (U6.2.2 d o (fun h => a h.2))
  have a3 : A6 3 3 = A5 3 3 := U6.2.2 3 3 (fun h => h3 h.1.symm)
  have R8 : Rc F8 A7 := ((V5.1.st U6 (hrow hk 12 _ h1)).st U7 trivial).pf U8 (by rw [hk]; exact (show 0 ≤ (F5 d 17 + 1).toInt ∧ (F5 d 17 + 1).toInt ≤ 6 by omega))
  suffices V6 : RVc d F0 F8 A0 A7 from ok_some ⟨q5.1, V6⟩
  refine V5.up hd R8 (fun r k a _ => U8.2 r k (fun h => a h.1)) (fun r o a b => (U7.2.2 r o (fun h => b h.1)).trans (U6.2.2 r o (fun h => a h.1))) (by unfold cf; rw [fd 16 (by decide), ci_fr (ad 5 (by decide))]; exact V5.2.2.1) (fd 1304 (by decide)) (.inr (hv5.imp id (fun hh D => ?_)))
  obtain ⟨d1, d2, d3, d4, d5, d6, d7⟩ := D
  refine ⟨?_, fun m p r => ?_, ?_, ?_, ?_, ?_, fun m m0 m1 => ?_⟩
  · unfold cf
    rw [fd 14 (by decide), ci_fr (ad 1 (by decide)), ci_fr (ad 2 (by decide))]
    exact d1
  · have r' : m < (F8 d 17).toInt := r
    rw [ci_fr (U7.2.2 d 12 (fun h => h3 h.1))]
    by_cases z : m = (F5 d 17).toInt
    · rw [z, U6.1]; exact hh.1
    · rw [U6.2.1 m p z]
      exact d2 m p (by unfold cf; omega)
  · unfold cf
    rw [fd 16 (by decide), ci_fr (ad 4 (by decide))]
    exact d3
  · rw [ci_fr (ad 5 (by decide)), ci_fr (ad 11 (by decide))]
    exact d4
  · unfold CVc cf
    rw [fd 1304 (by decide), ci_fr (ad 15 (by decide)), ci_fr (ad 16 (by decide))]
    exact d5
  · unfold cf
    rw [fd 18 (by decide)]
    exact d6
  · by_cases z : m = (F5 d 17).toInt
    · rw [z, U7.1]
      exact hh.2.cg (ad 5 (by decide))
    · rw [U7.2.1 m m0 z, ci_fr a3]
      exact (d7 m m0 m1).cg (ad 5 (by decide))
theorem s_readMan (e5 : P 37 5 = d) (e6 : P 37 6 = 3) (hk : c_kind d = 6) (V : RVc d F0 F A0 A) (hn : 20 ≤ n) : ok (e_Reader_readMan n P F A J) (RXc P d F0 A0) := by
  have l0 : (0 : Int32).toInt = 0 := by decide
  have l6 : (6 : Int32).toInt = 6 := by decide
  have lm : (-1 : Int32).toInt = -1 := by decide
  have hd := kd37 hk
  have rh := V.1.h hk
  unfold e_Reader_readMan
  rw [e5]
  refine ok_chk hk ?_
  refine ok_call (s_takeFirst V.1) ?_
  rintro ⟨u2, P2, F2, A2, J2⟩ ⟨q2, w2⟩
  dsimp only at q2 w2 ⊢
  have e5' : P2 37 5 = d := by rw [q2.1]; exact e5
  rw [e5']
  refine ok_chk hk ?_
  have k2 := q2.dd hd 17
  refine ok_call (s_newName_v3 e5' hk q2.2.2.2.1 (by rw [k2]; omega) (by omega)) ?_
  rintro ⟨u3, P3, F3, A3, J3⟩ q3
  dsimp only at q3 ⊢
  have e5'' : P3 37 5 = d := by rw [(q2.tr q3).1]; exact e5
  rw [e5'']
  refine ok_chk hk ?_
  refine ok_call (s_known q3.2.2.2.1 (by omega)) ?_
  rintro ⟨v14, P4, F4, A4, J4⟩ ⟨q4, a4, b4, c4, d4⟩
  dsimp only at q4 a4 b4 c4 d4 ⊢
  have qa := (q2.tr q3).tr q4
  have last : ∀ {P7 F7 A7 J7} {x2 : Int32}, QRc P4 P7 F4 F7 A4 A7 → (cf F7 37 10 ≠ 0 ∨ cf F7 37 12 ≠ 0 ∨ LVx A7 d x2.toInt) → ok (e_Reader_readMan_92 n P7 F7 A7 J7 v14 x2) (RXc P d F0 A0) := by
    intro P7 F7 A7 J7 x2 q7 hx
    have qz := qa.tr q7
    have ep : P7 = P := qz.1
    subst ep
    refine s_readMan_92 e5 e6 hk (V.q hd qz) ⟨a4, by omega⟩ ?_ ?_
    · rcases w2 with h | h
      · exact .inl (q7.2.2.2.2.2.1 (q4.2.2.2.2.2.1 (q3.2.2.2.2.2.1 h)))
      · right
        unfold cf
        rw [qz.dd hd 17]
        omega
    · rcases d4 with h | h | h
      · rcases hx with g | g | g
        · exact .inl g
        · exact .inr (.inl g)
        · exact .inr (.inr ⟨h, g⟩)
      · exact .inl (q7.2.2.2.2.2.1 h)
      · exact .inr (.inl (q7.2.2.2.2.2.2 h))
  refine ok_call (s_isNext q4.2.2.2.1) ?_
  intro v19 _
  refine ok_cond (fun _ => last (QRc.rfl' q4.2.2.2.1) (.inr (.inr (.inl lm)))) (fun _ => ?_)
  refine ok_call (s_take q4.2.2.2.1) ?_
  rintro ⟨v21, P5, F5, A5, J5⟩ ⟨q5, -⟩
  dsimp only at q5 ⊢
  refine ok_cond (fun _ => last q5 (.inr (.inr (.inl lm)))) (fun _ => ?_)
  have x5 : P5 37 5 = d := by rw [(qa.tr q5).1]; exact e5
  rw [x5]
  refine ok_chk hk ?_
  refine ok_call (s_known_v1 q5.2.2.2.1 (by omega)) ?_
  rintro ⟨v28, P6, F6, A6, J6⟩ ⟨q6, a6, b6, c6, d6⟩
  dsimp only at q6 a6 b6 c6 d6 ⊢
  have x5' : P6 37 5 = d := by rw [((qa.tr q5).tr q6).1]; exact e5
  refine ok_call (s_takeStepNumber x5' hk q6.2.2.2.1 c6) ?_
  rintro ⟨v33, P7, F7, A7, J7⟩ ⟨q7, w7⟩
  dsimp only at q7 w7 ⊢
  refine last ((q5.tr q6).tr q7) ?_
  rcases w7 with h | h | h | h
  · exact .inl h
  · exact .inr (.inl h)
  · rcases d6 with g | g | g
    · omega
    · exact .inl (q7.2.2.2.2.2.1 g)
    · exact .inr (.inl (q7.2.2.2.2.2.2 g))
  · rcases d6 with g | g | g
    · have g6 : ci A6 d 5 v28.toInt ≤ 6 := by
        have := q6.2.2.2.1.2 d 5 v28.toInt g
        rw [hk] at this
        exact this.2
      have m := i_mulR (c := 6) (k := 6) (x := v28) (by decide) (by omega) (by omega)
      have a := i_add (x := v28 * 6) (y := v33) (by omega) (by omega)
      refine .inr (.inr (.inr ⟨by omega, by omega, ?_⟩))
      rw [show (v28 * 6 + v33).toInt % 6 = v33.toInt by omega, show (v28 * 6 + v33).toInt / 6 = v28.toInt by omega, q7.2.1]
      exact h.2
    · exact .inl (q7.2.2.2.2.2.1 g)
    · exact .inr (.inl (q7.2.2.2.2.2.2 g))
theorem s_readNight (e5 : P 37 5 = d) (hk : c_kind d = 6) (V : RVc d F0 F A0 A) : ok (e_Reader_readNight P F A J) (RXc P d F0 A0) := by
  have l1 : (1 : Int32).toInt = 1 := by decide
  have l600 : (600 : Int32).toInt = 600 := by decide
  have hd := kd37 hk
  unfold e_Reader_readNight
  refine ok_call (s_take V.1) ?_
  rintro ⟨v1, P2, F2, A2, J2⟩ ⟨q2, -⟩
  dsimp only at q2 ⊢
  have x5 : P2 37 5 = d := by rw [q2.1]; exact e5
  rw [x5]
  refine ok_chk hk ?_
  refine ok_call (s_takeNumber q2.2.2.2.1) ?_
  rintro ⟨v7, P3, F3, A3, J3⟩ ⟨q3, w3⟩
  dsimp only at q3 w3 ⊢
  have qa := q2.tr q3
  have V3 := V.q hd qa
  refine ok_cpf ?_
  intro F4 U4
  have fd : ∀ k, k ≠ 18 → F4 d k = F3 d k := fun k hkk => U4.2 d k (fun h => hkk h.2)
  have V4 : RVc d F0 F4 A0 A3 := by
    refine V3.up hd (V3.1.pf U4 (by rw [hk]; exact trivial)) (fun r k a _ => U4.2 r k (fun h => a h.1)) (fun _ _ _ _ => rfl) (by unfold cf; rw [fd 16 (by decide)]; exact V3.2.2.1) (fd 1304 (by decide)) ?_
    rcases w3 with h | h | h
    · exact .inl h
    · exact .inr (.inl h)
    · refine .inr (.inr (fun D => ?_))
      obtain ⟨d1, d2, d3, d4, d5, d6, d7⟩ := D
      refine ⟨?_, ?_, ?_, d4, ?_, ?_, d7⟩
      · unfold cf
        rw [fd 14 (by decide)]; exact d1
      · unfold cf
        rw [fd 17 (by decide)]; exact d2
      · unfold cf
        rw [fd 16 (by decide)]; exact d3
      · unfold CVc cf
        rw [fd 1304 (by decide)]; exact d5
      · unfold cf
        rw [U4.1]; omega
  refine ok_call (s_take V4.1) ?_
  rintro ⟨v13, P5, F5, A5, J5⟩ ⟨q5, -⟩
  dsimp only at q5 ⊢
  exact ok_some ⟨q5.1.trans qa.1, V4.q hd q5⟩
end R9c
end Qz91
section Qz92
section R9d
variable {P P' : Nat → Nat → Nat} {F F' F0 : Nat → Nat → Int32} {A A' A0 : Nat → Nat → Nat → Int32} {J : Nat → Nat → Nat → Int64} {n d : Nat}
theorem s_aimHere {x1 : Int32} (hk : c_kind d = 6) (R : Rc F A) (h : cf F 37 10 ≠ 0 ∨ ci A d 15 x1.toInt ≠ 2) : ok (e_Laws_aimHere P F A J d x1) (fun r => QLc d P r.2.1 F r.2.2.1 A r.2.2.2.1 ∧ r.2.2.1 = F) := by
  have l0 : (0 : Int32).toInt = 0 := by decide
  have a : 0 ≤ (F d 1304).toInt ∧ (F d 1304).toInt ≤ 400 := by have := R.1 d 1304; rw [hk] at this; exact this
  unfold e_Laws_aimHere
  refine ok_cond (fun _ => ok_some ⟨QLc.rfl' R, rfl⟩) (fun c => ?_)
  rw [i_nlt] at c
  refine ok_cond (fun _ => ok_some ⟨QLc.rfl' R, rfl⟩) (fun c2 => ?_)
  rw [i_nge] at c2
  refine ok_cst (by omega) (by omega) ?_
  intro A2 U2
  have b15 : ci A2 d 15 = ci A d 15 := ci_fr (U2.2.2 d 15 (by simp))
  suffices V : QLc d P P F F A A2 from ok_some ⟨V, rfl⟩
  refine ⟨rfl, fun _ _ _ _ => rfl, fun r o x => U2.2.2 r o (by omega), R.st U2 (hrow hk 16 _ trivial), Int.le_refl _, id, id, Int.le_refl _, fun i _ _ => by rw [b15], h.imp id (fun hh z i i0 i1 => ?_)⟩
  rw [b15]
  intro e
  by_cases w : i = x1.toInt
  · rw [w] at e; exact absurd e hh
  · rw [U2.2.1 i i0 w]
    exact z i i0 i1 e
theorem s_readIf (e5 : P 37 5 = d) (hk : c_kind d = 6) (R : Rc F A) (hb : cf F 37 10 ≠ 0 ∨ cf F d 1304 + 1 ≤ cf F 37 7) (hn : 500 ≤ n) : ok (e_Reader_readIf n P F A J) (LNc d P F A) := by
  have l0 : (0 : Int32).toInt = 0 := by decide
  have hd := kd37 hk
  have z02 : (0 : Int32).toInt ≠ 2 := by decide
  unfold e_Reader_readIf
  refine ok_call (s_take R) ?_
  rintro ⟨v1, P2, F2, A2, J2⟩ ⟨q2, w2⟩
  dsimp only at q2 w2 ⊢
  have ep := q2.1
  subst ep
  refine ok_call (s_readSum e5 hk hn q2.2.2.2.1 (by decide) (by omega)) ?_
  rintro ⟨u3, P3, F3, A3, J3⟩ ⟨q3, w3⟩
  dsimp only at q3 w3 ⊢
  have ep := q3.1
  subst ep
  refine ok_call (s_take q3.2.2.2.1) ?_
  rintro ⟨v4, P4, F4, A4, J4⟩ ⟨q4, w4⟩
  dsimp only at q4 w4 ⊢
  have ep := q4.1
  subst ep
  refine ok_call (s_readSum e5 hk hn q4.2.2.2.1 (by decide) (by omega)) ?_
  rintro ⟨u5, P5, F5, A5, J5⟩ ⟨q5, w5⟩
  dsimp only at q5 w5 ⊢
  have ep := q5.1
  subst ep
  rw [e5]
  refine ok_chk hk ?_
  refine ok_call (s_add hk q5.2.2.2.1 (fun h => absurd h (by decide))) ?_
  rintro ⟨v22, P6, F6, A6, J6⟩ ⟨q6, a6, b6, c6, d6⟩
  dsimp only at q6 a6 b6 c6 d6 ⊢
  have ep := q6.1
  subst ep
  refine ok_call (s_take q6.2.2.2.1) ?_
  rintro ⟨v7, P7, F7, A7, J7⟩ ⟨q7, w7⟩
  dsimp only at q7 w7 ⊢
  have ep := q7.1
  subst ep
  refine ok_call (s_readSum e5 hk hn q7.2.2.2.1 (by decide) (by omega)) ?_
  rintro ⟨u8, P8, F8, A8, J8⟩ ⟨q8, w8⟩
  dsimp only at q8 w8 ⊢
  have ep := q8.1
  subst ep
  rw [e5]
  refine ok_chk hk ?_
  refine ok_call (s_add hk q8.2.2.2.1 (fun h => absurd h z02)) ?_
  rintro ⟨v9, P9, F9, A9, J9⟩ ⟨q9, a9, b9, c9, -⟩
  dsimp only at q9 a9 b9 c9 ⊢
  have ep := q9.1
  subst ep
  refine ok_call (s_take q9.2.2.2.1) ?_
  rintro ⟨v10, P10, F10, A10, J10⟩ ⟨q10, w10⟩
  dsimp only at q10 w10 ⊢
  have ep := q10.1
  subst ep
  rw [e5]
  refine ok_chk hk ?_
  -- counts
  have k2 : cf F2 d 1304 = cf F d 1304 := by unfold cf; rw [q2.dd hd 1304]
  have k4 : cf F4 d 1304 = cf F3 d 1304 := by unfold cf; rw [q4.dd hd 1304]
  have k7 : cf F7 d 1304 = cf F6 d 1304 := by unfold cf; rw [q7.dd hd 1304]
  have k10 : cf F10 d 1304 = cf F9 d 1304 := by unfold cf; rw [q10.dd hd 1304]
  have t6 : cf F6 37 7 = cf F5 37 7 := by unfold cf; rw [a6]
  have t9 : cf F9 37 7 = cf F8 37 7 := by unfold cf; rw [a9]
  have f6 : cf F6 37 10 = cf F5 37 10 := by unfold cf; rw [b6]
  have f9 : cf F9 37 10 = cf F8 37 10 := by unfold cf; rw [b9]
  have m2 := q2.2.2.2.2.2.1
  have m3 := q3.2.2.2.2.2.1
  have m4 := q4.2.2.2.2.2.1
  have m5 := q5.2.2.2.2.2.1
  have m7 := q7.2.2.2.2.2.1
  have m8 := q8.2.2.2.2.2.1
  have m10 := q10.2.2.2.2.2.1
  have tk5 := q5.2.2.2.1.tok
  have tk5' : cf F5 37 7 ≤ 400 := tk5.2
  have qa := ((((((((q2.ql hd).tr q3).tr (q4.ql hd)).tr q5).tr q6).tr (q7.ql hd)).tr q8).tr q9).tr (q10.ql hd)
  -- where there is no fault at the end there was none
  have nf : cf F10 37 10 = 0 → (cf F 37 10 = 0 ∧ cf F2 37 10 = 0 ∧ cf F3 37 10 = 0 ∧ cf F4 37 10 = 0 ∧ cf F5 37 10 = 0 ∧ cf F7 37 10 = 0 ∧ cf F8 37 10 = 0) := fun z => by
    have y8 : cf F8 37 10 = 0 := by
      by_cases w : cf F8 37 10 = 0
      · exact w
      · exact absurd z (m10 (by rw [f9]; exact w))
    have y7 : cf F7 37 10 = 0 := by
      by_cases w : cf F7 37 10 = 0
      · exact w
      · exact absurd y8 (m8 w)
    have y5 : cf F5 37 10 = 0 := by
      by_cases w : cf F5 37 10 = 0
      · exact w
      · exact absurd y7 (m7 (by rw [f6]; exact w))
    have y4 : cf F4 37 10 = 0 := by
      by_cases w : cf F4 37 10 = 0
      · exact w
      · exact absurd y5 (m5 w)
    have y3 : cf F3 37 10 = 0 := by
      by_cases w : cf F3 37 10 = 0
      · exact w
      · exact absurd y4 (m4 w)
    have y2 : cf F2 37 10 = 0 := by
      by_cases w : cf F2 37 10 = 0
      · exact w
      · exact absurd y3 (m3 w)
    have y0 : cf F 37 10 = 0 := by
      by_cases w : cf F 37 10 = 0
      · exact w
      · exact absurd y2 (m2 w)
    exact ⟨y0, y2, y3, y4, y5, y7, y8⟩
  have key : cf F10 37 10 ≠ 0 ∨ (cf F10 d 1304 + cf F 37 7 ≤ cf F d 1304 + cf F10 37 7 ∧ ci A10 d 15 v22.toInt ≠ 2) := by
    by_cases z : cf F10 37 10 = 0
    · right
      obtain ⟨y0, y2, y3, y4, y5, y7, y8⟩ := nf z
      have g2 : cf F2 37 7 = cf F 37 7 + 1 := by omega
      have g3 : cf F3 d 1304 + cf F2 37 7 ≤ cf F2 d 1304 + cf F3 37 7 := w3.resolve_left (by omega)
      have g4 : cf F4 37 7 = cf F3 37 7 + 1 := by omega
      have g5 : cf F5 d 1304 + cf F4 37 7 ≤ cf F4 d 1304 + cf F5 37 7 := w5.resolve_left (by omega)
      have g7 : cf F7 37 7 = cf F6 37 7 + 1 := by omega
      have g8 : cf F8 d 1304 + cf F7 37 7 ≤ cf F7 d 1304 + cf F8 37 7 := w8.resolve_left (by omega)
      have g10 : cf F10 37 7 = cf F9 37 7 + 1 := by omega
      have lt : cf F5 d 1304 < 400 := by omega
      obtain ⟨e1, e2, e3⟩ := d6 lt
      refine ⟨by omega, ?_⟩
      have n5 : 0 ≤ cf F5 d 1304 := by
        have := q5.2.2.2.1.1 d 1304
        rw [hk] at this
        exact this.1
      have r1 : ci A10 d 15 v22.toInt = ci A6 d 15 v22.toInt := by
        have x8 := q8.2.2.2.2.2.2.2.2.1 v22.toInt (by omega) (by omega)
        have x9 := q9.2.2.2.2.2.2.2.2.1 v22.toInt (by omega) (by have := q8.2.2.2.2.2.2.2.1; omega)
        rw [q10.2.1, x9, x8, q7.2.1]
      rw [r1, e1, e3]
      decide
    · exact .inl z
  refine ok_call (s_aimHere hk q10.2.2.2.1 (key.imp id (fun h => h.2))) ?_
  rintro ⟨u11, P11, F11, A11, J11⟩ ⟨q11, e11⟩
  dsimp only at q11 e11 ⊢
  refine ok_some ⟨qa.tr q11, ?_⟩
  show cf F11 37 10 ≠ 0 ∨ cf F11 d 1304 + cf F 37 7 ≤ cf F d 1304 + cf F11 37 7
  rw [e11]
  exact key.imp id (fun h => h.1)
theorem RVc.l (V : RVc d F0 F A0 A) (hk : c_kind d = 6) (q : QLc d P P' F F' A A') (hb : cf F' 37 10 ≠ 0 ∨ cf F' d 1304 ≤ cf F' 37 7) : RVc d F0 F' A0 A' := by
  have hd := kd37 hk
  have h3 := kd3 hk
  obtain ⟨v1, ⟨v2, v3⟩, v4, v5, v6⟩ := V
  obtain ⟨q1, q2, q3, q4, q5, q6, q7, q8, q9, q10⟩ := q
  have fd : ∀ k, k ≠ 1304 → F' d k = F d k := fun k hkk => q2 d k (fun h => hd h.1) (fun h => hkk h.2)
  have ad : ∀ o, o ≠ 15 → o ≠ 16 → A' d o = A d o := fun o a b => q3 d o (by omega)
  refine ⟨q4, ⟨fun r k a b c => (q2 r k (fun h => a h.1) (fun h => b h.1)).trans (v2 r k a b c), fun r o a b c => (q3 r o (fun h => b h.1)).trans (v3 r o a b c)⟩, by unfold cf; rw [fd 16 (by decide), ci_fr (ad 5 (by decide) (by decide))]; exact v4, hb, ?_⟩
  rcases v6 with h | h | h
  · exact .inl (q6 h)
  · exact .inr (.inl (q7 h))
  · rcases q10 with g | g
    · exact .inl g
    · refine .inr (.inr ?_)
      obtain ⟨d1, d2, d3, d4, d5, d6, d7⟩ := h
      refine ⟨?_, ?_, ?_, ?_, g d5, ?_, d7.cg (ad 5 (by decide) (by decide)) (q3 3 3 (fun h => h3 h.1.symm))⟩
      · unfold cf
        rw [fd 14 (by decide), ci_fr (ad 1 (by decide) (by decide)), ci_fr (ad 2 (by decide) (by decide))]
        exact d1
      · unfold cf
        rw [fd 17 (by decide), ci_fr (ad 12 (by decide) (by decide))]
        exact d2
      · unfold cf
        rw [fd 16 (by decide), ci_fr (ad 4 (by decide) (by decide))]
        exact d3
      · rw [ci_fr (ad 5 (by decide) (by decide)), ci_fr (ad 11 (by decide) (by decide))]
        exact d4
      · unfold cf
        rw [fd 18 (by decide)]
        exact d6
theorem s_readLaw_94 {x1 x2 : Int32} (e5 : P 37 5 = d) (hk : c_kind d = 6) (V : RVc d F0 F A0 A) (hb : cf F 37 10 ≠ 0 ∨ cf F d 1304 + 1 ≤ cf F 37 7) (h1 : -1 ≤ x1.toInt ∧ x1.toInt ≤ 5) (h9 : cf F 37 10 ≠ 0 ∨ cf F 37 9 < 8) (hn : 500 ≤ n) : ok (e_Reader_readLaw_94 n P F A J x1 x2) (RXc P d F0 A0) := by
  have l0 : (0 : Int32).toInt = 0 := by decide
  have l1 : (1 : Int32).toInt = 1 := by decide
  have hd := kd37 hk
  have z02 : (0 : Int32).toInt ≠ 2 := by decide
  unfold e_Reader_readLaw_94
  refine ok_call (s_readSum e5 hk hn V.1 (by decide) (by omega)) ?_
  rintro ⟨u2, P2, F2, A2, J2⟩ ⟨q2, w2⟩
  dsimp only at q2 w2 ⊢
  have ep := q2.1
  subst ep
  rw [e5]
  refine ok_chk hk ?_
  refine ok_call (s_add hk q2.2.2.2.1 (fun h => absurd h z02)) ?_
  rintro ⟨v3, P3, F3, A3, J3⟩ ⟨q3, a3, b3, c3, -⟩
  dsimp only at q3 a3 b3 c3 ⊢
  have ep := q3.1
  subst ep
  have qa := q2.tr q3
  have t3 : cf F3 37 7 = cf F2 37 7 := by unfold cf; rw [a3]
  have f3 : cf F3 37 10 = cf F2 37 10 := by unfold cf; rw [b3]
  have V3 := V.l hk qa (by
    rcases w2 with h | h
    · left; omega
    · rcases hb with g | g
      · exact .inl (qa.2.2.2.2.2.1 g)
      · right; omega)
  refine ok_call (s_take V3.1) ?_
  rintro ⟨v, P4, F4, A4, J4⟩ ⟨q4, w4⟩
  dsimp only at q4 w4 ⊢
  have V4 := V3.q hd q4
  refine ok_cond (fun _ => ok_some ⟨q4.1, V4⟩) (fun c => ?_)
  rw [i_neq, l0] at c
  have z4 : cf F4 37 10 = 0 := by omega
  have k9 : F4 37 9 = F 37 9 := (q4.2.2.1 37 9 (by simp)).trans (qa.2.1 37 9 (by simp) (fun h => hd h.1.symm))
  have r9 : 0 ≤ (F4 37 9).toInt ∧ (F4 37 9).toInt ≤ 8 := V4.1.1 37 9
  have lt : (F4 37 9).toInt < 8 := by
    rw [k9]
    rcases h9 with h | h
    · exact absurd (q4.2.2.2.2.2.1 (qa.2.2.2.2.2.1 h)) (by omega)
    · exact h
  refine ok_cpf ?_
  intro F5 U5
  have e := i_add (x := F4 37 9) (y := 1) (by omega) (by omega)
  have R5 : Rc F5 A4 := V4.1.pf U5 (show 0 ≤ (F4 37 9 + 1).toInt ∧ (F4 37 9 + 1).toInt ≤ 8 by omega)
  have V5 : RVc d F0 F5 A0 A4 := by
    obtain ⟨v1, ⟨v2, v3⟩, v4, v5, v6⟩ := V4
    have fd : ∀ k, F5 d k = F4 d k := fun k => U5.2 d k (fun h => hd h.1)
    refine ⟨R5, ⟨fun r k a b c => (U5.2 r k (fun h => a h.1)).trans (v2 r k a b c), v3⟩, by unfold cf; rw [fd]; exact v4, ?_, ?_⟩
    · unfold cf at v5 ⊢
      rw [fd, U5.2 37 7 (by simp), U5.2 37 10 (by simp)]
      exact v5
    · unfold cf at v6 ⊢
      rw [U5.2 37 12 (by simp), U5.2 37 10 (by simp)]
      exact v6.imp id (fun z => z.imp id (fun D => D.cgF fd))
  refine ok_cond (fun _ => ok_some ⟨q4.1, V5⟩) (fun c5 => ?_)
  rw [i_nlt] at c5
  have x5 : P4 37 5 = d := by rw [q4.1]; exact e5
  rw [x5]
  refine ok_chk hk ?_
  refine ok_cst (by omega) (by omega) ?_
  intro A6 U6
  have ad : ∀ o, o ≠ 14 → A6 d o = A4 d o := fun o a => U6.2.2 d o (fun h => a h.2)
  suffices V6 : RVc d F0 F5 A0 A6 from ok_some ⟨q4.1, V6⟩
  refine V5.up hd (R5.st U6 (hrow hk 14 _ trivial)) (fun _ _ _ _ => rfl) (fun r o a _ => U6.2.2 r o (fun h => a h.1)) (by rw [ci_fr (ad 5 (by decide))]; exact V5.2.2.1) rfl (.inr (.inr (fun D => ?_)))
  obtain ⟨d1, d2, d3, d4, d5, d6, d7⟩ := D
  refine ⟨?_, ?_, ?_, ?_, ?_, d6, d7.cg (ad 5 (by decide)) (U6.2.2 3 3 (by simp))⟩
  · rw [ci_fr (ad 1 (by decide)), ci_fr (ad 2 (by decide))]; exact d1
  · rw [ci_fr (ad 12 (by decide))]; exact d2
  · rw [ci_fr (ad 4 (by decide))]; exact d3
  · rw [ci_fr (ad 5 (by decide)), ci_fr (ad 11 (by decide))]; exact d4
  · unfold CVc
    rw [ci_fr (ad 15 (by decide)), ci_fr (ad 16 (by decide))]; exact d5
theorem s_readLaw_48 {x1 x2 : Int32} (e5 : P 37 5 = d) (hk : c_kind d = 6) (h1 : -1 ≤ x1.toInt ∧ x1.toInt ≤ 5) : ∀ {n : Nat} {F : Nat → Nat → Int32} {A : Nat → Nat → Nat → Int32} {J : Nat → Nat → Nat → Int64} {x3 : Int32}, RVc d F0 F A0 A → (cf F 37 10 ≠ 0 ∨ cf F d 1304 + 1 ≤ cf F 37 7) → (cf F 37 10 ≠ 0 ∨ cf F 37 9 < 8) → 0 ≤ x3.toInt ∧ x3.toInt ≤ 5 → 510 - x3.toInt < (n : Int) → ok (e_Reader_readLaw_48 n P F A J x1 x2 x3) (RXc P d F0 A0) := by
  have hd := kd37 hk
  intro n
  induction n with
  | zero => intro F A J x3 V hb h9 hx hn; exact absurd hn (by omega)
  | succ n ih =>
    intro F A J x3 V hb h9 hx hn
    have l0 : (0 : Int32).toInt = 0 := by decide
    have l1 : (1 : Int32).toInt = 1 := by decide
    have l4 : (4 : Int32).toInt = 4 := by decide
    have a := V.1.tok
    have e3 := i_add (x := x3) (y := 1) (by omega) (by omega)
    have f94 : ok (e_Reader_readLaw_94 n P F A J x1 x2) (RXc P d F0 A0) := s_readLaw_94 e5 hk V hb h1 h9 (by omega)
    -- a test, then on
    have on : x3.toInt ≤ 4 → ∀ {P2 F2 A2 J2}, QRc P P2 F F2 A A2 → ok ((e_Reader_readIf n P2 F2 A2 J2).bind fun (_, P55, F56, A57, J58) => e_Reader_readLaw_48 n P55 F56 A57 J58 x1 x2 (x3 + 1)) (RXc P d F0 A0) := by
      intro hle P2 F2 A2 J2 q2
      have ep := q2.1
      subst ep
      have V2 := V.q hd q2
      have k2 : cf F2 d 1304 = cf F d 1304 := by unfold cf; rw [q2.dd hd 1304]
      have t2 := q2.2.2.2.2.1
      have hb2 : cf F2 37 10 ≠ 0 ∨ cf F2 d 1304 + 1 ≤ cf F2 37 7 := by
        rcases hb with h | h
        · exact .inl (q2.2.2.2.2.2.1 h)
        · right; omega
      refine ok_call (s_readIf e5 hk V2.1 hb2 (by omega)) ?_
      rintro ⟨u, P3, F3, A3, J3⟩ ⟨q3, w3⟩
      dsimp only at q3 w3 ⊢
      have ep := q3.1
      subst ep
      have hb3 : cf F3 37 10 ≠ 0 ∨ cf F3 d 1304 + 1 ≤ cf F3 37 7 := by
        rcases w3 with h | h
        · exact .inl h
        · rcases hb2 with g | g
          · exact .inl (q3.2.2.2.2.2.1 g)
          · right; omega
      have k9 : F3 37 9 = F 37 9 := (q3.2.1 37 9 (by simp) (fun h => hd h.1.symm)).trans (q2.2.2.1 37 9 (by simp))
      refine ih (V2.l hk q3 (hb3.imp id (fun z => by omega))) hb3 ?_ (by omega) (by omega)
      rcases h9 with h | h
      · exact .inl (q3.2.2.2.2.2.1 (q2.2.2.2.2.2.1 h))
      · right
        unfold cf
        rw [k9]
        exact h
    unfold e_Reader_readLaw_48
    refine ok_cond (fun _ => f94) (fun c => ?_)
    rw [i_ngt] at c
    refine ok_call (s_isNext V.1) ?_
    intro v19 _
    refine ok_cond (fun _ => f94) (fun _ => ?_)
    refine ok_cond (fun _ => ?_) (fun _ => ?_)
    · unfold e_Reader_readLaw_84
      exact on (by omega) (QRc.rfl' V.1)
    · refine ok_ldn (by omega) (by omega) (fun v22 => ?_)
      refine ok_call (s_fail V.1 (by decide)) ?_
      rintro ⟨u, P2, F2, A2, J2⟩ ⟨q2, -⟩
      dsimp only at q2 ⊢
      exact on (by omega) q2
theorem s_readLaw (e5 : P 37 5 = d) (hk : c_kind d = 6) (V : RVc d F0 F A0 A) (hn : 520 ≤ n) : ok (e_Reader_readLaw n P F A J) (RXc P d F0 A0) := by
  have l0 : (0 : Int32).toInt = 0 := by decide
  have l8 : (8 : Int32).toInt = 8 := by decide
  have hd := kd37 hk
  unfold e_Reader_readLaw
  refine ok_call (s_takeFirst V.1) ?_
  rintro ⟨u2, P2, F2, A2, J2⟩ ⟨q2, w2⟩
  dsimp only at q2 w2 ⊢
  have e5' : P2 37 5 = d := by rw [q2.1]; exact e5
  rw [e5']
  refine ok_chk hk ?_
  refine ok_call (s_known_v3 q2.2.2.2.1 (by omega)) ?_
  rintro ⟨v7, P3, F3, A3, J3⟩ ⟨q3, a3, b3, c3, d3⟩
  dsimp only at q3 a3 b3 c3 d3 ⊢
  have e5'' : P3 37 5 = d := by rw [(q2.tr q3).1]; exact e5
  rw [e5'']
  refine ok_chk hk ?_
  refine ok_call (s_take q3.2.2.2.1) ?_
  rintro ⟨v13, P4, F4, A4, J4⟩ ⟨q4, -⟩
  dsimp only at q4 ⊢
  have qa := (q2.tr q3).tr q4
  have ep := qa.1
  subst ep
  have k4 : cf F4 d 1304 = cf F d 1304 := by unfold cf; rw [qa.dd hd 1304]
  have t3 := q3.2.2.2.2.1
  have t4 := q4.2.2.2.2.1
  refine s_readLaw_48 e5 hk ⟨a3, c3⟩ (V.q hd qa) ?_ ?_ (by decide) (by omega)
  · rcases w2 with h | h
    · exact .inl (q4.2.2.2.2.2.1 (q3.2.2.2.2.2.1 h))
    · rcases V.2.2.2.1 with g | g
      · exact .inl (qa.2.2.2.2.2.1 g)
      · right; omega
  · rcases w2 with h | h
    · exact .inl (q4.2.2.2.2.2.1 (q3.2.2.2.2.2.1 h))
    · right
      unfold cf
      rw [qa.2.2.1 37 9 (by simp)]
      omega
end R9d
end Qz92
