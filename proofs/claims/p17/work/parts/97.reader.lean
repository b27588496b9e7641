/-! the class's reader: its small parts -/
/-- nothing but the reader's place in the text and its faults have changed -/
def QRc (P P' : Nat → Nat → Nat) (F F' : Nat → Nat → Int32) (A A' : Nat → Nat → Nat → Int32) : Prop := P' = P ∧ A' = A ∧ (∀ r k, ¬ (r = 37 ∧ 7 ≤ k ∧ k ≤ 13 ∧ k ≠ 9) → F' r k = F r k) ∧ Rc F' A' ∧ cf F 37 7 ≤ cf F' 37 7 ∧ (cf F 37 10 ≠ 0 → cf F' 37 10 ≠ 0) ∧ (cf F 37 12 ≠ 0 → cf F' 37 12 ≠ 0)
section R97
variable {P P' P1 : Nat → Nat → Nat} {F F' F1 : Nat → Nat → Int32} {A A' A1 : Nat → Nat → Nat → Int32} {J : Nat → Nat → Nat → Int64} {n : Nat}
theorem QRc.rfl' (R : Rc F A) : QRc P P F F A A := ⟨rfl, rfl, fun _ _ _ => rfl, R, Int.le_refl _, id, id⟩
theorem QRc.tr (a : QRc P P1 F F1 A A1) (b : QRc P1 P' F1 F' A1 A') : QRc P P' F F' A A' := ⟨b.1.trans a.1, b.2.1.trans a.2.1, fun r k h => (b.2.2.1 r k h).trans (a.2.2.1 r k h), b.2.2.2.1, by have x := a.2.2.2.2.1; have y := b.2.2.2.2.1; omega, fun h => b.2.2.2.2.2.1 (a.2.2.2.2.2.1 h), fun h => b.2.2.2.2.2.2 (a.2.2.2.2.2.2 h)⟩
theorem ok_ldJc {β : Type} {Q : β → Prop} {f : Nat → Int64} {m : Nat} {i : Int32} {g : Int64 → Option β} (h0 : 0 ≤ i.toInt) (h1 : i.toInt < (m : Int)) (k : ∀ v, ok (g v) Q) : ok ((m_ldJ f m i).bind g) Q := ok_ldJ h0 h1 (k _)
theorem ok_cstJ {β : Type} {Q : β → Prop} {r o m : Nat} {i : Int32} {x : Int64} {g : (Nat → Nat → Nat → Int64) → Option β} (h0 : 0 ≤ i.toInt) (h1 : i.toInt < (m : Int)) (k : ∀ J', ok (g J') Q) : ok ((c_stJ J r o m i x).bind g) Q := by
  unfold c_stJ
  rw [if_neg (i_in h0 h1)]
  exact k _
theorem Rc.tok (R : Rc F A) : 0 ≤ (F 37 7).toInt ∧ (F 37 7).toInt ≤ 400 := R.1 37 7
theorem Rc.tkn (R : Rc F A) : 0 ≤ (F 37 8).toInt ∧ (F 37 8).toInt ≤ 400 := R.1 37 8
theorem s_isNext {x1 : Int32} (R : Rc F A) : ok (e_Reader_isNext P F A J x1) (fun v => v.toInt = 0 ∨ (v.toInt = 1 ∧ cf F 37 10 = 0)) := by
  have l0 : (0 : Int32).toInt = 0 := by decide
  have a := R.tok
  unfold e_Reader_isNext
  refine ok_cond (fun _ => ok_some (.inl l0)) (fun c => ?_)
  rw [i_nne, l0] at c
  refine ok_ldn (by omega) (by omega) (fun v => ?_)
  exact ok_cond (fun _ => ok_some (.inl l0)) (fun _ => ok_some (.inr ⟨by decide, c⟩))
theorem s_fail {x1 x2 : Int32} (R : Rc F A) (h1 : x1.toInt ≠ 0) : ok (e_Reader_fail P F A J x1 x2) (fun r => QRc P r.2.1 F r.2.2.1 A r.2.2.2.1 ∧ cf r.2.2.1 37 10 ≠ 0) := by
  have l0 : (0 : Int32).toInt = 0 := by decide
  have f15 : ok (e_Reader_fail_15 P F A J x1 x2) (fun r => QRc P r.2.1 F r.2.2.1 A r.2.2.2.1 ∧ cf r.2.2.1 37 10 ≠ 0) := by
    unfold e_Reader_fail_15
    refine ok_cpf ?_
    intro F2 U2
    refine ok_cpf ?_
    intro F3 U3
    have k10 : F3 37 10 = x1 := (U3.2 37 10 (by simp)).trans U2.1
    have k7 : F3 37 7 = F 37 7 := (U3.2 37 7 (by simp)).trans (U2.2 37 7 (by simp))
    have k12 : F3 37 12 = F 37 12 := (U3.2 37 12 (by simp)).trans (U2.2 37 12 (by simp))
    have hne : cf F3 37 10 ≠ 0 := by unfold cf; rw [k10]; exact h1
    refine ok_some ⟨⟨rfl, rfl, fun r k h => (U3.2 r k (by omega)).trans (U2.2 r k (by omega)), (R.pf U2 trivial).pf U3 trivial, ?_, fun _ => hne, ?_⟩, hne⟩
    · unfold cf
      rw [show ((), P, F3, A, J).2.2.1 = F3 from rfl, k7]; omega
    · unfold cf
      rw [show ((), P, F3, A, J).2.2.1 = F3 from rfl, k12]; exact id
  unfold e_Reader_fail
  refine ok_cond (fun _ => f15) (fun c => ?_)
  rw [i_neq, l0] at c
  exact ok_cond (fun _ => ok_some ⟨QRc.rfl' R, c⟩) (fun _ => f15)
theorem s_take {x1 : Int32} (R : Rc F A) : ok (e_Reader_take P F A J x1) (fun r => QRc P r.2.1 F r.2.2.1 A r.2.2.2.1 ∧ ((r.1.toInt = 0 ∧ cf r.2.2.1 37 10 ≠ 0) ∨ (r.1.toInt = 1 ∧ cf F 37 10 = 0 ∧ cf r.2.2.1 37 10 = 0 ∧ cf r.2.2.1 37 7 = cf F 37 7 + 1 ∧ cf r.2.2.1 37 12 = cf F 37 12))) := by
  have l0 : (0 : Int32).toInt = 0 := by decide
  have l1 : (1 : Int32).toInt = 1 := by decide
  have l400 : (400 : Int32).toInt = 400 := by decide
  have a := R.tok
  unfold e_Reader_take
  refine ok_cond (fun c => ?_) (fun c => ?_)
  · rw [i_eq, l0] at c
    refine ok_ldn (by omega) (by omega) (fun v2 => ?_)
    refine ok_cond (fun _ => ?_) (fun _ => ?_)
    · refine ok_cond (fun c3 => ?_) (fun _ => ?_)
      · rw [i_lt] at c3
        refine ok_cpf ?_
        intro F5 U5
        refine ok_cpf ?_
        intro F6 U6
        have k5 : F5 37 7 = F 37 7 := U5.2 37 7 (by simp)
        rw [k5] at U6
        have e6 := i_add (x := F 37 7) (y := 1) (by omega) (by omega)
        have k7 : (F6 37 7).toInt = (F 37 7).toInt + 1 := by rw [U6.1]; omega
        have k10 : F6 37 10 = F 37 10 := (U6.2 37 10 (by simp)).trans (U5.2 37 10 (by simp))
        have k12 : F6 37 12 = F 37 12 := (U6.2 37 12 (by simp)).trans (U5.2 37 12 (by simp))
        refine ok_some ⟨⟨rfl, rfl, fun r k h => (U6.2 r k (by omega)).trans (U5.2 r k (by omega)), (R.pf U5 (show 0 ≤ (F 37 7).toInt ∧ (F 37 7).toInt ≤ 400 from a)).pf U6 (show 0 ≤ (F 37 7 + 1).toInt ∧ (F 37 7 + 1).toInt ≤ 400 by omega), ?_, ?_, ?_⟩, .inr ⟨l1, c, ?_, k7, ?_⟩⟩
        · show (F 37 7).toInt ≤ (F6 37 7).toInt
          omega
        · unfold cf
          rw [show ((1 : Int32), P, F6, A, J).2.2.1 = F6 from rfl, k10]; exact id
        · unfold cf
          rw [show ((1 : Int32), P, F6, A, J).2.2.1 = F6 from rfl, k12]; exact id
        · unfold cf
          rw [show ((1 : Int32), P, F6, A, J).2.2.1 = F6 from rfl, k10]; exact c
        · unfold cf
          rw [show ((1 : Int32), P, F6, A, J).2.2.1 = F6 from rfl, k12]
      · refine ok_ldn (by omega) (by omega) (fun v7 => ?_)
        refine ok_call (s_fail R (by decide)) ?_
        rintro ⟨u, P2, F2, A2, J2⟩ ⟨q, h⟩
        exact ok_some ⟨q, .inl ⟨l0, h⟩⟩
    · refine ok_ldn (by omega) (by omega) (fun v7 => ?_)
      refine ok_call (s_fail R (by decide)) ?_
      rintro ⟨u, P2, F2, A2, J2⟩ ⟨q, h⟩
      exact ok_some ⟨q, .inl ⟨l0, h⟩⟩
  · rw [i_neq, l0] at c
    exact ok_some ⟨QRc.rfl' R, .inl ⟨l0, c⟩⟩
theorem s_failLate {x1 : Int32} (R : Rc F A) (h1 : x1.toInt ≠ 0) : ok (e_Reader_failLate P F A J x1) (fun r => QRc P r.2.1 F r.2.2.1 A r.2.2.2.1 ∧ cf r.2.2.1 37 12 ≠ 0) := by
  have l0 : (0 : Int32).toInt = 0 := by decide
  have a := R.tkn
  unfold e_Reader_failLate
  refine ok_cond (fun c => ?_) (fun c => ?_)
  · rw [i_ne, l0] at c
    exact ok_some ⟨QRc.rfl' R, c⟩
  · refine ok_cpf ?_
    intro F2 U2
    have k8 : F2 37 8 = F 37 8 := U2.2 37 8 (by simp)
    refine ok_ldn (by rw [k8]; omega) (by rw [k8]; omega) (fun v3 => ?_)
    refine ok_cpf ?_
    intro F4 U4
    have k12 : F4 37 12 = x1 := (U4.2 37 12 (by simp)).trans U2.1
    have k7 : F4 37 7 = F 37 7 := (U4.2 37 7 (by simp)).trans (U2.2 37 7 (by simp))
    have k10 : F4 37 10 = F 37 10 := (U4.2 37 10 (by simp)).trans (U2.2 37 10 (by simp))
    have hne : cf F4 37 12 ≠ 0 := by unfold cf; rw [k12]; exact h1
    refine ok_some ⟨⟨rfl, rfl, fun r k h => (U4.2 r k (by omega)).trans (U2.2 r k (by omega)), (R.pf U2 trivial).pf U4 trivial, ?_, ?_, fun _ => hne⟩, hne⟩
    · unfold cf
      rw [show ((), P, F4, A, J).2.2.1 = F4 from rfl, k7]; omega
    · unfold cf
      rw [show ((), P, F4, A, J).2.2.1 = F4 from rfl, k10]; exact id
theorem s_takeFirst {x1 x2 x3 : Int32} (R : Rc F A) : ok (e_Reader_takeFirst P F A J x1 x2 x3) (fun r => QRc P r.2.1 F r.2.2.1 A r.2.2.2.1 ∧ (cf r.2.2.1 37 10 ≠ 0 ∨ (x2.toInt < x3.toInt ∧ cf r.2.2.1 37 7 = cf F 37 7 + 1))) := by
  have a := R.tok
  unfold e_Reader_takeFirst
  refine ok_cond (fun c => ?_) (fun c => ?_)
  · rw [i_lt] at c
    unfold e_Reader_takeFirst_22
    refine ok_call (s_take R) ?_
    rintro ⟨v, P2, F2, A2, J2⟩ ⟨q, h⟩
    dsimp only at q h ⊢
    refine ok_some ⟨q, ?_⟩
    rcases h with h | h
    · exact .inl h.2
    · exact .inr ⟨c, h.2.2.2.1⟩
  · refine ok_ldn (by omega) (by omega) (fun v2 => ?_)
    refine ok_call (s_fail R (by decide)) ?_
    rintro ⟨u, P2, F2, A2, J2⟩ ⟨q, h⟩
    dsimp only at q h ⊢
    refine ok_call (s_take q.2.2.2.1) ?_
    rintro ⟨v, P3, F3, A3, J3⟩ ⟨q3, _⟩
    dsimp only at q3 ⊢
    exact ok_some ⟨q.tr q3, .inl (q3.2.2.2.2.2.1 h)⟩
theorem s_takeNumber {x1 x2 : Int32} (R : Rc F A) : ok (e_Reader_takeNumber P F A J x1 x2) (fun r => QRc P r.2.1 F r.2.2.1 A r.2.2.2.1 ∧ (cf r.2.2.1 37 10 ≠ 0 ∨ cf r.2.2.1 37 12 ≠ 0 ∨ (x1.toInt ≤ r.1.toInt ∧ r.1.toInt ≤ x2.toInt))) := by
  have l0 : (0 : Int32).toInt = 0 := by decide
  unfold e_Reader_takeNumber
  refine ok_call (s_take R) ?_
  rintro ⟨v, P2, F2, A2, J2⟩ ⟨q, h⟩
  dsimp only at q h ⊢
  have a := q.2.2.2.1.tkn
  refine ok_cond (fun c => ?_) (fun c => ?_)
  · refine ok_ldn (by omega) (by omega) (fun v7 => ?_)
    have f34 : ok (e_Reader_takeNumber_34 P2 F2 A2 J2 v7) (fun r => QRc P r.2.1 F r.2.2.1 A r.2.2.2.1 ∧ (cf r.2.2.1 37 10 ≠ 0 ∨ cf r.2.2.1 37 12 ≠ 0 ∨ (x1.toInt ≤ r.1.toInt ∧ r.1.toInt ≤ x2.toInt))) := by
      unfold e_Reader_takeNumber_34
      refine ok_call (s_failLate q.2.2.2.1 (by decide)) ?_
      rintro ⟨u, P3, F3, A3, J3⟩ ⟨q3, h3⟩
      exact ok_some ⟨q.tr q3, .inr (.inl h3)⟩
    refine ok_cond (fun _ => f34) (fun c2 => ?_)
    rw [i_nlt] at c2
    refine ok_cond (fun c3 => ?_) (fun _ => f34)
    rw [i_le] at c3
    exact ok_some ⟨q, .inr (.inr ⟨c2, c3⟩)⟩
  · rw [i_nne, l0] at c
    exact ok_some ⟨q, .inl (show cf F2 37 10 ≠ 0 by omega)⟩
theorem s_takeStepNumber {d : Nat} {x1 : Int32} (e5 : P 37 5 = d) (hk : c_kind d = 6) (R : Rc F A) (h1 : x1.toInt ≤ 5) : ok (e_Reader_takeStepNumber P F A J x1) (fun r => QRc P r.2.1 F r.2.2.1 A r.2.2.2.1 ∧ (cf r.2.2.1 37 10 ≠ 0 ∨ cf r.2.2.1 37 12 ≠ 0 ∨ x1.toInt < 0 ∨ (0 ≤ r.1.toInt ∧ r.1.toInt < ci A d 5 x1.toInt))) := by
  have l0 : (0 : Int32).toInt = 0 := by decide
  have l1 : (1 : Int32).toInt = 1 := by decide
  have f23 : ∀ {s2 : Int32}, (x1.toInt < 0 ∨ s2.toInt < ci A d 5 x1.toInt) → ok (e_Reader_takeStepNumber_23 P F A J 0 s2) (fun r => QRc P r.2.1 F r.2.2.1 A r.2.2.2.1 ∧ (cf r.2.2.1 37 10 ≠ 0 ∨ cf r.2.2.1 37 12 ≠ 0 ∨ x1.toInt < 0 ∨ (0 ≤ r.1.toInt ∧ r.1.toInt < ci A d 5 x1.toInt))) := by
    intro s2 hs
    unfold e_Reader_takeStepNumber_23
    refine ok_call (s_takeNumber R) ?_
    rintro ⟨v, P2, F2, A2, J2⟩ ⟨q, h⟩
    dsimp only at q h ⊢
    refine ok_some ⟨q, ?_⟩
    rcases h with h | h | h
    · exact .inl h
    · exact .inr (.inl h)
    · rcases hs with z | z
      · exact .inr (.inr (.inl z))
      · exact .inr (.inr (.inr ⟨show 0 ≤ v.toInt by omega, show v.toInt < _ by omega⟩))
  unfold e_Reader_takeStepNumber
  refine ok_cond (fun c => ?_) (fun c => ?_)
  · rw [i_ge] at c
    rw [e5]
    refine ok_chk hk ?_
    refine ok_ldc R hk (by omega) (by omega) ?_
    intro v3 v3e v3r
    change 0 ≤ v3.toInt ∧ v3.toInt ≤ 6 at v3r
    have e := i_sub (x := v3) (y := 1) (by omega) (by omega)
    exact f23 (.inr (by omega))
  · rw [i_nge] at c
    exact f23 (.inl (by omega))
theorem s_find_3 {x0 : Int64} {x3 : Int32} : ∀ {n : Nat} {x4 : Int32}, 0 ≤ x4.toInt ∧ x4.toInt ≤ 8 → 9 - x4.toInt < (n : Int) → ok (e_Reader_find_3 n P F A J x0 x3 x4) (fun v => -1 ≤ v.toInt ∧ (v.toInt < x3.toInt ∨ v.toInt = -1) ∧ v.toInt ≤ 7) := by
  intro n
  induction n with
  | zero => intro x4 hx hn; exact absurd hn (by omega)
  | succ n ih =>
    intro x4 hx hn
    have l1 : (1 : Int32).toInt = 1 := by decide
    have lm : (-1 : Int32).toInt = -1 := by decide
    have lo : (Int32.ofNat 8).toInt = 8 := by decide
    unfold e_Reader_find_3
    refine ok_cond (fun _ => ok_some ⟨by omega, .inr lm, by omega⟩) (fun c => ?_)
    rw [i_nge] at c
    refine ok_cond (fun _ => ok_some ⟨by omega, .inr lm, by omega⟩) (fun c2 => ?_)
    rw [i_nge] at c2
    have e4 := i_add (x := x4) (y := 1) (by omega) (by omega)
    refine ok_ldJc (by omega) (by omega) (fun v3 => ?_)
    exact ok_cond (fun _ => ih (by omega) (by omega)) (fun _ => ok_some ⟨by omega, .inl c, by omega⟩)
theorem s_find {x0 : Int64} {x3 : Int32} (hn : 10 ≤ n) : ok (e_Reader_find n P F A J x0 x3) (fun v => -1 ≤ v.toInt ∧ (v.toInt < x3.toInt ∨ v.toInt = -1) ∧ v.toInt ≤ 7) := by
  have l0 : (0 : Int32).toInt = 0 := by decide
  unfold e_Reader_find
  exact s_find_3 (by decide) (by omega)
theorem s_find_v1_3 {x0 : Int64} {x3 : Int32} : ∀ {n : Nat} {x4 : Int32}, 0 ≤ x4.toInt ∧ x4.toInt ≤ 6 → 7 - x4.toInt < (n : Int) → ok (e_Reader_find_v1_3 n P F A J x0 x3 x4) (fun v => -1 ≤ v.toInt ∧ (v.toInt < x3.toInt ∨ v.toInt = -1) ∧ v.toInt ≤ 5) := by
  intro n
  induction n with
  | zero => intro x4 hx hn; exact absurd hn (by omega)
  | succ n ih =>
    intro x4 hx hn
    have l1 : (1 : Int32).toInt = 1 := by decide
    have lm : (-1 : Int32).toInt = -1 := by decide
    have lo : (Int32.ofNat 6).toInt = 6 := by decide
    unfold e_Reader_find_v1_3
    refine ok_cond (fun _ => ok_some ⟨by omega, .inr lm, by omega⟩) (fun c => ?_)
    rw [i_nge] at c
    refine ok_cond (fun _ => ok_some ⟨by omega, .inr lm, by omega⟩) (fun c2 => ?_)
    rw [i_nge] at c2
    have e4 := i_add (x := x4) (y := 1) (by omega) (by omega)
    refine ok_ldJc (by omega) (by omega) (fun v3 => ?_)
    exact ok_cond (fun _ => ih (by omega) (by omega)) (fun _ => ok_some ⟨by omega, .inl c, by omega⟩)
theorem s_find_v1 {x0 : Int64} {x3 : Int32} (hn : 10 ≤ n) : ok (e_Reader_find_v1 n P F A J x0 x3) (fun v => -1 ≤ v.toInt ∧ (v.toInt < x3.toInt ∨ v.toInt = -1) ∧ v.toInt ≤ 5) := by
  have l0 : (0 : Int32).toInt = 0 := by decide
  unfold e_Reader_find_v1
  exact s_find_v1_3 (by decide) (by omega)
theorem s_find_v2_3 {x0 : Int64} {x3 : Int32} : ∀ {n : Nat} {x4 : Int32}, 0 ≤ x4.toInt ∧ x4.toInt ≤ 6 → 7 - x4.toInt < (n : Int) → ok (e_Reader_find_v2_3 n P F A J x0 x3 x4) (fun v => -1 ≤ v.toInt ∧ (v.toInt < x3.toInt ∨ v.toInt = -1) ∧ v.toInt ≤ 5) := by
  intro n
  induction n with
  | zero => intro x4 hx hn; exact absurd hn (by omega)
  | succ n ih =>
    intro x4 hx hn
    have l1 : (1 : Int32).toInt = 1 := by decide
    have lm : (-1 : Int32).toInt = -1 := by decide
    have lo : (Int32.ofNat 6).toInt = 6 := by decide
    unfold e_Reader_find_v2_3
    refine ok_cond (fun _ => ok_some ⟨by omega, .inr lm, by omega⟩) (fun c => ?_)
    rw [i_nge] at c
    refine ok_cond (fun _ => ok_some ⟨by omega, .inr lm, by omega⟩) (fun c2 => ?_)
    rw [i_nge] at c2
    have e4 := i_add (x := x4) (y := 1) (by omega) (by omega)
    refine ok_ldJc (by omega) (by omega) (fun v3 => ?_)
    exact ok_cond (fun _ => ih (by omega) (by omega)) (fun _ => ok_some ⟨by omega, .inl c, by omega⟩)
theorem s_find_v2 {x0 : Int64} {x3 : Int32} (hn : 10 ≤ n) : ok (e_Reader_find_v2 n P F A J x0 x3) (fun v => -1 ≤ v.toInt ∧ (v.toInt < x3.toInt ∨ v.toInt = -1) ∧ v.toInt ≤ 5) := by
  have l0 : (0 : Int32).toInt = 0 := by decide
  unfold e_Reader_find_v2
  exact s_find_v2_3 (by decide) (by omega)
theorem s_find_v3_3 {x0 : Int64} {x3 : Int32} : ∀ {n : Nat} {x4 : Int32}, 0 ≤ x4.toInt ∧ x4.toInt ≤ 6 → 7 - x4.toInt < (n : Int) → ok (e_Reader_find_v3_3 n P F A J x0 x3 x4) (fun v => -1 ≤ v.toInt ∧ (v.toInt < x3.toInt ∨ v.toInt = -1) ∧ v.toInt ≤ 5) := by
  intro n
  induction n with
  | zero => intro x4 hx hn; exact absurd hn (by omega)
  | succ n ih =>
    intro x4 hx hn
    have l1 : (1 : Int32).toInt = 1 := by decide
    have lm : (-1 : Int32).toInt = -1 := by decide
    have lo : (Int32.ofNat 6).toInt = 6 := by decide
    unfold e_Reader_find_v3_3
    refine ok_cond (fun _ => ok_some ⟨by omega, .inr lm, by omega⟩) (fun c => ?_)
    rw [i_nge] at c
    refine ok_cond (fun _ => ok_some ⟨by omega, .inr lm, by omega⟩) (fun c2 => ?_)
    rw [i_nge] at c2
    have e4 := i_add (x := x4) (y := 1) (by omega) (by omega)
    refine ok_ldJc (by omega) (by omega) (fun v3 => ?_)
    exact ok_cond (fun _ => ih (by omega) (by omega)) (fun _ => ok_some ⟨by omega, .inl c, by omega⟩)
theorem s_find_v3 {x0 : Int64} {x3 : Int32} (hn : 10 ≤ n) : ok (e_Reader_find_v3 n P F A J x0 x3) (fun v => -1 ≤ v.toInt ∧ (v.toInt < x3.toInt ∨ v.toInt = -1) ∧ v.toInt ≤ 5) := by
  have l0 : (0 : Int32).toInt = 0 := by decide
  unfold e_Reader_find_v3
  exact s_find_v3_3 (by decide) (by omega)
theorem s_known {x2 : Int32} (R : Rc F A) (hn : 10 ≤ n) : ok (e_Reader_takeKnownName n P F A J x2) (fun r => QRc P r.2.1 F r.2.2.1 A r.2.2.2.1 ∧ -1 ≤ r.1.toInt ∧ (r.1.toInt < x2.toInt ∨ r.1.toInt = -1) ∧ r.1.toInt ≤ 7 ∧ (0 ≤ r.1.toInt ∨ cf r.2.2.1 37 10 ≠ 0 ∨ cf r.2.2.1 37 12 ≠ 0)) := by
  have l0 : (0 : Int32).toInt = 0 := by decide
  have lm : (-1 : Int32).toInt = -1 := by decide
  unfold e_Reader_takeKnownName
  refine ok_call (s_take R) ?_
  rintro ⟨v, P2, F2, A2, J2⟩ ⟨q, h⟩
  dsimp only at q h ⊢
  have a := q.2.2.2.1.tkn
  refine ok_cond (fun c => ?_) (fun c => ?_)
  · refine ok_ldJc (by omega) (by omega) (fun v7 => ?_)
    refine ok_call (s_find hn) ?_
    intro v8 p8
    refine ok_cond (fun c2 => ?_) (fun c2 => ?_)
    · rw [i_ge] at c2
      exact ok_some ⟨q, p8.1, p8.2.1, p8.2.2, .inl (show 0 ≤ v8.toInt by omega)⟩
    · refine ok_call (s_failLate q.2.2.2.1 (by decide)) ?_
      rintro ⟨u, P3, F3, A3, J3⟩ ⟨q3, h3⟩
      exact ok_some ⟨q.tr q3, p8.1, p8.2.1, p8.2.2, .inr (.inr h3)⟩
  · rw [i_nne, l0] at c
    exact ok_some ⟨q, by show -1 ≤ (-1 : Int32).toInt; decide, .inr lm, by show (-1 : Int32).toInt ≤ 7; decide, .inr (.inl (show cf F2 37 10 ≠ 0 by omega))⟩
theorem s_known_v1 {x2 : Int32} (R : Rc F A) (hn : 10 ≤ n) : ok (e_Reader_takeKnownName_v1 n P F A J x2) (fun r => QRc P r.2.1 F r.2.2.1 A r.2.2.2.1 ∧ -1 ≤ r.1.toInt ∧ (r.1.toInt < x2.toInt ∨ r.1.toInt = -1) ∧ r.1.toInt ≤ 5 ∧ (0 ≤ r.1.toInt ∨ cf r.2.2.1 37 10 ≠ 0 ∨ cf r.2.2.1 37 12 ≠ 0)) := by
  have l0 : (0 : Int32).toInt = 0 := by decide
  have lm : (-1 : Int32).toInt = -1 := by decide
  unfold e_Reader_takeKnownName_v1
  refine ok_call (s_take R) ?_
  rintro ⟨v, P2, F2, A2, J2⟩ ⟨q, h⟩
  dsimp only at q h ⊢
  have a := q.2.2.2.1.tkn
  refine ok_cond (fun c => ?_) (fun c => ?_)
  · refine ok_ldJc (by omega) (by omega) (fun v7 => ?_)
    refine ok_call (s_find_v2 hn) ?_
    intro v8 p8
    refine ok_cond (fun c2 => ?_) (fun c2 => ?_)
    · rw [i_ge] at c2
      exact ok_some ⟨q, p8.1, p8.2.1, p8.2.2, .inl (show 0 ≤ v8.toInt by omega)⟩
    · refine ok_call (s_failLate q.2.2.2.1 (by decide)) ?_
      rintro ⟨u, P3, F3, A3, J3⟩ ⟨q3, h3⟩
      exact ok_some ⟨q.tr q3, p8.1, p8.2.1, p8.2.2, .inr (.inr h3)⟩
  · rw [i_nne, l0] at c
    exact ok_some ⟨q, by show -1 ≤ (-1 : Int32).toInt; decide, .inr lm, by show (-1 : Int32).toInt ≤ 5; decide, .inr (.inl (show cf F2 37 10 ≠ 0 by omega))⟩
theorem s_known_v2 {x2 : Int32} (R : Rc F A) (hn : 10 ≤ n) : ok (e_Reader_takeKnownName_v2 n P F A J x2) (fun r => QRc P r.2.1 F r.2.2.1 A r.2.2.2.1 ∧ -1 ≤ r.1.toInt ∧ (r.1.toInt < x2.toInt ∨ r.1.toInt = -1) ∧ r.1.toInt ≤ 5 ∧ (0 ≤ r.1.toInt ∨ cf r.2.2.1 37 10 ≠ 0 ∨ cf r.2.2.1 37 12 ≠ 0)) := by
  have l0 : (0 : Int32).toInt = 0 := by decide
  have lm : (-1 : Int32).toInt = -1 := by decide
  unfold e_Reader_takeKnownName_v2
  refine ok_call (s_take R) ?_
  rintro ⟨v, P2, F2, A2, J2⟩ ⟨q, h⟩
  dsimp only at q h ⊢
  have a := q.2.2.2.1.tkn
  refine ok_cond (fun c => ?_) (fun c => ?_)
  · refine ok_ldJc (by omega) (by omega) (fun v7 => ?_)
    refine ok_call (s_find_v1 hn) ?_
    intro v8 p8
    refine ok_cond (fun c2 => ?_) (fun c2 => ?_)
    · rw [i_ge] at c2
      exact ok_some ⟨q, p8.1, p8.2.1, p8.2.2, .inl (show 0 ≤ v8.toInt by omega)⟩
    · refine ok_call (s_failLate q.2.2.2.1 (by decide)) ?_
      rintro ⟨u, P3, F3, A3, J3⟩ ⟨q3, h3⟩
      exact ok_some ⟨q.tr q3, p8.1, p8.2.1, p8.2.2, .inr (.inr h3)⟩
  · rw [i_nne, l0] at c
    exact ok_some ⟨q, by show -1 ≤ (-1 : Int32).toInt; decide, .inr lm, by show (-1 : Int32).toInt ≤ 5; decide, .inr (.inl (show cf F2 37 10 ≠ 0 by omega))⟩
theorem s_known_v3 {x2 : Int32} (R : Rc F A) (hn : 10 ≤ n) : ok (e_Reader_takeKnownName_v3 n P F A J x2) (fun r => QRc P r.2.1 F r.2.2.1 A r.2.2.2.1 ∧ -1 ≤ r.1.toInt ∧ (r.1.toInt < x2.toInt ∨ r.1.toInt = -1) ∧ r.1.toInt ≤ 5 ∧ (0 ≤ r.1.toInt ∨ cf r.2.2.1 37 10 ≠ 0 ∨ cf r.2.2.1 37 12 ≠ 0)) := by
  have l0 : (0 : Int32).toInt = 0 := by decide
  have lm : (-1 : Int32).toInt = -1 := by decide
  unfold e_Reader_takeKnownName_v3
  refine ok_call (s_take R) ?_
  rintro ⟨v, P2, F2, A2, J2⟩ ⟨q, h⟩
  dsimp only at q h ⊢
  have a := q.2.2.2.1.tkn
  refine ok_cond (fun c => ?_) (fun c => ?_)
  · refine ok_ldJc (by omega) (by omega) (fun v7 => ?_)
    refine ok_call (s_find_v3 hn) ?_
    intro v8 p8
    refine ok_cond (fun c2 => ?_) (fun c2 => ?_)
    · rw [i_ge] at c2
      exact ok_some ⟨q, p8.1, p8.2.1, p8.2.2, .inl (show 0 ≤ v8.toInt by omega)⟩
    · refine ok_call (s_failLate q.2.2.2.1 (by decide)) ?_
      rintro ⟨u, P3, F3, A3, J3⟩ ⟨q3, h3⟩
      exact ok_some ⟨q.tr q3, p8.1, p8.2.1, p8.2.2, .inr (.inr h3)⟩
  · rw [i_nne, l0] at c
    exact ok_some ⟨q, by show -1 ≤ (-1 : Int32).toInt; decide, .inr lm, by show (-1 : Int32).toInt ≤ 5; decide, .inr (.inl (show cf F2 37 10 ≠ 0 by omega))⟩
theorem s_newName {d : Nat} {x2 : Int32} (e5 : P 37 5 = d) (hk : c_kind d = 6) (R : Rc F A) (h2 : 0 ≤ x2.toInt) (hn : 10 ≤ n) : ok (e_Reader_takeNewName n P F A J x2) (fun r => QRc P r.2.1 F r.2.2.1 A r.2.2.2.1) := by
  have lo : (Int32.ofNat 8).toInt = 8 := by decide
  unfold e_Reader_takeNewName
  refine ok_call (s_take R) ?_
  rintro ⟨v, P2, F2, A2, J2⟩ ⟨q, h⟩
  dsimp only at q h ⊢
  have a := q.2.2.2.1.tkn
  have e5' : P2 37 5 = d := by rw [q.1]; exact e5
  refine ok_cond (fun _ => ok_some q) (fun c => ?_)
  refine ok_cond (fun c2 => ?_) (fun _ => ok_some q)
  rw [i_lt] at c2
  refine ok_ldJc (by omega) (by omega) (fun v8 => ?_)
  have f101 : ok (e_Reader_takeNewName_101 n P2 F2 A2 J2 x2 v8) (fun r => QRc P r.2.1 F r.2.2.1 A r.2.2.2.1) := by
    unfold e_Reader_takeNewName_101
    refine ok_call (s_failLate q.2.2.2.1 (by decide)) ?_
    rintro ⟨u, P3, F3, A3, J3⟩ ⟨q3, h3⟩
    dsimp only at q3 ⊢
    exact ok_cstJ (by omega) (by omega) (fun J' => ok_some (q.tr q3))
  rw [e5']
  refine ok_chk hk ?_
  refine ok_call (s_find hn) ?_
  intro v10 _
  refine ok_cond (fun _ => f101) (fun _ => ?_)
  refine ok_chk hk ?_
  refine ok_call (s_find_v1 hn) ?_
  intro v13 _
  refine ok_cond (fun _ => f101) (fun _ => ?_)
  refine ok_chk hk ?_
  refine ok_call (s_find_v2 hn) ?_
  intro v16 _
  refine ok_cond (fun _ => f101) (fun _ => ?_)
  refine ok_chk hk ?_
  refine ok_call (s_find_v3 hn) ?_
  intro v19 _
  refine ok_cond (fun _ => ?_) (fun _ => f101)
  unfold e_Reader_takeNewName_106
  exact ok_cstJ (by omega) (by omega) (fun J' => ok_some q)
theorem s_newName_v1 {d : Nat} {x2 : Int32} (e5 : P 37 5 = d) (hk : c_kind d = 6) (R : Rc F A) (h2 : 0 ≤ x2.toInt) (hn : 10 ≤ n) : ok (e_Reader_takeNewName_v1 n P F A J x2) (fun r => QRc P r.2.1 F r.2.2.1 A r.2.2.2.1) := by
  have lo : (Int32.ofNat 6).toInt = 6 := by decide
  unfold e_Reader_takeNewName_v1
  refine ok_call (s_take R) ?_
  rintro ⟨v, P2, F2, A2, J2⟩ ⟨q, h⟩
  dsimp only at q h ⊢
  have a := q.2.2.2.1.tkn
  have e5' : P2 37 5 = d := by rw [q.1]; exact e5
  refine ok_cond (fun _ => ok_some q) (fun c => ?_)
  refine ok_cond (fun c2 => ?_) (fun _ => ok_some q)
  rw [i_lt] at c2
  refine ok_ldJc (by omega) (by omega) (fun v8 => ?_)
  have f101 : ok (e_Reader_takeNewName_v1_101 n P2 F2 A2 J2 x2 v8) (fun r => QRc P r.2.1 F r.2.2.1 A r.2.2.2.1) := by
    unfold e_Reader_takeNewName_v1_101
    refine ok_call (s_failLate q.2.2.2.1 (by decide)) ?_
    rintro ⟨u, P3, F3, A3, J3⟩ ⟨q3, h3⟩
    dsimp only at q3 ⊢
    exact ok_cstJ (by omega) (by omega) (fun J' => ok_some (q.tr q3))
  rw [e5']
  refine ok_chk hk ?_
  refine ok_call (s_find hn) ?_
  intro v10 _
  refine ok_cond (fun _ => f101) (fun _ => ?_)
  refine ok_chk hk ?_
  refine ok_call (s_find_v1 hn) ?_
  intro v13 _
  refine ok_cond (fun _ => f101) (fun _ => ?_)
  refine ok_chk hk ?_
  refine ok_call (s_find_v2 hn) ?_
  intro v16 _
  refine ok_cond (fun _ => f101) (fun _ => ?_)
  refine ok_chk hk ?_
  refine ok_call (s_find_v3 hn) ?_
  intro v19 _
  refine ok_cond (fun _ => ?_) (fun _ => f101)
  unfold e_Reader_takeNewName_v1_106
  exact ok_cstJ (by omega) (by omega) (fun J' => ok_some q)
theorem s_newName_v2 {d : Nat} {x2 : Int32} (e5 : P 37 5 = d) (hk : c_kind d = 6) (R : Rc F A) (h2 : 0 ≤ x2.toInt) (hn : 10 ≤ n) : ok (e_Reader_takeNewName_v2 n P F A J x2) (fun r => QRc P r.2.1 F r.2.2.1 A r.2.2.2.1) := by
  have lo : (Int32.ofNat 6).toInt = 6 := by decide
  unfold e_Reader_takeNewName_v2
  refine ok_call (s_take R) ?_
  rintro ⟨v, P2, F2, A2, J2⟩ ⟨q, h⟩
  dsimp only at q h ⊢
  have a := q.2.2.2.1.tkn
  have e5' : P2 37 5 = d := by rw [q.1]; exact e5
  refine ok_cond (fun _ => ok_some q) (fun c => ?_)
  refine ok_cond (fun c2 => ?_) (fun _ => ok_some q)
  rw [i_lt] at c2
  refine ok_ldJc (by omega) (by omega) (fun v8 => ?_)
  have f101 : ok (e_Reader_takeNewName_v2_101 n P2 F2 A2 J2 x2 v8) (fun r => QRc P r.2.1 F r.2.2.1 A r.2.2.2.1) := by
    unfold e_Reader_takeNewName_v2_101
    refine ok_call (s_failLate q.2.2.2.1 (by decide)) ?_
    rintro ⟨u, P3, F3, A3, J3⟩ ⟨q3, h3⟩
    dsimp only at q3 ⊢
    exact ok_cstJ (by omega) (by omega) (fun J' => ok_some (q.tr q3))
  rw [e5']
  refine ok_chk hk ?_
  refine ok_call (s_find hn) ?_
  intro v10 _
  refine ok_cond (fun _ => f101) (fun _ => ?_)
  refine ok_chk hk ?_
  refine ok_call (s_find_v1 hn) ?_
  intro v13 _
  refine ok_cond (fun _ => f101) (fun _ => ?_)
  refine ok_chk hk ?_
  refine ok_call (s_find_v2 hn) ?_
  intro v16 _
  refine ok_cond (fun _ => f101) (fun _ => ?_)
  refine ok_chk hk ?_
  refine ok_call (s_find_v3 hn) ?_
  intro v19 _
  refine ok_cond (fun _ => ?_) (fun _ => f101)
  unfold e_Reader_takeNewName_v2_106
  exact ok_cstJ (by omega) (by omega) (fun J' => ok_some q)
theorem s_newName_v3 {d : Nat} {x2 : Int32} (e5 : P 37 5 = d) (hk : c_kind d = 6) (R : Rc F A) (h2 : 0 ≤ x2.toInt) (hn : 10 ≤ n) : ok (e_Reader_takeNewName_v3 n P F A J x2) (fun r => QRc P r.2.1 F r.2.2.1 A r.2.2.2.1) := by
  have lo : (Int32.ofNat 6).toInt = 6 := by decide
  unfold e_Reader_takeNewName_v3
  refine ok_call (s_take R) ?_
  rintro ⟨v, P2, F2, A2, J2⟩ ⟨q, h⟩
  dsimp only at q h ⊢
  have a := q.2.2.2.1.tkn
  have e5' : P2 37 5 = d := by rw [q.1]; exact e5
  refine ok_cond (fun _ => ok_some q) (fun c => ?_)
  refine ok_cond (fun c2 => ?_) (fun _ => ok_some q)
  rw [i_lt] at c2
  refine ok_ldJc (by omega) (by omega) (fun v8 => ?_)
  have f101 : ok (e_Reader_takeNewName_v3_101 n P2 F2 A2 J2 x2 v8) (fun r => QRc P r.2.1 F r.2.2.1 A r.2.2.2.1) := by
    unfold e_Reader_takeNewName_v3_101
    refine ok_call (s_failLate q.2.2.2.1 (by decide)) ?_
    rintro ⟨u, P3, F3, A3, J3⟩ ⟨q3, h3⟩
    dsimp only at q3 ⊢
    exact ok_cstJ (by omega) (by omega) (fun J' => ok_some (q.tr q3))
  rw [e5']
  refine ok_chk hk ?_
  refine ok_call (s_find hn) ?_
  intro v10 _
  refine ok_cond (fun _ => f101) (fun _ => ?_)
  refine ok_chk hk ?_
  refine ok_call (s_find_v1 hn) ?_
  intro v13 _
  refine ok_cond (fun _ => f101) (fun _ => ?_)
  refine ok_chk hk ?_
  refine ok_call (s_find_v2 hn) ?_
  intro v16 _
  refine ok_cond (fun _ => f101) (fun _ => ?_)
  refine ok_chk hk ?_
  refine ok_call (s_find_v3 hn) ?_
  intro v19 _
  refine ok_cond (fun _ => ?_) (fun _ => f101)
  unfold e_Reader_takeNewName_v3_106
  exact ok_cstJ (by omega) (by omega) (fun J' => ok_some q)
end R97
