/-! the beginning: the invariant holds of it -/
section S9n
noncomputable def x_A : Nat → Nat → Nat → Int32 := fun r o => x_rI (x_d (x_f r) o)
noncomputable def x_J : Nat → Nat → Nat → Int64 := fun r o => x_rJ (x_d (x_f r) o)
theorem x_r2_eq : x_r2 x_r1 = some (none, ((340, 20126), x_f)) := by
  unfold x_r2
  rw [x_f_1]
  exact x_f_3
theorem x_lo {q : Nat × Nat × Nat × Int × Int} (hq : q ∈ x_L3) {i : Nat} (hi : i < q.2.2.1) : q.2.2.2.1 ≤ (x_A q.1 q.2.1 i).toInt ∧ (x_A q.1 q.2.1 i).toInt ≤ q.2.2.2.2 := by
  have h := x_ok3
  rw [x_r2_eq] at h
  exact of_decide_eq_true (List.all_eq_true.mp (List.all_eq_true.mp h q hq) i (List.mem_range.mpr hi))
theorem x_hi {r o n : Nat} (hr : r ∈ x_rs) (ho : o < (c_lay (c_kind r) r (x_P r) (x_F r) (fun _ _ => 0) (fun _ _ => 0) []).length) (hi : x_isI (x_d (c_lay (c_kind r) r (x_P r) (x_F r) (fun _ _ => 0) (fun _ _ => 0) []) o) n = true) : ∀ i, n ≤ i → x_A r o i = 0 := by
  obtain ⟨hs, hm⟩ := x_ses_d (x_f_4.2.1 r hr) o ho
  exact x_isI0 hs hi (x_f_4.2.2.2.2.2.2.1 r _ hm)
theorem x_in {r o n : Nat} {lo hi : Int} (hq : (r, o, n, lo, hi) ∈ x_L3) (hr : r ∈ x_rs) (ho : o < (c_lay (c_kind r) r (x_P r) (x_F r) (fun _ _ => 0) (fun _ _ => 0) []).length) (hn : x_isI (x_d (c_lay (c_kind r) r (x_P r) (x_F r) (fun _ _ => 0) (fun _ _ => 0) []) o) n = true) (h0 : lo ≤ 0 ∧ 0 ≤ hi) (i : Int) : lo ≤ ci x_A r o i ∧ ci x_A r o i ≤ hi := by
  unfold ci
  by_cases h : i.toNat < n
  · exact x_lo hq h
  · rw [x_hi hr ho hn i.toNat (by omega), show (0 : Int32).toInt = 0 by decide]
    exact h0
theorem x_F0 (r k : Nat) : x_F r k = 0 ∨ (r = 0 ∧ k = 11) ∨ (r = 27 ∧ k = 18) ∨ (r = 28 ∧ k = 18) ∨ (r = 32 ∧ k = 6) ∨ (r = 36 ∧ k = 101) := by
  unfold x_F
  cases h0 : Nat.beq r 0 with
  | true =>
    cases hk : Nat.beq k 11 with
    | true => exact .inr (.inl ⟨Nat.eq_of_beq_eq_true h0, Nat.eq_of_beq_eq_true hk⟩)
    | false => exact .inl (by simp only [cond_true, hk, cond_false])
  | false =>
    cases h1 : Nat.beq r 27 with
    | true =>
      cases hk : Nat.beq k 18 with
      | true => exact .inr (.inr (.inl ⟨Nat.eq_of_beq_eq_true h1, Nat.eq_of_beq_eq_true hk⟩))
      | false => exact .inl (by simp only [cond_true, hk, cond_false])
    | false =>
      cases h2 : Nat.beq r 28 with
      | true =>
        cases hk : Nat.beq k 18 with
        | true => exact .inr (.inr (.inr (.inl ⟨Nat.eq_of_beq_eq_true h2, Nat.eq_of_beq_eq_true hk⟩)))
        | false => exact .inl (by simp only [cond_true, hk, cond_false])
      | false =>
        cases h3 : Nat.beq r 32 with
        | true =>
          cases hk : Nat.beq k 6 with
          | true => exact .inr (.inr (.inr (.inr (.inl ⟨Nat.eq_of_beq_eq_true h3, Nat.eq_of_beq_eq_true hk⟩))))
          | false => exact .inl (by simp only [cond_true, hk, cond_false])
        | false =>
          cases h4 : Nat.beq r 36 with
          | true =>
            cases hk : Nat.beq k 101 with
            | true => exact .inr (.inr (.inr (.inr (.inr ⟨Nat.eq_of_beq_eq_true h4, Nat.eq_of_beq_eq_true hk⟩))))
            | false => exact .inl (by simp only [cond_true, hk, cond_false])
          | false => exact .inl (by simp only [cond_false])
theorem rFc0 (K k : Nat) : rFc K k 0 := by
  unfold rFc
  split <;> first | trivial | (split <;> first | trivial | exact ⟨by decide, by decide⟩)
theorem rR4 {o : Nat} {v : Int} (h : o = 1 → 0 ≤ v ∧ v ≤ 35) : rRc 4 o v := by
  unfold rRc
  simp only
  split
  · exact h rfl
  · trivial
theorem rR6 {o : Nat} {v : Int} (h1 : o = 1 → -1 ≤ v ∧ v ≤ 7) (h2 : o = 2 → -1 ≤ v ∧ v ≤ 7) (h4 : o = 4 → -1 ≤ v ∧ v ≤ 7) (h5 : o = 5 → 0 ≤ v ∧ v ≤ 6) (h10 : o = 10 → -2 ≤ v ∧ v ≤ 5) (h12 : o = 12 → -1 ≤ v ∧ v ≤ 7) : rRc 6 o v := by
  unfold rRc
  simp only
  split
  · exact h1 rfl
  · exact h2 rfl
  · exact h4 rfl
  · exact h5 rfl
  · exact h10 rfl
  · exact h12 rfl
  · trivial
theorem rR10 {o : Nat} {v : Int} (h4 : o = 4 → -1 ≤ v ∧ v ≤ 5) (h5 : o = 5 → 0 ≤ v ∧ v ≤ 5) : rRc 10 o v := by
  unfold rRc
  simp only
  split
  · exact h4 rfl
  · exact h5 rfl
  · trivial
theorem rRo {K o : Nat} {v : Int} (h4 : K ≠ 4) (h6 : K ≠ 6) (h10 : K ≠ 10) : rRc K o v := by
  unfold rRc
  split
  · exact absurd rfl h4
  · exact absurd rfl h6
  · exact absurd rfl h10
  · trivial
theorem ck (r : Nat) : (c_kind r ≠ 4 ∧ c_kind r ≠ 6 ∧ c_kind r ≠ 10) ∨ r = 25 ∨ r = 27 ∨ r = 28 ∨ r = 36 := by
  by_cases hr : r < 38
  · exact (by decide : ∀ r : Fin 38, (c_kind r.val ≠ 4 ∧ c_kind r.val ≠ 6 ∧ c_kind r.val ≠ 10) ∨ r.val = 25 ∨ r.val = 27 ∨ r.val = 28 ∨ r.val = 36) ⟨r, hr⟩
  · have hk : c_kind r = 99 := by
      unfold c_kind
      rw [List.getD_eq_getElem?_getD, List.getElem?_eq_none (show c_kds.length ≤ r from Nat.le_of_not_lt hr)]
      rfl
    rw [hk]
    exact .inl (by decide)
theorem x_Rc : Rc x_F x_A := by
  refine ⟨fun r k => ?_, fun r o i _ => ?_⟩
  · rcases x_F0 r k with h | ⟨rfl, rfl⟩ | ⟨rfl, rfl⟩ | ⟨rfl, rfl⟩ | ⟨rfl, rfl⟩ | ⟨rfl, rfl⟩
    · unfold cf
      rw [h]
      exact rFc0 _ _
    all_goals exact trivial
  · rcases ck r with h | rfl | rfl | rfl | rfl
    · exact rRo h.1 h.2.1 h.2.2
    · exact rR4 (fun e => by subst e; exact x_in (n := 30) (by decide) (by decide) (by decide) (by decide) (by decide) i)
    · exact rR6 (fun e => by subst e; exact x_in (n := 12) (by decide) (by decide) (by decide) (by decide) (by decide) i) (fun e => by subst e; exact x_in (n := 12) (by decide) (by decide) (by decide) (by decide) (by decide) i) (fun e => by subst e; exact x_in (n := 6) (by decide) (by decide) (by decide) (by decide) (by decide) i) (fun e => by subst e; have := x_in (r := 27) (o := 5) (n := 6) (lo := 0) (hi := 0) (by decide) (by decide) (by decide) (by decide) (by decide) i; omega) (fun e => by subst e; exact x_in (n := 36) (by decide) (by decide) (by decide) (by decide) (by decide) i) (fun e => by subst e; exact x_in (n := 6) (by decide) (by decide) (by decide) (by decide) (by decide) i)
    · exact rR6 (fun e => by subst e; exact x_in (n := 12) (by decide) (by decide) (by decide) (by decide) (by decide) i) (fun e => by subst e; exact x_in (n := 12) (by decide) (by decide) (by decide) (by decide) (by decide) i) (fun e => by subst e; exact x_in (n := 6) (by decide) (by decide) (by decide) (by decide) (by decide) i) (fun e => by subst e; exact x_in (n := 6) (by decide) (by decide) (by decide) (by decide) (by decide) i) (fun e => by subst e; exact x_in (n := 36) (by decide) (by decide) (by decide) (by decide) (by decide) i) (fun e => by subst e; exact x_in (n := 6) (by decide) (by decide) (by decide) (by decide) (by decide) i)
    · exact rR10 (fun e => by subst e; exact x_in (n := 6) (by decide) (by decide) (by decide) (by decide) (by decide) i) (fun e => by subst e; exact x_in (n := 6) (by decide) (by decide) (by decide) (by decide) (by decide) i)
theorem x_G : Gc x_P x_F x_A := by
  have c0 : ∀ i, ci x_A 27 5 i = 0 := fun i => by have := x_in (r := 27) (o := 5) (n := 6) (lo := 0) (hi := 0) (by decide) (by decide) (by decide) (by decide) (by decide) i; omega
  have f14 : cf x_F 27 14 = 0 := by decide
  have f17 : cf x_F 27 17 = 0 := by decide
  have f13 : cf x_F 27 1304 = 0 := by decide
  have f18 : cf x_F 27 18 = 480 := by decide
  have f42 : cf x_F 4 2 = 0 := by decide
  have f10 : x_F 0 10 = 0 := by decide
  have p8 : x_P 0 8 = 27 := by decide
  refine ⟨x_Rc, .inl ⟨by decide, by decide⟩, by decide, ?_, ?_, fun u u0 u1 => absurd u1 (by omega), fun s s0 s1 => absurd (b_none ⟨s, s0⟩) (by rw [f10] at s1; exact s1)⟩
  · rw [p8]
    exact ⟨fun d _ h => absurd h (by omega), fun m _ h => absurd h (by omega), fun t _ _ h => absurd h (by rw [c0]; decide), fun t s _ _ h0 h => absurd h (by rw [c0]; omega), fun i _ h => absurd h (by omega), by omega, by omega⟩
  · intro m m0 m1
    have := x_lo (q := (2, 3, 6, -1, -1)) (by decide) (i := m.toNat) (show m.toNat < 6 by omega)
    refine .inl ?_
    show (x_A 2 3 m.toNat).toInt = -1
    have h1 : -1 ≤ (x_A 2 3 m.toNat).toInt := this.1
    have h2 : (x_A 2 3 m.toNat).toInt ≤ -1 := this.2
    omega
theorem rF0 (k : Nat) : rF k 0 := by
  unfold rF
  split <;> first | trivial | exact ⟨by decide, by decide⟩
theorem rA0 (j : Nat) (i : Int) : rA j i 0 := by
  unfold rA
  split <;> first | trivial | exact ⟨by decide, by decide⟩
theorem y0 {j : Nat} (h : j ≠ 41) (i : Int) : ai y_A j i = 0 := by
  unfold ai y_A
  cases hb : Nat.beq j 41 with
  | true => exact absurd (Nat.eq_of_beq_eq_true hb) h
  | false => rfl
theorem y_S : SAm y_F y_A := by
  have f18 : (y_F 18).toInt = 0 := by decide
  have k0 : ai y_A 29 (y_F 18).toInt = 0 := y0 (by decide) _
  have hF : IFm y_F := by
    intro k
    unfold y_F
    cases hb : Nat.beq k 17 with
    | true =>
      have := Nat.eq_of_beq_eq_true hb
      subst this
      exact trivial
    | false => exact rF0 k
  have hA : IAm y_A := by
    intro j i hi
    by_cases h : j = 41
    · subst h
      show 0 ≤ (upd (fun _ => 0) 0 480 i.toNat).toInt ∧ (upd (fun _ => 0) 0 480 i.toNat).toInt ≤ 9999
      unfold upd
      split
      · decide
      · exact (by decide : 0 ≤ (0 : Int32).toInt ∧ (0 : Int32).toInt ≤ 9999)
    · rw [y0 h]
      exact rA0 j i
  refine ⟨hF, hA, ⟨fun d _ h => absurd h (by rw [y0 (by decide)]; omega), fun m _ h => absurd h (by rw [y0 (by decide)]; omega), fun t _ h => absurd h (by rw [y0 (by decide)]; omega), fun t q _ h => absurd h (by rw [y0 (by decide)]; omega), fun m _ h => absurd h (by rw [y0 (by decide)]; omega)⟩, fun m _ h => absurd h (by omega), fun m _ h => absurd h (by omega), fun u _ h => absurd h (by rw [show (y_F 74).toInt = 0 by decide]; omega), fun s _ _ h => absurd h (by rw [y0 (by decide)]; decide)⟩
end S9n
