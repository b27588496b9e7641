section Qz131
/-! the calls that change a scalar, on both sides -/
section H9ex2
variable {Fr : Nat → Int32} {Ar : Nat → Nat → Int32}
variable {n n2 : Nat} {P P' : Nat → Nat → Nat} {F F' : Nat → Nat → Int32} {A A' : Nat → Nat → Nat → Int32} {J : Nat → Nat → Nat → Int64} {Fm Fm' : Nat → Int32} {Am Am' : Nat → Nat → Int32} {Jm : Nat → Nat → Int64} {x1 x2 x3 : Int32}
/-- a slot is held, by the class's bits -/
def HB (v : Int32) (s : Nat) : Prop := (v &&& (1 <<< (Int32.ofNat s &&& 31))) ≠ 0
/-- the scalars of both sides agree -/
def SCx (F : Nat → Nat → Int32) (Fm : Nat → Int32) (Am : Nat → Nat → Int32) : Prop := F 25 2 = Fm 77 ∧ F 4 2 = Fm 74 ∧ ∀ s : Nat, s < 3 → (HB (F 0 10) s ↔ Am 61 s ≠ 0)
theorem SCx.c (h : SCx F Fm Am) (k : KS F F') : SCx F' Fm Am := ⟨k.1.trans h.1, k.2.1.trans h.2.1, fun s hs => by rw [k.2.2]; exact h.2.2 s hs⟩
theorem SCx.m (h : SCx F Fm Am) (k : KM Fm Am Fm' Am') : SCx F Fm' Am' := ⟨h.1.trans k.1.symm, h.2.1.trans k.2.1.symm, fun s hs => by rw [k.2.2]; exact h.2.2 s hs⟩
/-- what both sides share between calls -/
def CY (P : Nat → Nat → Nat) (F : Nat → Nat → Int32) (A : Nat → Nat → Nat → Int32) (Fm : Nat → Int32) (Am : Nat → Nat → Int32) : Prop := CX P F A Fm Am ∧ SCx F Fm Am
/-- tell: what it answers and how the number of what was told goes on -/
def TV (p : Prop) (v c0 c1 : Int32) : Prop := (p ∧ v = c0 + 1 - 1 ∧ c1 = c0 + 1) ∨ (¬ p ∧ v = -1 ∧ c1 = c0)
theorem TV.eq {p q : Prop} {v w c0 c1 d0 d1 : Int32} (h : TV p v c0 c1) (h' : TV q w d0 d1) (e : p ↔ q) (e0 : c0 = d0) : v = w ∧ c1 = d1 := by
  subst e0
  rcases h with ⟨h, rfl, rfl⟩ | ⟨h, rfl, rfl⟩
  · rcases h' with ⟨h', rfl, rfl⟩ | ⟨h', rfl, rfl⟩
    · exact ⟨rfl, rfl⟩
    · exact absurd (e.mp h) h'
  · rcases h' with ⟨h', rfl, rfl⟩ | ⟨h', rfl, rfl⟩
    · exact absurd (e.mpr h') h
    · exact ⟨rfl, rfl⟩
theorem v_cTell : po (e_SleepWork_tell P F A J x1 x2 x3) (fun r => TV ((0 ≤ x1.toInt ∧ x1.toInt < (F (P 0 8) 16).toInt ∧ 0 ≤ x2.toInt ∧ x2.toInt < ci A (P 0 8) 5 x1.toInt) ∧ (0 ≤ x3.toInt ∧ x3.toInt ≤ 999) ∧ (F 25 2).toInt < 30) r.1 (F 25 2) (r.2.2.1 25 2) ∧ r.2.2.1 4 2 = F 4 2 ∧ r.2.2.1 0 10 = F 0 10) := by
  have l30 : (30 : Int32).toInt = 30 := by decide
  have l999 : (999 : Int32).toInt = 999 := by decide
  unfold e_SleepWork_tell
  refine po_bl (fun _ h => ?_)
  obtain ⟨-, rfl⟩ := gg_chk h
  refine po_call v_cStep ?_
  intro v b
  rcases b with ⟨rfl, p⟩ | ⟨rfl, p⟩
  · refine po_cond (fun c => absurd c (by decide)) (fun _ => ?_)
    refine po_cond (fun c => po_some ⟨.inr ⟨fun h => ?_, rfl, rfl⟩, rfl, rfl⟩) (fun c3 => ?_)
    · rw [i_lt, i_0] at c
      have := h.2.1.1
      omega
    rw [i_nlt, i_0] at c3
    refine po_cond (fun c => po_some ⟨.inr ⟨fun h => ?_, rfl, rfl⟩, rfl, rfl⟩) (fun c4 => ?_)
    · rw [i_gt, l999] at c
      have := h.2.1.2
      omega
    rw [i_ngt, l999] at c4
    refine po_call (R := fun v => BV v (30 ≤ (F 25 2).toInt)) ?_ ?_
    · unfold e_Told_isFull
      refine po_cond (fun c => po_some (.inr ⟨rfl, ?_⟩)) (fun c => po_some (.inl ⟨rfl, ?_⟩))
      · rw [i_lt, l30] at c
        omega
      · rw [i_nlt, l30] at c
        exact c
    intro v6 b6
    rcases b6 with ⟨rfl, p6⟩ | ⟨rfl, p6⟩
    · refine po_cond (fun c => absurd c (by decide)) (fun _ => po_some ⟨.inr ⟨fun h => ?_, rfl, rfl⟩, rfl, rfl⟩)
      have := h.2.2
      omega
    · refine po_cond (fun _ => ?_) (fun c => absurd c (by decide))
      refine po_call (R := fun r => r.1 = F 25 2 + 1 - 1 ∧ r.2.2.1 25 2 = F 25 2 + 1 ∧ r.2.2.1 4 2 = F 4 2 ∧ r.2.2.1 0 10 = F 0 10) ?_ ?_
      · unfold e_Told_add
        refine po_bl (fun _ _ => po_bl (fun _ _ => po_bl (fun F3 h3 => po_some ?_)))
        have u := gg_cpf h3
        exact ⟨by rw [u.1], u.1, u.2 4 2 (by simp), u.2 0 10 (by simp)⟩
      rintro ⟨v8, P9, F10, A11, J12⟩ ⟨a1, a2, a3, a4⟩
      exact po_some ⟨.inl ⟨⟨p, ⟨c3, c4⟩, by omega⟩, a1, a2⟩, a3, a4⟩
  · exact po_cond (fun _ => po_some ⟨.inr ⟨fun h => p h.1, rfl, rfl⟩, rfl, rfl⟩) (fun c => absurd c (by decide))
theorem v_dTell (S : SAm Fm Am) : po (d_tell3 Fm Am Jm x1 x2 x3) (fun r => TV ((0 ≤ x1.toInt ∧ x1.toInt < (Am 19 (Fm 18).toInt.toNat).toInt ∧ 0 ≤ x2.toInt ∧ x2.toInt < ai Am 22 (6 * (Fm 18).toInt + x1.toInt)) ∧ (0 ≤ x3.toInt ∧ x3.toInt ≤ 999) ∧ (Fm 77).toInt < 30) r.1 (Fm 77) (r.2.1 77) ∧ r.2.1 74 = Fm 74 ∧ r.2.2.1 61 = Am 61) := by
  have l30 : (30 : Int32).toInt = 30 := by decide
  have l999 : (999 : Int32).toInt = 999 := by decide
  have r77 : 0 ≤ (Fm 77).toInt ∧ (Fm 77).toInt ≤ 30 := S.1 77
  unfold d_tell3
  refine po_cond (fun c => po_some ⟨.inr ⟨fun h => ?_, rfl, rfl⟩, rfl, rfl⟩) (fun c => ?_)
  · rw [i_eq, l30] at c
    have := h.2.2
    omega
  rw [i_neq, l30] at c
  refine po_call (v_dStep S) ?_
  intro v b
  rcases b with ⟨rfl, p⟩ | ⟨rfl, p⟩
  · refine po_cond (fun c => absurd c (by decide)) (fun _ => ?_)
    refine po_call v_din ?_
    intro v4 b4
    rw [i_0, l999] at b4
    rcases b4 with ⟨rfl, p4⟩ | ⟨rfl, p4⟩
    · refine po_cond (fun _ => ?_) (fun c => absurd c (by decide))
      refine po_bl (fun A6 h6 => po_bl (fun A7 h7 => po_bl (fun A8 h8 => po_bl (fun F9 h9 => po_some ?_))))
      have u := gg_pf h9
      exact ⟨.inl ⟨⟨p, p4, by omega⟩, by rw [u.1], u.1⟩, u.2 74 (by decide), ((gg_st h8).2.2.1 61 (by decide)).trans (((gg_st h7).2.2.1 61 (by decide)).trans ((gg_st h6).2.2.1 61 (by decide)))⟩
    · exact po_cond (fun c => absurd c (by decide)) (fun _ => po_some ⟨.inr ⟨fun h => p4 h.2.1, rfl, rfl⟩, rfl, rfl⟩)
  · exact po_cond (fun _ => po_some ⟨.inr ⟨fun h => p h.1, rfl, rfl⟩, rfl, rfl⟩) (fun c => absurd c (by decide))
theorem p2_tell (G : Gc P F A) (S : SAm Fm Am) (hc : CY P F A Fm Am) : P2 (e_SleepWork_tell P F A J x1 x2 x3) (d_tell3 Fm Am Jm x1 x2 x3) (fun a b => a.1 = b.1 ∧ SCx a.2.2.1 b.2.1 b.2.2.1) :=
  p2_of v_cTell (v_dTell S) (fun a b h h' => by
    obtain ⟨e1, e2⟩ := h.1.eq h'.1 (by rw [hc.1.stp, hc.2.1]) hc.2.1
    exact ⟨e1, e2, h.2.1.trans (hc.2.2.1.trans h'.2.1.symm), fun s hs => by rw [h.2.2, h'.2.2]; exact hc.2.2.2 s hs⟩)
/-- forget -/
theorem v_cForget : po (e_SleepWork_forget P F A J) (fun r => r.1 = F 25 2 ∧ r.2.2.1 25 2 = 0 ∧ r.2.2.1 4 2 = F 4 2 ∧ r.2.2.1 0 10 = F 0 10) := by
  unfold e_SleepWork_forget
  refine po_bl (fun F1 h1 => ?_)
  have u := gg_cpf h1
  refine po_call (ks_e_Evening_setStale KS.rfl') ?_
  rintro ⟨_, P3, F4, A5, J6⟩ k
  exact po_some ⟨rfl, k.1.trans u.1, k.2.1.trans (u.2 4 2 (by simp)), k.2.2.trans (u.2 0 10 (by simp))⟩
theorem v_dForget : po (d_forget Fm Am Jm) (fun r => r.1 = Fm 77 ∧ r.2.1 77 = 0 ∧ r.2.1 74 = Fm 74 ∧ r.2.2.1 61 = Am 61) := by
  unfold d_forget
  refine po_bl (fun F1 h1 => ?_)
  have u := gg_pf h1
  exact po_some ⟨rfl, u.1, u.2 74 (by decide), rfl⟩
theorem p2_forget (G : Gc P F A) (S : SAm Fm Am) (hc : CY P F A Fm Am) : P2 (e_SleepWork_forget P F A J) (d_forget Fm Am Jm) (fun a b => a.1 = b.1 ∧ SCx a.2.2.1 b.2.1 b.2.2.1) :=
  p2_of v_cForget v_dForget (fun a b h h' => ⟨h.1.trans (hc.2.1.trans h'.1.symm), h.2.1.trans h'.2.1.symm, h.2.2.1.trans (hc.2.2.1.trans h'.2.2.1.symm), fun s hs => by rw [h.2.2.2, h'.2.2.2]; exact hc.2.2.2 s hs⟩)
/-- hold -/
theorem b_hold2 : ∀ a : Fin 8, ∀ x s : Fin 3, ((Int32.ofNat a.val ||| (1 <<< (Int32.ofNat x.val &&& 31))) &&& (1 <<< (Int32.ofNat s.val &&& 31))) ≠ 0 ↔ s.val = x.val ∨ (Int32.ofNat a.val &&& (1 <<< (Int32.ofNat s.val &&& 31))) ≠ 0 := by decide
theorem v_cHold2 : po (e_SleepWork_hold P F A J x1) (fun r => r.2.2.1 25 2 = F 25 2 ∧ r.2.2.1 4 2 = F 4 2 ∧ ((0 ≤ x1.toInt ∧ x1.toInt < 3 ∧ r.1 = 1 ∧ r.2.2.1 0 10 = F 0 10 ||| (1 <<< (x1 &&& 31))) ∨ (¬ (0 ≤ x1.toInt ∧ x1.toInt < 3) ∧ r.1 = 0 ∧ r.2.2.1 0 10 = F 0 10))) := by
  have l3 : (3 : Int32).toInt = 3 := by decide
  unfold e_SleepWork_hold
  refine po_cond (fun c => po_some ⟨rfl, rfl, .inr ⟨?_, rfl, rfl⟩⟩) (fun c => ?_)
  · rw [i_lt, i_0] at c
    omega
  rw [i_nlt, i_0] at c
  refine po_cond (fun c2 => ?_) (fun c2 => po_some ⟨rfl, rfl, .inr ⟨?_, rfl, rfl⟩⟩)
  · rw [i_lt, l3] at c2
    refine po_bl (fun q _ => ?_)
    refine po_call (ks_e_State_copy KS.rfl') ?_
    rintro ⟨_, P5, F6, A7, J8⟩ k
    have k1 : F6 25 2 = F 25 2 := k.1
    have k2 : F6 4 2 = F 4 2 := k.2.1
    have k3 : F6 0 10 = F 0 10 := k.2.2
    refine po_bl (fun F9 h9 => ?_)
    have u := gg_cpf h9
    exact po_some ⟨(u.2 25 2 (by simp)).trans k1, (u.2 4 2 (by simp)).trans k2, .inl ⟨c, c2, rfl, by rw [← k3]; exact u.1⟩⟩
  · rw [i_nlt, l3] at c2
    omega
theorem v_dHold2_20 : ∀ {n : Nat} {Fm : Nat → Int32} {Am : Nat → Nat → Int32} {Jm : Nat → Nat → Int64} {x2 : Int32}, po (d_hold_20 n Fm Am Jm x1 x2) (fun r => r.1 = 1 ∧ KM Fm Am r.2.1 r.2.2.1) := by
  intro n
  induction n with
  | zero => intro Fm Am Jm x2 r hr; cases hr
  | succ n ih =>
    intro Fm Am Jm x2
    unfold d_hold_20
    refine po_cond (fun _ => po_some ⟨rfl, KM.rfl'⟩) (fun _ => ?_)
    refine po_bl (fun v5 _ => po_bl (fun A6 h6 => ?_))
    refine po_mono ih (fun r h => ⟨h.1, KM.tr ⟨rfl, rfl, (gg_st h6).2.2.1 61 (by decide)⟩ h.2⟩)
theorem v_dHold2 : po (d_hold n Fm Am Jm x1) (fun r => r.2.1 77 = Fm 77 ∧ r.2.1 74 = Fm 74 ∧ ((0 ≤ x1.toInt ∧ x1.toInt < 3 ∧ r.1 = 1 ∧ ∀ s : Nat, s < 3 → (r.2.2.1 61 s ≠ 0 ↔ (s = x1.toInt.toNat ∨ Am 61 s ≠ 0))) ∨ (¬ (0 ≤ x1.toInt ∧ x1.toInt < 3) ∧ r.1 = 0 ∧ r.2.2.1 61 = Am 61))) := by
  have l2 : (2 : Int32).toInt = 2 := by decide
  unfold d_hold
  refine po_call v_din ?_
  intro v1 b1
  rw [i_0, l2] at b1
  rcases b1 with ⟨rfl, p⟩ | ⟨rfl, p⟩
  · refine po_cond (fun _ => ?_) (fun c => absurd c (by decide))
    refine po_bl (fun A3 h3 => ?_)
    have u := gg_st h3
    refine po_mono v_dHold2_20 (fun r h => ⟨h.2.1, h.2.2.1, .inl ⟨p.1, by omega, h.1, fun s hs => ?_⟩⟩)
    rw [h.2.2.2]
    by_cases e : s = x1.toInt.toNat
    · have z : A3 61 s = 1 := i_ext (by
        have w := u.2.2.2.1
        unfold ai at w
        rw [e, w] <;> decide)
      rw [z]
      exact ⟨fun _ => .inl e, fun _ => by decide⟩
    · have z : A3 61 s = Am 61 s := i_ext (by
        have w := u.2.2.2.2 (s : Int) (by omega) (by omega)
        unfold ai at w
        rw [Int.toNat_natCast] at w
        exact w)
      rw [z]
      exact ⟨fun h => .inr h, fun h => h.resolve_left e⟩
  · refine po_cond (fun c => absurd c (by decide)) (fun _ => po_some ⟨rfl, rfl, .inr ⟨fun h => p ⟨h.1, by omega⟩, rfl, rfl⟩⟩)
theorem p2_hold (G : Gc P F A) (S : SAm Fm Am) (hc : CY P F A Fm Am) : P2 (e_SleepWork_hold P F A J x1) (d_hold n Fm Am Jm x1) (fun a b => a.1 = b.1 ∧ SCx a.2.2.1 b.2.1 b.2.2.1) :=
  p2_of v_cHold2 v_dHold2 (fun a b h h' => by
    obtain ⟨h1, h2, h3⟩ := h
    obtain ⟨g1, g2, g3⟩ := h'
    have a1 : 0 ≤ (F 0 10).toInt ∧ (F 0 10).toInt ≤ 7 := G.1.1 0 10
    rcases h3 with ⟨p0, p1, e1, e2⟩ | ⟨p, e1, e2⟩
    · rcases g3 with ⟨-, -, d1, d2⟩ | ⟨q, -, -⟩
      · refine ⟨e1.trans d1.symm, h1.trans (hc.2.1.trans g1.symm), h2.trans (hc.2.2.1.trans g2.symm), fun s hs => ?_⟩
        have ex : x1 = Int32.ofNat x1.toInt.toNat := i_nat (by omega)
        have eh : F 0 10 = Int32.ofNat (F 0 10).toInt.toNat := i_nat (by omega)
        have bh := b_hold2 ⟨(F 0 10).toInt.toNat, by omega⟩ ⟨x1.toInt.toNat, by omega⟩ ⟨s, hs⟩
        rw [← ex, ← eh] at bh
        rw [d2 s hs]
        unfold HB
        rw [e2]
        exact bh.trans (or_congr Iff.rfl (hc.2.2.2 s hs))
      · exact absurd ⟨p0, p1⟩ q
    · rcases g3 with ⟨q0, q1, -, -⟩ | ⟨-, d1, d2⟩
      · exact absurd ⟨q0, q1⟩ p
      · exact ⟨e1.trans d1.symm, h1.trans (hc.2.1.trans g1.symm), h2.trans (hc.2.2.1.trans g2.symm), fun s hs => by rw [e2, d2]; exact hc.2.2.2 s hs⟩)
/-- restore -/
theorem v_cRestore : po (e_SleepWork_restore P F A J x1) (fun r => r.2.2.1 25 2 = F 25 2 ∧ r.2.2.1 0 10 = F 0 10 ∧ ((r.1 = 1 ∧ r.2.2.1 4 2 = 0 ∧ (0 ≤ x1.toInt ∧ x1.toInt < 3) ∧ HB (F 0 10) x1.toInt.toNat) ∨ (r.1 = 0 ∧ r.2.2.1 4 2 = F 4 2 ∧ ¬ ((0 ≤ x1.toInt ∧ x1.toInt < 3) ∧ HB (F 0 10) x1.toInt.toNat)))) := by
  have l3 : (3 : Int32).toInt = 3 := by decide
  unfold e_SleepWork_restore
  refine po_cond (fun c => po_some ⟨rfl, rfl, .inr ⟨rfl, rfl, fun h => ?_⟩⟩) (fun c => ?_)
  · rw [i_lt, i_0] at c
    have := h.1
    omega
  rw [i_nlt, i_0] at c
  refine po_cond (fun c2 => po_some ⟨rfl, rfl, .inr ⟨rfl, rfl, fun h => ?_⟩⟩) (fun c2 => ?_)
  · rw [i_ge, l3] at c2
    have := h.1
    omega
  rw [i_nge, l3] at c2
  have ex : x1 = Int32.ofNat x1.toInt.toNat := i_nat c
  have hb : HB (F 0 10) x1.toInt.toNat ↔ (F 0 10 &&& (1 <<< (x1 &&& 31))) ≠ 0 := by
    unfold HB
    rw [← ex]
  refine po_cond (fun c3 => ?_) (fun c3 => po_some ⟨rfl, rfl, .inr ⟨rfl, rfl, fun h => ?_⟩⟩)
  · rw [i_ne, i_0] at c3
    refine po_bl (fun q _ => ?_)
    refine po_call (ks_e_State_copy KS.rfl') ?_
    rintro ⟨_, P6, F7, A8, J9⟩ k
    have k1 : F7 25 2 = F 25 2 := k.1
    have k3 : F7 0 10 = F 0 10 := k.2.2
    refine po_bl (fun F10 h10 => ?_)
    have u := gg_cpf h10
    refine po_call (ks_e_Evening_setStale KS.rfl') ?_
    rintro ⟨_, P12, F13, A14, J15⟩ k'
    exact po_some ⟨k'.1.trans ((u.2 25 2 (by simp)).trans k1), k'.2.2.trans ((u.2 0 10 (by simp)).trans k3), .inl ⟨rfl, k'.2.1.trans u.1, ⟨c, c2⟩, hb.mpr (fun e => c3 (by rw [e] <;> exact i_0))⟩⟩
  · rw [i_nne, i_0] at c3
    exact hb.mp h.2 (i_ext (c3.trans i_0.symm))
theorem v_dRestore_22 : ∀ {n : Nat} {Fm : Nat → Int32} {Am : Nat → Nat → Int32} {Jm : Nat → Nat → Int64} {x2 : Int32}, po (d_restore_22 n Fm Am Jm x1 x2) (fun r => r.1 = 1 ∧ r.2.1 77 = Fm 77 ∧ r.2.1 74 = 0 ∧ r.2.2.1 61 = Am 61) := by
  intro n
  induction n with
  | zero => intro Fm Am Jm x2 r hr; cases hr
  | succ n ih =>
    intro Fm Am Jm x2
    unfold d_restore_22
    refine po_cond (fun _ => po_bl (fun F6 h6 => ?_)) (fun _ => ?_)
    · have u := gg_pf h6
      exact po_some ⟨rfl, u.2 77 (by decide), u.1, rfl⟩
    · refine po_bl (fun v7 _ => po_bl (fun A8 h8 => ?_))
      exact po_mono ih (fun r h => ⟨h.1, h.2.1, h.2.2.1, h.2.2.2.trans ((gg_st h8).2.2.1 61 (by decide))⟩)
theorem v_dRestore : po (d_restore n Fm Am Jm x1) (fun r => r.2.1 77 = Fm 77 ∧ r.2.2.1 61 = Am 61 ∧ ((r.1 = 1 ∧ r.2.1 74 = 0 ∧ (0 ≤ x1.toInt ∧ x1.toInt < 3) ∧ Am 61 x1.toInt.toNat ≠ 0) ∨ (r.1 = 0 ∧ r.2.1 74 = Fm 74 ∧ ¬ ((0 ≤ x1.toInt ∧ x1.toInt < 3) ∧ Am 61 x1.toInt.toNat ≠ 0)))) := by
  have l2 : (2 : Int32).toInt = 2 := by decide
  unfold d_restore
  refine po_call v_din ?_
  intro v1 b1
  rw [i_0, l2] at b1
  rcases b1 with ⟨rfl, p⟩ | ⟨rfl, p⟩
  · refine po_cond (fun c => absurd c (by decide)) (fun _ => ?_)
    refine po_bl (fun v3 h3 => ?_)
    have e3 := (gg_ld h3).2.2
    refine po_cond (fun c => ?_) (fun c => po_some ⟨rfl, rfl, .inr ⟨rfl, rfl, fun h => h.2 ?_⟩⟩)
    · rw [i_ne, i_0] at c
      exact po_mono v_dRestore_22 (fun r h => ⟨h.2.1, h.2.2.2, .inl ⟨h.1, h.2.2.1, ⟨p.1, by omega⟩, fun e => c (by rw [e3, e] <;> exact i_0)⟩⟩)
    · rw [i_nne, i_0] at c
      rw [← e3]
      exact i_ext (c.trans i_0.symm)
  · exact po_cond (fun _ => po_some ⟨rfl, rfl, .inr ⟨rfl, rfl, fun h => p ⟨h.1.1, by have := h.1.2; omega⟩⟩⟩) (fun c => absurd c (by decide))
theorem p2_restore (G : Gc P F A) (S : SAm Fm Am) (hc : CY P F A Fm Am) : P2 (e_SleepWork_restore P F A J x1) (d_restore n Fm Am Jm x1) (fun a b => a.1 = b.1 ∧ SCx a.2.2.1 b.2.1 b.2.2.1) :=
  p2_of v_cRestore v_dRestore (fun a b h h' => by
    obtain ⟨h1, h2, h3⟩ := h
    obtain ⟨g1, g2, g3⟩ := h'
    have hs : ∀ s : Nat, s < 3 → (HB (a.2.2.1 0 10) s ↔ b.2.2.1 61 s ≠ 0) := fun s hs => by rw [h2, g2]; exact hc.2.2.2 s hs
    rcases h3 with ⟨e1, e2, p, q⟩ | ⟨e1, e2, q⟩
    · rcases g3 with ⟨d1, d2, -, -⟩ | ⟨-, -, q'⟩
      · exact ⟨e1.trans d1.symm, h1.trans (hc.2.1.trans g1.symm), e2.trans d2.symm, hs⟩
      · exact absurd ⟨p, (hc.2.2.2 _ (by omega)).mp q⟩ q'
    · rcases g3 with ⟨-, -, p, q'⟩ | ⟨d1, d2, -⟩
      · exact absurd ⟨p, (hc.2.2.2 _ (by omega)).mpr q'⟩ q
      · exact ⟨e1.trans d1.symm, h1.trans (hc.2.1.trans g1.symm), e2.trans (hc.2.2.1.trans d2.symm), hs⟩)
/-- undo -/
def UV (v c0 c1 : Int32) : Prop := (c0.toInt ≠ 0 ∧ v = 1 ∧ c1 = c0 - 1) ∨ (c0.toInt = 0 ∧ v = 0 ∧ c1 = c0)
theorem UV.eq {v w c0 c1 d0 d1 : Int32} (h : UV v c0 c1) (h' : UV w d0 d1) (e0 : c0 = d0) : v = w ∧ c1 = d1 := by
  subst e0
  rcases h with ⟨h, rfl, rfl⟩ | ⟨h, rfl, rfl⟩
  · rcases h' with ⟨h', rfl, rfl⟩ | ⟨h', rfl, rfl⟩
    · exact ⟨rfl, rfl⟩
    · exact absurd h' h
  · rcases h' with ⟨h', rfl, rfl⟩ | ⟨h', rfl, rfl⟩
    · exact absurd h h'
    · exact ⟨rfl, rfl⟩
theorem v_cPull {r1 : Nat} : po (e_Past_pull P F A J r1) (fun r => UV r.1 (F 4 2) (r.2.2.1 4 2) ∧ r.2.2.1 25 2 = F 25 2 ∧ r.2.2.1 0 10 = F 0 10) := by
  unfold e_Past_pull
  refine po_cond (fun c => ?_) (fun c => po_some ⟨.inr ⟨?_, rfl, rfl⟩, rfl, rfl⟩)
  · rw [i_ne, i_0] at c
    refine po_bl (fun F2 h2 => ?_)
    have u := gg_cpf h2
    refine po_bl (fun _ _ => po_bl (fun _ _ => ?_))
    refine po_call (ks_e_State_copy KS.rfl') ?_
    rintro ⟨_, P6, F7, A8, J9⟩ k
    exact po_some ⟨.inl ⟨c, rfl, k.2.1.trans u.1⟩, k.1.trans (u.2 25 2 (by simp)), k.2.2.trans (u.2 0 10 (by simp))⟩
  · rw [i_nne, i_0] at c
    exact c
theorem v_cUndo : po (e_SleepWork_undo P F A J) (fun r => UV r.1 (F 4 2) (r.2.2.1 4 2) ∧ r.2.2.1 25 2 = F 25 2 ∧ r.2.2.1 0 10 = F 0 10) := by
  unfold e_SleepWork_undo
  refine po_call v_cPull ?_
  rintro ⟨v1, P2, F3, A4, J5⟩ ⟨h1, h2, h3⟩
  dsimp only at h1 h2 h3 ⊢
  refine po_cond (fun c => ?_) (fun c => po_some ⟨?_, h2, h3⟩)
  · rw [i_ne, i_0] at c
    refine po_call (ks_e_Evening_setStale KS.rfl') ?_
    rintro ⟨_, P8, F9, A10, J11⟩ k
    refine po_some ⟨?_, k.1.trans h2, k.2.2.trans h3⟩
    show UV 1 (F 4 2) (F9 4 2)
    rw [show F9 4 2 = F3 4 2 from k.2.1]
    rcases h1 with ⟨a, -, b⟩ | ⟨-, b, -⟩
    · exact .inl ⟨a, rfl, b⟩
    · exact absurd (by rw [b] <;> exact i_0) c
  · rw [i_nne, i_0] at c
    rcases h1 with ⟨-, b, -⟩ | ⟨a, -, b⟩
    · rw [b, i_1] at c
      exact absurd c (by decide)
    · exact .inr ⟨a, rfl, b⟩
theorem v_dUndo_21 : ∀ {n : Nat} {Fm : Nat → Int32} {Am : Nat → Nat → Int32} {Jm : Nat → Nat → Int64} {x1 : Int32}, po (d_undo_21 n Fm Am Jm x1) (fun r => r.1 = 1 ∧ KM Fm Am r.2.1 r.2.2.1) := by
  intro n
  induction n with
  | zero => intro Fm Am Jm x1 r hr; cases hr
  | succ n ih =>
    intro Fm Am Jm x1
    unfold d_undo_21
    refine po_cond (fun _ => po_some ⟨rfl, KM.rfl'⟩) (fun _ => ?_)
    refine po_bl (fun v4 _ => po_bl (fun A5 h5 => ?_))
    exact po_mono ih (fun r h => ⟨h.1, KM.tr ⟨rfl, rfl, (gg_st h5).2.2.1 61 (by decide)⟩ h.2⟩)
theorem v_dUndo : po (d_undo n Fm Am Jm) (fun r => UV r.1 (Fm 74) (r.2.1 74) ∧ r.2.1 77 = Fm 77 ∧ r.2.2.1 61 = Am 61) := by
  unfold d_undo
  refine po_cond (fun c => ?_) (fun c => po_some ⟨.inr ⟨?_, rfl, rfl⟩, rfl, rfl⟩)
  · rw [i_ne, i_0] at c
    refine po_bl (fun F2 h2 => ?_)
    have u := gg_pf h2
    exact po_mono v_dUndo_21 (fun r h => ⟨.inl ⟨c, h.1, h.2.2.1.trans u.1⟩, h.2.1.trans (u.2 77 (by decide)), h.2.2.2⟩)
  · rw [i_nne, i_0] at c
    exact c
theorem p2_undo (G : Gc P F A) (S : SAm Fm Am) (hc : CY P F A Fm Am) : P2 (e_SleepWork_undo P F A J) (d_undo n Fm Am Jm) (fun a b => a.1 = b.1 ∧ SCx a.2.2.1 b.2.1 b.2.2.1) :=
  p2_of v_cUndo v_dUndo (fun a b h h' => by
    obtain ⟨e1, e2⟩ := h.1.eq h'.1 hc.2.2.1
    exact ⟨e1, h.2.1.trans (hc.2.1.trans h'.2.1.symm), e2, fun s hs => by rw [h.2.2, h'.2.2]; exact hc.2.2.2 s hs⟩)
/-- night: nothing is said of its answer -/
def NV (c0 c1 : Int32) : Prop := (c0.toInt = 20 ∧ c1 = c0) ∨ (c0.toInt ≠ 20 ∧ c1 = c0 + 1)
theorem NV.eq {c0 c1 d0 d1 : Int32} (h : NV c0 c1) (h' : NV d0 d1) (e0 : c0 = d0) : c1 = d1 := by
  subst e0
  rcases h with ⟨h, rfl⟩ | ⟨h, rfl⟩
  · rcases h' with ⟨h', rfl⟩ | ⟨h', rfl⟩
    · rfl
    · exact absurd h h'
  · rcases h' with ⟨h', rfl⟩ | ⟨h', rfl⟩
    · exact absurd h' h
    · rfl
theorem v_cPush {r1 : Nat} : po (e_Past_push P F A J r1) (fun r => NV (F 4 2) (r.2.2.1 4 2) ∧ r.2.2.1 25 2 = F 25 2 ∧ r.2.2.1 0 10 = F 0 10) := by
  have l20 : (20 : Int32).toInt = 20 := by decide
  unfold e_Past_push
  refine po_cond (fun c => ?_) (fun c => ?_)
  · rw [i_ne, l20] at c
    refine po_bl (fun F2 h2 => ?_)
    have u := gg_cpf h2
    refine po_bl (fun _ _ => po_bl (fun _ _ => ?_))
    refine po_call (ks_e_State_copy KS.rfl') ?_
    rintro ⟨_, P6, F7, A8, J9⟩ k
    exact po_some ⟨.inr ⟨c, k.2.1.trans u.1⟩, k.1.trans (u.2 25 2 (by simp)), k.2.2.trans (u.2 0 10 (by simp))⟩
  · rw [i_nne, l20] at c
    refine po_bl (fun _ _ => po_bl (fun F11 h11 => ?_))
    have u := gg_cpf h11
    exact po_mono (ks_e_Past_push_35 KS.rfl') (fun r k => ⟨.inl ⟨c, k.2.1.trans (u.2 4 2 (by simp))⟩, k.1.trans (u.2 25 2 (by simp)), k.2.2.trans (u.2 0 10 (by simp))⟩)
theorem v_cNight : po (e_SleepWork_night n P F A J) (fun r => NV (F 4 2) (r.2.2.1 4 2) ∧ r.2.2.1 25 2 = F 25 2 ∧ r.2.2.1 0 10 = F 0 10) := by
  unfold e_SleepWork_night
  refine po_call v_cPush ?_
  rintro ⟨_, P2, F3, A4, J5⟩ ⟨h1, h2, h3⟩
  dsimp only at h1 h2 h3 ⊢
  refine po_bl (fun _ _ => po_bl (fun _ _ => ?_))
  refine po_call (ks_e_Evening_goBy KS.rfl') ?_
  rintro ⟨_, P9, F10, A11, J12⟩ k
  refine po_bl (fun _ _ => po_bl (fun _ _ => po_some ⟨?_, k.1.trans h2, k.2.2.trans h3⟩))
  show NV (F 4 2) (F10 4 2)
  rw [show F10 4 2 = F3 4 2 from k.2.1]
  exact h1
theorem v_dNight_51 : ∀ {n : Nat} {Fm : Nat → Int32} {Am : Nat → Nat → Int32} {Jm : Nat → Nat → Int64} {x1 : Int32}, po (d_night_51 n Fm Am Jm x1) (fun r => r.2.1 74 = Fm 74 + 1 ∧ r.2.1 77 = Fm 77 ∧ r.2.2.1 61 = Am 61) := by
  intro n
  induction n with
  | zero => intro Fm Am Jm x1 r hr; cases hr
  | succ n ih =>
    intro Fm Am Jm x1
    unfold d_night_51
    refine po_cond (fun _ => po_bl (fun F7 h7 => ?_)) (fun _ => ?_)
    · have u := gg_pf h7
      refine po_call (km_d_takes KM.rfl') ?_
      rintro ⟨_, F9, A10, J11⟩ k1
      refine po_call (km_d_wholeNight KM.rfl') ?_
      rintro ⟨v12, F13, A14, J15⟩ k2
      refine po_mono (km_d_night_104 KM.rfl') (fun r k3 => ?_)
      have k := (KM.tr k1 k2).tr k3
      exact ⟨k.2.1.trans u.1, k.1.trans (u.2 77 (by decide)), k.2.2⟩
    · refine po_bl (fun v16 _ => po_bl (fun A17 h17 => ?_))
      exact po_mono ih (fun r h => ⟨h.1, h.2.1, h.2.2.trans ((gg_st h17).2.2.1 61 (by decide))⟩)
theorem v_dNight_11 : ∀ {n : Nat} {Fm : Nat → Int32} {Am : Nat → Nat → Int32} {Jm : Nat → Nat → Int64} {x1 : Int32}, po (d_night_11 n Fm Am Jm x1) (fun r => r.2.1 74 = Fm 74 - 1 + 1 ∧ r.2.1 77 = Fm 77 ∧ r.2.2.1 61 = Am 61) := by
  intro n
  induction n with
  | zero => intro Fm Am Jm x1 r hr; cases hr
  | succ n ih =>
    intro Fm Am Jm x1
    unfold d_night_11
    refine po_cond (fun _ => po_bl (fun F3 h3 => ?_)) (fun _ => ?_)
    · have u := gg_pf h3
      exact po_mono v_dNight_51 (fun r h => ⟨by rw [← u.1]; exact h.1, h.2.1.trans (u.2 77 (by decide)), h.2.2⟩)
    · refine po_bl (fun v4 _ => po_bl (fun A5 h5 => ?_))
      exact po_mono ih (fun r h => ⟨h.1, h.2.1, h.2.2.trans ((gg_st h5).2.2.1 61 (by decide))⟩)
theorem v_dNight : po (d_night n Fm Am Jm) (fun r => NV (Fm 74) (r.2.1 74) ∧ r.2.1 77 = Fm 77 ∧ r.2.2.1 61 = Am 61) := by
  have l20 : (20 : Int32).toInt = 20 := by decide
  unfold d_night d_night_49
  refine po_cond (fun c => ?_) (fun c => ?_)
  · rw [i_ne, l20] at c
    exact po_mono v_dNight_51 (fun r h => ⟨.inr ⟨c, h.1⟩, h.2⟩)
  · rw [i_nne, l20] at c
    have e : Fm 74 = 20 := i_ext (c.trans l20.symm)
    exact po_mono v_dNight_11 (fun r h => ⟨.inl ⟨c, h.1.trans (by rw [e] <;> decide)⟩, h.2⟩)
theorem p2_night (G : Gc P F A) (S : SAm Fm Am) (hc : CY P F A Fm Am) : P2 (e_SleepWork_night n2 P F A J) (d_night n Fm Am Jm) (fun a b => True ∧ SCx a.2.2.1 b.2.1 b.2.2.1) :=
  p2_of v_cNight v_dNight (fun a b h h' => ⟨trivial, h.2.1.trans (hc.2.1.trans h'.2.1.symm), h.1.eq h'.1 hc.2.2.1, fun s hs => by rw [h.2.2, h'.2.2]; exact hc.2.2.2 s hs⟩)
/-- read: a good text empties all three -/
theorem po_move2 : po (e_SleepWork_moveIn P F A J) (fun r => r.2.2.1 25 2 = 0 ∧ r.2.2.1 4 2 = 0 ∧ r.2.2.1 0 10 = 0) := by
  unfold e_SleepWork_moveIn
  refine po_bl (fun _ _ => po_bl (fun _ _ => po_bl (fun P3 _ => po_bl (fun P4 _ => ?_))))
  refine po_call (R := fun _ => True) (fun _ _ => trivial) ?_
  rintro ⟨_, P6, F7, A8, J9⟩ -
  refine po_bl (fun Fa ha => ?_)
  have ua := gg_cpf ha
  refine po_bl (fun Fb hb => ?_)
  have ub := gg_cpf hb
  refine po_bl (fun Fc hc => ?_)
  have uc := gg_cpf hc
  refine po_bl (fun _ _ => ?_)
  refine po_call (ks_e_Evening_enter KS.rfl') ?_
  rintro ⟨_, P15, F16, A17, J18⟩ k
  exact po_some ⟨k.1.trans ((uc.2 25 2 (by simp)).trans ub.1), k.2.1.trans ((uc.2 4 2 (by simp)).trans ((ub.2 4 2 (by simp)).trans ua.1)), k.2.2.trans uc.1⟩
/-- what a text, good or bad, leaves of the reference's scalars -/
def RDx (Fr : Nat → Int32) (Ar : Nat → Nat → Int32) (r : Int32 × (Nat → Int32) × (Nat → Nat → Int32) × (Nat → Nat → Int64)) : Prop := (r.1.toInt ≠ 0 ∧ KM Fr Ar r.2.1 r.2.2.1) ∨ (r.1.toInt = 0 ∧ r.2.1 77 = 0 ∧ r.2.1 74 = 0 ∧ ∀ s : Nat, s < 3 → r.2.2.1 61 s = 0)
theorem v_r322 : ∀ {n : Nat} {Fm : Nat → Int32} {Am : Nat → Nat → Int32} {Jm : Nat → Nat → Int64} {x1 : Int32}, 0 ≤ x1.toInt → Fm 77 = 0 → Fm 74 = 0 → (∀ s : Nat, (s : Int) < x1.toInt → Am 61 s = 0) → po (d_read_322 n Fm Am Jm x1) (RDx Fr Ar) := by
  have l3 : (3 : Int32).toInt = 3 := by decide
  intro n
  induction n with
  | zero => intro Fm Am Jm x1 _ _ _ _ r hr; cases hr
  | succ n ih =>
    intro Fm Am Jm x1 x0 e7 e4 hz
    unfold d_read_322
    refine po_cond (fun c => ?_) (fun c => ?_)
    · rw [i_ge, l3] at c
      exact po_some (.inr ⟨i_0, e7, e4, fun s hs => hz s (by omega)⟩)
    · rw [i_nge, l3] at c
      refine po_bl (fun A8 h8 => ?_)
      have u := gg_st h8
      have ea := i_add (x := x1) (y := 1) (by rw [i_1]; omega) (by rw [i_1]; omega)
      rw [i_1] at ea
      refine ih (by omega) e7 e4 (fun s hs => ?_)
      by_cases e : (s : Int) = x1.toInt
      · refine i_ext ?_
        have w := u.2.2.2.1
        unfold ai at w
        rw [← e, Int.toNat_natCast] at w
        rw [w] <;> decide
      · refine (i_ext ?_ : A8 61 s = Am 61 s).trans (hz s (by omega))
        have w := u.2.2.2.2 (s : Int) (by omega) e
        unfold ai at w
        rw [Int.toNat_natCast] at w
        exact w
theorem v_r271 {s1 : Int32} (h : KM Fr Ar Fm Am) : po (d_read_271 n Fm Am Jm s1) (RDx Fr Ar) := by
  unfold d_read_271
  refine km_pf h (by decide) (fun F7 h7 => ?_)
  refine po_cond (fun c => ?_) (fun c => ?_)
  · refine po_cond (fun c2 => ?_) (fun c2 => ?_)
    · refine po_bl (fun F0 _ => ?_)
      refine po_call (R := fun _ => True) (fun _ _ => trivial) ?_
      rintro ⟨_, F2, A3, J4⟩ -
      refine po_bl (fun F5 h5 => ?_)
      have u5 := gg_pf h5
      refine po_bl (fun F6 h6 => ?_)
      have u6 := gg_pf h6
      exact v_r322 (by decide) u6.1 ((u6.2 74 (by decide)).trans u5.1) (fun s hs => absurd hs (by rw [i_0]; omega))
    · rw [i_nle, i_0] at c2
      exact po_some (.inl ⟨by show (F7 15).toInt ≠ 0; omega, h7⟩)
  · rw [i_nle, i_0] at c
    exact po_some (.inl ⟨by show (F7 13).toInt ≠ 0; omega, h7⟩)
theorem v_r241 (h : KM Fr Ar Fm Am) : po (d_read_241 n Fm Am Jm) (RDx Fr Ar) := by
  unfold d_read_241
  exact po_cond (fun _ => po_cond (fun _ => v_r271 h) (fun _ => v_r271 h)) (fun _ => v_r271 h)
theorem v_r219 : ∀ {n : Nat} {Fm : Nat → Int32} {Am : Nat → Nat → Int32} {Jm : Nat → Nat → Int64}, KM Fr Ar Fm Am → po (d_read_219 n Fm Am Jm) (RDx Fr Ar) := by
  intro n
  induction n with
  | zero => intro Fm Am Jm _ r hr; cases hr
  | succ n ih =>
    intro Fm Am Jm h
    unfold d_read_219
    refine po_cond (fun _ => v_r241 h) (fun _ => po_bl (fun _ _ => po_cond (fun _ => v_r241 h) (fun _ => ?_)))
    refine po_call (km_d_tell0 h) ?_
    rintro ⟨_, F2, A3, J4⟩ k
    exact ih k
theorem v_r177 : ∀ {n : Nat} {Fm : Nat → Int32} {Am : Nat → Nat → Int32} {Jm : Nat → Nat → Int64} {x1 : Int32}, KM Fr Ar Fm Am → po (d_read_177 n Fm Am Jm x1) (RDx Fr Ar) := by
  intro n
  induction n with
  | zero => intro Fm Am Jm x1 _ r hr; cases hr
  | succ n ih =>
    intro Fm Am Jm x1 h
    unfold d_read_177
    refine po_cond (fun _ => v_r219 h) (fun _ => ?_)
    refine km_st h (by decide) (fun A6 h6 => ?_)
    refine km_st h6 (by decide) (fun A7 h7 => ?_)
    exact ih h7
theorem v_r10 : ∀ {n : Nat} {Fm : Nat → Int32} {Am : Nat → Nat → Int32} {Jm : Nat → Nat → Int64} {x1 : Int32}, KM Fr Ar Fm Am → po (d_read_10 n Fm Am Jm x1) (RDx Fr Ar) := by
  intro n
  induction n with
  | zero => intro Fm Am Jm x1 _ r hr; cases hr
  | succ n ih =>
    intro Fm Am Jm x1 h
    unfold d_read_10
    refine po_cond (fun _ => ?_) (fun _ => ?_)
    · refine km_pf h (by decide) (fun F3 h3 => ?_)
      refine po_call (km_d_cut h3) ?_
      rintro ⟨_, F5, A6, J7⟩ k
      refine km_pf k (by decide) (fun F8 h8 => ?_)
      refine km_pf h8 (by decide) (fun F9 h9 => ?_)
      refine km_pf h9 (by decide) (fun F10 h10 => ?_)
      refine km_pf h10 (by decide) (fun F11 h11 => ?_)
      refine km_pf h11 (by decide) (fun F12 h12 => ?_)
      refine km_pf h12 (by decide) (fun F13 h13 => ?_)
      refine km_st h13 (by decide) (fun A14 h14 => ?_)
      refine km_st h14 (by decide) (fun A15 h15 => ?_)
      refine km_st h15 (by decide) (fun A16 h16 => ?_)
      refine km_st h16 (by decide) (fun A17 h17 => ?_)
      refine km_st h17 (by decide) (fun A18 h18 => ?_)
      refine km_st h18 (by decide) (fun A19 h19 => ?_)
      refine km_st h19 (by decide) (fun A20 h20 => ?_)
      refine km_pf h20 (by decide) (fun F21 h21 => ?_)
      refine km_pf h21 (by decide) (fun F22 h22 => ?_)
      exact v_r177 h22
    · refine po_bl (fun v23 _ => ?_)
      refine km_st h (by decide) (fun A24 h24 => ?_)
      exact ih h24
theorem v_dRead6 : po (d_read n Fm Am Jm) (RDx Fm Am) := by
  unfold d_read
  exact km_pf KM.rfl' (by decide) (fun F1 h1 => v_r10 h1)
theorem v_cRead6 (G : Gc P F A) (hn : 6000 ≤ n) : po (e_SleepWork_read n P F A J) (fun r => (r.1.toInt ≠ 0 ∧ KS F r.2.2.1) ∨ (r.1.toInt = 0 ∧ r.2.2.1 25 2 = 0 ∧ r.2.2.1 4 2 = 0 ∧ r.2.2.1 0 10 = 0)) := by
  have hl := G.k09
  have q1 : ∀ {r : Nat}, c_kind r ≠ 6 → r ≠ P 0 9 := fun h e => h (by rw [e]; exact hl)
  unfold e_SleepWork_read
  refine po_bl (fun _ h1 => ?_)
  obtain ⟨hk, rfl⟩ := gg_chk h1
  refine po_call (s_rt (J := J) G hn).po ?_
  rintro ⟨v2, P3, F4, A5, J6⟩ ⟨oP, t1, t2, t3, t4, t5⟩
  dsimp only at t3 ⊢
  refine po_bl (fun v7 _ => ?_)
  refine po_bl (fun F8 h8 => ?_)
  have u8 := gg_cpf h8
  refine po_bl (fun F9 h9 => ?_)
  have u9 := gg_cpf h9
  refine po_cond (fun c => ?_) (fun c => ?_)
  · rw [i_ne, i_0] at c
    exact po_some (.inl ⟨c, (u9.2 25 2 (by simp)).trans ((u8.2 25 2 (by simp)).trans (t3 25 2 (by decide) (q1 (by decide)) (by decide))), (u9.2 4 2 (by simp)).trans ((u8.2 4 2 (by simp)).trans (t3 4 2 (by decide) (q1 (by decide)) (by decide))), (u9.2 0 10 (by simp)).trans ((u8.2 0 10 (by simp)).trans (t3 0 10 (by decide) (q1 (by decide)) (by decide)))⟩)
  · rw [i_nne, i_0] at c
    refine po_call po_move2 ?_
    rintro ⟨_, P12, F13, A14, J15⟩ k
    exact po_some (.inr ⟨c, k⟩)
theorem p2_cread6 {n m : Nat} {JW JK : Nat → Int64} (hW : WKx JW JK) (G : Gc P F A) (S : SAm Fm Am) (tp : TPx F A Fm Am) (hc : CY P F A Fm Am) (jw : J 37 6 = JW) (jk : Jm 7 = JK) (hn : 6000 ≤ n) (hm : 12100 ≤ m) : P2 (e_SleepWork_read n P F A J) (d_read m Fm Am Jm) (fun a b => (a.1 = b.1 ∧ JP JW a ∧ JQ JK b) ∧ CY a.2.1 a.2.2.1 a.2.2.2.1 b.2.1 b.2.2.1) := fun a b ha hb => by
  obtain ⟨h1, h2⟩ := p2_cread5 hW G S tp hc.1 jw jk hn hm a b ha hb
  refine ⟨h1, h2, ?_⟩
  have hc2 := v_cRead6 G hn a ha
  have hd := v_dRead6 b hb
  dsimp only at hc2
  rw [h1.1] at hc2
  rcases hc2 with ⟨e, k⟩ | ⟨e, k1, k2, k3⟩
  · rcases hd with ⟨-, k'⟩ | ⟨e', -⟩
    · exact (hc.2.c k).m k'
    · exact absurd e' e
  · rcases hd with ⟨e', -⟩ | ⟨-, d1, d2, d3⟩
    · exact absurd e e'
    · refine ⟨k1.trans d1.symm, k2.trans d2.symm, fun s hs => ?_⟩
      unfold HB
      rw [k3, d3 s hs]
      have := b_none ⟨s, hs⟩
      exact ⟨fun h => absurd this h, fun h => absurd rfl h⟩
end H9ex2
end Qz131
section Qz132
/-! ways: both sides' rows of shortest ways, side by side (the class over the house's rooms, the reference over eight) -/
section H9ey
variable {r : Int} {d : Nat} {P : Nat → Nat → Nat} {F : Nat → Nat → Int32} {A A' : Nat → Nat → Nat → Int32} {J : Nat → Nat → Nat → Int64} {Fm : Nat → Int32} {Am Am' : Nat → Nat → Int32} {Jm : Nat → Nat → Int64} {a b x v y f t : Int32}
def mx (Am : Nat → Nat → Int32) (i j : Int) : Int := ai Am 49 (8 * i + j)
def cx (A : Nat → Nat → Nat → Int32) (i j : Int) : Int := ci A 36 2 (i * 8 + j)
theorem w_ix (a0 : 0 ≤ a.toInt) (a1 : a.toInt < 8) (b0 : 0 ≤ b.toInt) (b1 : b.toInt < 8) : (8 * a + b).toInt = 8 * a.toInt + b.toInt := by
  have m8 := i_mulL (c := 8) (k := 8) (x := a) (by decide) (by omega) (by omega)
  rw [i_add (by omega) (by omega), m8]
theorem w_jx (a0 : 0 ≤ a.toInt) (a1 : a.toInt < 8) (b0 : 0 ≤ b.toInt) (b1 : b.toInt < 8) : (a * 8 + b).toInt = a.toInt * 8 + b.toInt := by
  have m8 := i_mulR (c := 8) (k := 8) (x := a) (by decide) (by omega) (by omega)
  rw [i_add (by omega) (by omega), m8]
theorem mx_ld (h : m_ld (Am 49) 64 (8 * a + b) = some v) (a0 : 0 ≤ a.toInt) (a1 : a.toInt < 8) (b0 : 0 ≤ b.toInt) (b1 : b.toInt < 8) : v.toInt = mx Am a.toInt b.toInt := by
  rw [(gg_ld h).2.2, w_ix a0 a1 b0 b1]
  rfl
theorem cx_ld (h : m_ld (A 36 2) 64 (a * 8 + b) = some v) (a0 : 0 ≤ a.toInt) (a1 : a.toInt < 8) (b0 : 0 ≤ b.toInt) (b1 : b.toInt < 8) : v.toInt = cx A a.toInt b.toInt := by
  rw [(gg_ld h).2.2, w_jx a0 a1 b0 b1]
  rfl
theorem mx_st (h : m_st Am 49 64 (8 * a + b) x = some Am') (a0 : 0 ≤ a.toInt) (a1 : a.toInt < 8) (b0 : 0 ≤ b.toInt) (b1 : b.toInt < 8) : mx Am' a.toInt b.toInt = x.toInt ∧ ∀ i j : Int, 0 ≤ i → i < 8 → 0 ≤ j → j < 8 → ¬ (i = a.toInt ∧ j = b.toInt) → mx Am' i j = mx Am i j := by
  have g := gg_st h
  rw [w_ix a0 a1 b0 b1] at g
  exact ⟨g.2.2.2.1, fun i j i0 i1 j0 j1 hn => g.2.2.2.2 (8 * i + j) (by omega) (by omega)⟩
theorem cx_st (h : c_st A 36 2 64 (a * 8 + b) x = some A') (a0 : 0 ≤ a.toInt) (a1 : a.toInt < 8) (b0 : 0 ≤ b.toInt) (b1 : b.toInt < 8) : cx A' a.toInt b.toInt = x.toInt ∧ ∀ i j : Int, 0 ≤ i → i < 8 → 0 ≤ j → j < 8 → ¬ (i = a.toInt ∧ j = b.toInt) → cx A' i j = cx A i j := by
  have g := (gg_cst h).2.2
  rw [w_jx a0 a1 b0 b1] at g
  exact ⟨g.1, fun i j i0 i1 j0 j1 hn => g.2.1 (i * 8 + j) (by omega) (by omega)⟩
/-- the reference's row: in bounds, and idle beyond the rooms -/
def WIx (r : Int) (Am : Nat → Nat → Int32) : Prop := ∀ i j : Int, 0 ≤ i → i < 8 → 0 ≤ j → j < 8 → (0 ≤ mx Am i j ∧ mx Am i j ≤ 1000000) ∧ (r ≤ i ∨ r ≤ j → mx Am i j = if i = j then 0 else 1000000)
/-- both rows agree on the rooms -/
def WWx (r : Int) (A : Nat → Nat → Nat → Int32) (Am : Nat → Nat → Int32) : Prop := WIx r Am ∧ ∀ i j : Int, 0 ≤ i → i < r → 0 ≤ j → j < r → cx A i j = mx Am i j
theorem WIx.idle (w : WIx r Am) {i k j : Int} (i0 : 0 ≤ i) (i1 : i < 8) (k0 : 0 ≤ k) (k1 : k < 8) (j0 : 0 ≤ j) (j1 : j < 8) (h : r ≤ i ∨ r ≤ k ∨ r ≤ j ∨ mx Am i k = 1000000) : mx Am i j ≤ mx Am i k + mx Am k j := by
  have a := w i k i0 i1 k0 k1
  have b := w k j k0 k1 j0 j1
  have c := w i j i0 i1 j0 j1
  have a1 := a.1
  have b1 := b.1
  have c1 := c.1
  by_cases e : i = k
  · subst e
    omega
  · by_cases e2 : k = j
    · subst e2
      omega
    · rcases h with h | h | h | h
      · have := a.2 (.inl h)
        rw [if_neg e] at this
        omega
      · have := a.2 (.inr h)
        rw [if_neg e] at this
        omega
      · have := b.2 (.inr h)
        rw [if_neg e2] at this
        omega
      · omega
theorem WWx.st (w : WWx r A Am) (hr : r ≤ 8) (a0 : 0 ≤ a.toInt) (a1 : a.toInt < r) (b0 : 0 ≤ b.toInt) (b1 : b.toInt < r) {u : Int32} (e : x.toInt = u.toInt) (u0 : 0 ≤ u.toInt) (u1 : u.toInt ≤ 1000000) (h : c_st A 36 2 64 (a * 8 + b) x = some A') (h' : m_st Am 49 64 (8 * a + b) u = some Am') : WWx r A' Am' := by
  have g := cx_st h a0 (by omega) b0 (by omega)
  have g' := mx_st h' a0 (by omega) b0 (by omega)
  refine ⟨fun i j i0 i1 j0 j1 => ?_, fun i j i0 i1 j0 j1 => ?_⟩
  · by_cases c : i = a.toInt ∧ j = b.toInt
    · obtain ⟨rfl, rfl⟩ := c
      rw [g'.1]
      exact ⟨⟨u0, u1⟩, fun h => by omega⟩
    · rw [g'.2 i j i0 i1 j0 j1 c]
      exact w.1 i j i0 i1 j0 j1
  · by_cases c : i = a.toInt ∧ j = b.toInt
    · obtain ⟨rfl, rfl⟩ := c
      rw [g'.1, g.1, e]
    · rw [g'.2 i j i0 (by omega) j0 (by omega) c, g.2 i j i0 (by omega) j0 (by omega) c]
      exact w.2 i j i0 i1 j0 j1
/-! the reference alone, where nothing changes -/
section W9
variable {α : Type} {z : Option α} {Q : α → mR Unit → Prop} {K170 : (Nat → Int32) → (Nat → Nat → Int32) → (Nat → Nat → Int64) → Int32 → Option (mR Unit)} {K178 : (Nat → Int32) → (Nat → Nat → Int32) → (Nat → Nat → Int64) → Int32 → Int32 → Option (mR Unit)}
theorem r_186 : ∀ {m : Nat} {t : Int32}, 0 ≤ y.toInt → y.toInt < 8 → 0 ≤ f.toInt → f.toInt < 8 → 0 ≤ t.toInt → WIx r Am → (∀ j : Int, t.toInt ≤ j → j < 8 → mx Am f.toInt j ≤ mx Am f.toInt y.toInt + mx Am y.toInt j) → P2 z (K178 Fm Am Jm y (f + 1)) Q → P2 z (d_fillsWays_186 K170 K178 m Fm Am Jm y f t) Q := by
  have l8 : (8 : Int32).toInt = 8 := by decide
  intro m
  induction m with
  | zero => intro t _ _ _ _ _ _ _ _ a b _ hb; cases hb
  | succ m ih =>
    intro t y0 y1 f0 f1 t0 w hi k
    unfold d_fillsWays_186
    refine p2_cr (fun _ => k) (fun c => ?_)
    rw [i_nge, l8] at c
    refine p2_br (fun v20 h20 => p2_br (fun v21 h21 => p2_br (fun v22 h22 => ?_)))
    have e20 := mx_ld h20 f0 f1 y0 y1
    have e21 := mx_ld h21 y0 y1 t0 c
    have e22 := mx_ld h22 f0 f1 t0 c
    have b20 := (w f.toInt y.toInt f0 f1 y0 y1).1
    have b21 := (w y.toInt t.toInt y0 y1 t0 c).1
    have s := i_add (x := v20) (y := v21) (by omega) (by omega)
    have ht := hi t.toInt (by omega) c
    have et := i_add (x := t) (y := 1) (by rw [i_1]; omega) (by rw [i_1]; omega)
    rw [i_1] at et
    refine p2_cr (fun _ => ?_) (fun c2 => ?_)
    · unfold d_fillsWays_263
      exact ih y0 y1 f0 f1 (by omega) w (fun j h1 h2 => hi j (by omega) h2) k
    · rw [i_nge] at c2
      omega
theorem r_178 : ∀ {m : Nat} {f : Int32}, 0 ≤ y.toInt → y.toInt < 8 → 0 ≤ f.toInt → WIx r Am → (r ≤ f.toInt ∨ r ≤ y.toInt) → P2 z (K170 Fm Am Jm (y + 1)) Q → P2 z (d_fillsWays_178 K170 m Fm Am Jm y f) Q := by
  have l8 : (8 : Int32).toInt = 8 := by decide
  intro m
  induction m with
  | zero => intro f _ _ _ _ _ _ a b _ hb; cases hb
  | succ m ih =>
    intro f y0 y1 f0 w h k
    unfold d_fillsWays_178
    refine p2_cr (fun _ => k) (fun c => ?_)
    rw [i_nge, l8] at c
    have ef := i_add (x := f) (y := 1) (by rw [i_1]; omega) (by rw [i_1]; omega)
    rw [i_1] at ef
    exact r_186 y0 y1 f0 c (by decide) w (fun j h1 h2 => w.idle f0 c y0 y1 (by rw [i_0] at h1; exact h1) h2 (h.elim .inl (fun h => .inr (.inl h)))) (ih y0 y1 (by omega) w (h.imp (fun h => by omega) id) k)
theorem r_170 {a : α} (q : Q a ((), Fm, Am, Jm)) : ∀ {m : Nat} {y : Int32}, 0 ≤ y.toInt → WIx r Am → r ≤ y.toInt → P2 (some a) (d_fillsWays_170 m Fm Am Jm y) Q := by
  have l8 : (8 : Int32).toInt = 8 := by decide
  intro m
  induction m with
  | zero => intro y _ _ _ a b _ hb; cases hb
  | succ m ih =>
    intro y y0 w h
    unfold d_fillsWays_170
    refine p2_cr (fun _ => p2_some q) (fun c => ?_)
    rw [i_nge, l8] at c
    have ey := i_add (x := y) (y := 1) (by rw [i_1]; omega) (by rw [i_1]; omega)
    rw [i_1] at ey
    exact r_178 y0 c (by decide) w (.inr h) (ih (by omega) w (by omega))
end W9
/-! both at once: the ways are joined -/
section W9b
variable {x1 : Int32} {Q : cR Unit → mR Unit → Prop} {K2 : (Nat → Nat → Nat) → (Nat → Nat → Int32) → (Nat → Nat → Nat → Int32) → (Nat → Nat → Nat → Int64) → Int32 → Int32 → Option (cR Unit)} {K9 : (Nat → Nat → Nat) → (Nat → Nat → Int32) → (Nat → Nat → Nat → Int32) → (Nat → Nat → Nat → Int64) → Int32 → Int32 → Int32 → Option (cR Unit)} {K170 : (Nat → Int32) → (Nat → Nat → Int32) → (Nat → Nat → Int64) → Int32 → Option (mR Unit)} {K178 : (Nat → Int32) → (Nat → Nat → Int32) → (Nat → Nat → Int64) → Int32 → Int32 → Option (mR Unit)}
theorem p2_30 (hr : r ≤ 8) (hx : x1.toInt = r) (y0 : 0 ≤ y.toInt) (y1 : y.toInt < r) (f0 : 0 ≤ f.toInt) (f1 : f.toInt < r) (kk : ∀ {A : Nat → Nat → Nat → Int32} {Am : Nat → Nat → Int32}, WWx r A Am → P2 (K9 P F A J x1 y (f + 1)) (K178 Fm Am Jm y (f + 1)) Q) : ∀ {n m : Nat} {A : Nat → Nat → Nat → Int32} {Am : Nat → Nat → Int32} {t : Int32}, WWx r A Am → 0 ≤ t.toInt → v.toInt = mx Am f.toInt y.toInt → P2 (e_Ways_joinWays_30 K2 K9 n P F A J x1 y f v t) (d_fillsWays_186 K170 K178 m Fm Am Jm y f t) Q := by
  have l8 : (8 : Int32).toInt = 8 := by decide
  have lM : (1000000 : Int32).toInt = 1000000 := by decide
  intro n
  induction n with
  | zero => intro m A Am t _ _ _ a b ha; cases ha
  | succ n ih =>
    intro m A Am t w t0 ev
    have bv := (w.1 f.toInt y.toInt f0 (by omega) y0 (by omega)).1
    unfold e_Ways_joinWays_30
    refine p2_cl (fun c => ?_) (fun c => ?_)
    · rw [i_ge, hx] at c
      unfold e_Ways_joinWays_97
      exact r_186 y0 (by omega) f0 (by omega) t0 w.1 (fun j h1 h2 => w.1.idle f0 (by omega) y0 (by omega) (by omega) h2 (.inr (.inr (.inl (by omega))))) (kk w)
    rw [i_nge, hx] at c
    refine p2_cl (fun c2 => ?_) (fun c2 => ?_)
    · rw [i_ge, lM] at c2
      unfold e_Ways_joinWays_97
      exact r_186 y0 (by omega) f0 (by omega) t0 w.1 (fun j h1 h2 => w.1.idle f0 (by omega) y0 (by omega) (by omega) h2 (.inr (.inr (.inr (by omega))))) (kk w)
    rw [i_nge, lM] at c2
    cases m with
    | zero => intro a b _ hb; cases hb
    | succ m =>
      unfold d_fillsWays_186
      refine p2_cr (fun c3 => ?_) (fun _ => ?_)
      · rw [i_ge, l8] at c3
        omega
      refine p2_bl (fun v6 h6 => p2_bl (fun v7 h7 => ?_))
      refine p2_br (fun v20 h20 => p2_br (fun v21 h21 => p2_br (fun v22 h22 => ?_)))
      have e6 := (cx_ld h6 y0 (by omega) t0 (by omega)).trans (w.2 y.toInt t.toInt y0 y1 t0 c)
      have e7 := (cx_ld h7 f0 (by omega) t0 (by omega)).trans (w.2 f.toInt t.toInt f0 f1 t0 c)
      have e20 := mx_ld h20 f0 (by omega) y0 (by omega)
      have e21 := mx_ld h21 y0 (by omega) t0 (by omega)
      have e22 := mx_ld h22 f0 (by omega) t0 (by omega)
      have b21 := (w.1 y.toInt t.toInt y0 (by omega) t0 (by omega)).1
      have b22 := (w.1 f.toInt t.toInt f0 (by omega) t0 (by omega)).1
      have s1 := i_add (x := v) (y := v6) (by omega) (by omega)
      have s2 := i_add (x := v20) (y := v21) (by omega) (by omega)
      have et := i_add (x := t) (y := 1) (by rw [i_1]; omega) (by rw [i_1]; omega)
      rw [i_1] at et
      refine p2_cl (fun d1 => ?_) (fun d1 => ?_)
      · rw [i_ge] at d1
        refine p2_cr (fun _ => ?_) (fun d2 => ?_)
        · unfold e_Ways_joinWays_91 d_fillsWays_263
          exact ih w (by omega) ev
        · rw [i_nge] at d2
          omega
      · rw [i_nge] at d1
        refine p2_cr (fun d2 => ?_) (fun _ => ?_)
        · rw [i_ge] at d2
          omega
        · refine p2_bl (fun A9 h9 => ?_)
          refine p2_br (fun v24 h24 => p2_br (fun v25 h25 => p2_br (fun A26 h26 => ?_)))
          have e24 := mx_ld h24 f0 (by omega) y0 (by omega)
          have e25 := mx_ld h25 y0 (by omega) t0 (by omega)
          have s3 := i_add (x := v24) (y := v25) (by omega) (by omega)
          refine ih (w.st hr f0 f1 t0 c (by omega) (by omega) (by omega) h9 h26) (by omega) ?_
          have ne : ¬ (f.toInt = f.toInt ∧ y.toInt = t.toInt) := by
            rintro ⟨-, e⟩
            rw [e, ← e7] at ev
            omega
          rw [(mx_st h26 f0 (by omega) t0 (by omega)).2 f.toInt y.toInt f0 (by omega) y0 (by omega) ne]
          exact ev
theorem p2_9 (hr : r ≤ 8) (hx : x1.toInt = r) (y0 : 0 ≤ y.toInt) (y1 : y.toInt < r) (kk : ∀ {A : Nat → Nat → Nat → Int32} {Am : Nat → Nat → Int32}, WWx r A Am → P2 (K2 P F A J x1 (y + 1)) (K170 Fm Am Jm (y + 1)) Q) : ∀ {n m : Nat} {A : Nat → Nat → Nat → Int32} {Am : Nat → Nat → Int32} {f : Int32}, WWx r A Am → 0 ≤ f.toInt → P2 (e_Ways_joinWays_9 K2 n P F A J x1 y f) (d_fillsWays_178 K170 m Fm Am Jm y f) Q := by
  have l8 : (8 : Int32).toInt = 8 := by decide
  intro n
  induction n with
  | zero => intro m A Am f _ _ a b ha; cases ha
  | succ n ih =>
    intro m A Am f w f0
    unfold e_Ways_joinWays_9
    refine p2_cl (fun c => ?_) (fun c => ?_)
    · rw [i_ge, hx] at c
      exact r_178 y0 (by omega) f0 w.1 (.inl c) (kk w)
    rw [i_nge, hx] at c
    refine p2_bl (fun v3 h3 => ?_)
    have e3 := (cx_ld h3 f0 (by omega) y0 (by omega)).trans (w.2 f.toInt y.toInt f0 c y0 y1)
    cases m with
    | zero => intro a b _ hb; cases hb
    | succ m =>
      unfold d_fillsWays_178
      refine p2_cr (fun c3 => ?_) (fun _ => ?_)
      · rw [i_ge, l8] at c3
        omega
      have ef := i_add (x := f) (y := 1) (by rw [i_1]; omega) (by rw [i_1]; omega)
      rw [i_1] at ef
      exact p2_30 hr hx y0 y1 f0 c (fun w' => ih w' (by omega)) w (by decide) e3
theorem p2_2 (hr : r ≤ 8) (hx : x1.toInt = r) (q : ∀ {A : Nat → Nat → Nat → Int32} {Am : Nat → Nat → Int32}, WWx r A Am → Q ((), P, F, A, J) ((), Fm, Am, Jm)) : ∀ {n m : Nat} {A : Nat → Nat → Nat → Int32} {Am : Nat → Nat → Int32} {y : Int32}, WWx r A Am → 0 ≤ y.toInt → P2 (e_Ways_joinWays_2 n P F A J x1 y) (d_fillsWays_170 m Fm Am Jm y) Q := by
  have l8 : (8 : Int32).toInt = 8 := by decide
  intro n
  induction n with
  | zero => intro m A Am y _ _ a b ha; cases ha
  | succ n ih =>
    intro m A Am y w y0
    unfold e_Ways_joinWays_2
    refine p2_cl (fun c => ?_) (fun c => ?_)
    · rw [i_ge, hx] at c
      exact r_170 (q w) y0 w.1 c
    rw [i_nge, hx] at c
    cases m with
    | zero => intro a b _ hb; cases hb
    | succ m =>
      unfold d_fillsWays_170
      refine p2_cr (fun c3 => ?_) (fun _ => ?_)
      · rw [i_ge, l8] at c3
        omega
      have ey := i_add (x := y) (y := 1) (by rw [i_1]; omega) (by rw [i_1]; omega)
      rw [i_1] at ey
      exact p2_9 hr hx y0 c (fun w' => ih w' (by omega)) w (by decide)
end W9b
/-! the doors -/
theorem p2_bbl {α β γ δ : Type} {o : Option α} {fo : α → Option β} {g : β → Option γ} {z : Option δ} {Q : γ → δ → Prop} (h : ∀ a, o = some a → P2 ((fo a).bind g) z Q) : P2 ((o.bind fo).bind g) z Q := by
  intro x y hx hy
  obtain ⟨q, hq, hx⟩ := Option.bind_eq_some_iff.mp hx
  obtain ⟨a, ha, hq⟩ := Option.bind_eq_some_iff.mp hq
  exact h a ha x y (Option.bind_eq_some_iff.mpr ⟨q, hq, hx⟩) hy
def SYx (r : Int) (Am : Nat → Nat → Int32) : Prop := ∀ i j : Int, 0 ≤ i → i < r → 0 ≤ j → j < r → mx Am i j = mx Am j i
/-- the doors of the house, on both sides -/
def DRx (r nd : Int) (d : Nat) (F : Nat → Nat → Int32) (A : Nat → Nat → Nat → Int32) (Fm : Nat → Int32) (Am : Nat → Nat → Int32) : Prop := (F d 14).toInt = nd ∧ (Am 12 (Fm 18).toInt.toNat).toInt = nd ∧ 0 ≤ (Fm 18).toInt ∧ (Fm 18).toInt ≤ 1 ∧ ∀ k : Int, 0 ≤ k → k < nd → (0 ≤ ci A d 1 k ∧ ci A d 1 k < r) ∧ (0 ≤ ci A d 2 k ∧ ci A d 2 k < r) ∧ (0 ≤ ci A d 3 k ∧ ci A d 3 k ≤ 1000000) ∧ ci A d 1 k = ai Am 13 (12 * (Fm 18).toInt + k) ∧ ci A d 2 k = ai Am 14 (12 * (Fm 18).toInt + k) ∧ ci A d 3 k = ai Am 15 (12 * (Fm 18).toInt + k)
theorem DRx.fr {nd : Int} (h : DRx r nd d F A Fm Am) (hA : ∀ o, A' d o = A d o) (hm : ∀ q, q ≠ 49 → Am' q = Am q) : DRx r nd d F A' Fm Am' := by
  unfold DRx
  rw [ci_fr (hA 1), ci_fr (hA 2), ci_fr (hA 3), hm 12 (by decide), ai_fr (hm 13 (by decide)), ai_fr (hm 14 (by decide)), ai_fr (hm 15 (by decide))]
  exact h
/-- both rows after a store of the reference's own value -/
theorem WWx.same (w : WWx r A Am) (hr : r ≤ 8) (a0 : 0 ≤ a.toInt) (a1 : a.toInt < r) (b0 : 0 ≤ b.toInt) (b1 : b.toInt < r) (e : x.toInt = mx Am a.toInt b.toInt) (h : c_st A 36 2 64 (a * 8 + b) x = some A') : WWx r A' Am := by
  have g := cx_st h a0 (by omega) b0 (by omega)
  refine ⟨w.1, fun i j i0 i1 j0 j1 => ?_⟩
  by_cases c : i = a.toInt ∧ j = b.toInt
  · obtain ⟨rfl, rfl⟩ := c
    rw [g.1, e]
  · rw [g.2 i j i0 (by omega) j0 (by omega) c]
    exact w.2 i j i0 i1 j0 j1
theorem p2_39 {nd : Int} {sh sv : Int32} {Q : cR Unit → mR Unit → Prop} {g : cR Unit → Option (cR Unit)} (hr : r ≤ 8) (hn : nd ≤ 12) (hd : d ≠ 36) (hb : ∀ k : Int32, 0 ≤ k.toInt → k.toInt < 12 → ((sh &&& (1 <<< (k &&& 31))).toInt ≠ 0 ↔ ((sv >>> (k &&& 31)) &&& 1).toInt = 1)) (kk : ∀ {m : Nat} {A : Nat → Nat → Nat → Int32} {Am : Nat → Nat → Int32}, WWx r A Am → P2 (g ((), P, F, A, J)) (d_fillsWays_170 m Fm Am Jm 0) Q) : ∀ {n m : Nat} {A : Nat → Nat → Nat → Int32} {Am : Nat → Nat → Int32} {k : Int32}, WWx r A Am → SYx r Am → DRx r nd d F A Fm Am → Am 48 78 = sv → 0 ≤ k.toInt → P2 ((e_Ways_takeDoors_39 n P F A J d sh k).bind g) (d_fillsWays_40 m Fm Am Jm k) Q := by
  have l1 : (1 : Int32).toInt = 1 := by decide
  have l78 : (78 : Int32).toInt = 78 := by decide
  intro n
  induction n with
  | zero => intro m A Am k _ _ _ _ _ a b ha; cases ha
  | succ n ih =>
    intro m A Am k w sy D hs k0
    obtain ⟨n1, n2, s0, s1, rows⟩ := D
    cases m with
    | zero => intro a b _ hb; cases hb
    | succ m =>
      unfold d_fillsWays_40
      refine p2_br (fun v5 h5 => ?_)
      have e5 : v5.toInt = nd := by rw [(gg_ld h5).2.2]; exact n2
      unfold e_Ways_takeDoors_39
      refine p2_bind_cl (fun c => ?_) (fun c => ?_)
      · rw [i_ge, n1] at c
        refine p2_cr (fun _ => ?_) (fun c2 => ?_)
        · exact kk w
        · rw [i_nge, e5] at c2
          omega
      rw [i_nge, n1] at c
      refine p2_cr (fun c2 => ?_) (fun _ => ?_)
      · rw [i_ge, e5] at c2
        omega
      have ek := i_add (x := k) (y := 1) (by rw [l1]; omega) (by rw [l1]; omega)
      rw [l1] at ek
      have R := rows k.toInt k0 c
      have D : DRx r nd d F A Fm Am := ⟨n1, n2, s0, s1, rows⟩
      refine p2_br (fun v7 h7 => ?_)
      have e7 : v7 = sv := by
        rw [(gg_ld h7).2.2, l78]
        exact hs
      subst e7
      have bit := hb k k0 (by omega)
      refine p2_bind_cl (fun c3 => ?_) (fun c3 => ?_)
      · rw [i_ne, i_0] at c3
        refine p2_cr (fun c4 => ?_) (fun _ => ?_)
        · rw [i_ne, l1] at c4
          exact absurd (bit.mp c3) c4
        · unfold e_Ways_takeDoors_127 d_fillsWays_162
          exact ih w sy D hs (by omega)
      · rw [i_nne, i_0] at c3
        refine p2_cr (fun _ => ?_) (fun c4 => ?_)
        · refine p2_bbl (fun v6 h6 => p2_bbl (fun u7 g7 => p2_bbl (fun v8 h8 => p2_bbl (fun v9 h9 => p2_bbl (fun v10 h10 => p2_bbl (fun v11 h11 => p2_bbl (fun A12 h12 => p2_bbl (fun A13 h13 => ?_))))))))
          refine p2_br (fun w9 k9 => p2_br (fun w10 k10 => p2_br (fun w11 k11 => p2_br (fun w12 k12 => ?_))))
          have m12 := i_mulL (c := 12) (k := 12) (x := Fm 18) (by decide) (by omega) (by omega)
          have ix := i_add (x := 12 * Fm 18) (y := k) (by omega) (by omega)
          have q6 : v6.toInt = ci A d 1 k.toInt := by rw [(gg_ld h6).2.2]; rfl
          have q7 : u7.toInt = ci A d 2 k.toInt := by rw [(gg_ld g7).2.2]; rfl
          have q8 : v8 = u7 := (gg_ld h8).2.2.trans (gg_ld g7).2.2.symm
          have q9 : v9 = v6 := (gg_ld h9).2.2.trans (gg_ld h6).2.2.symm
          subst q8
          subst q9
          have q11 : v11.toInt = ci A d 3 k.toInt := by rw [(gg_ld h11).2.2]; rfl
          have z9 : w9.toInt = ci A d 1 k.toInt := by rw [(gg_ld k9).2.2, ix, m12]; exact R.2.2.2.1.symm
          have z10 : w10.toInt = ci A d 2 k.toInt := by rw [(gg_ld k10).2.2, ix, m12]; exact R.2.2.2.2.1.symm
          have z11 : w11.toInt = ci A d 3 k.toInt := by rw [(gg_ld k11).2.2, ix, m12]; exact R.2.2.2.2.2.symm
          obtain rfl : w9 = v9 := i_ext (z9.trans q6.symm)
          obtain rfl : w10 = v8 := i_ext (z10.trans q7.symm)
          obtain rfl : w11 = v11 := i_ext (z11.trans q11.symm)
          have a0 : 0 ≤ w9.toInt := by omega
          have a1 : w9.toInt < r := by omega
          have b0 : 0 ≤ w10.toInt := by omega
          have b1 : w10.toInt < r := by omega
          have q10 := (cx_ld h10 a0 (by omega) b0 (by omega)).trans (w.2 w9.toInt w10.toInt a0 a1 b0 b1)
          have z12 := mx_ld k12 a0 (by omega) b0 (by omega)
          have bd := (w.1 w9.toInt w10.toInt a0 (by omega) b0 (by omega)).1
          have f12 : ∀ o, A12 d o = A d o := fun o => (gg_cst h12).2.2.2.2 d o (fun e => hd e.1)
          have f13 : ∀ o, A13 d o = A12 d o := fun o => (gg_cst h13).2.2.2.2 d o (fun e => hd e.1)
          refine p2_cr (fun c5 => ?_) (fun c5 => ?_)
          · rw [i_lt] at c5
            have lt : w11 < v10 := Int32.lt_iff_toInt_lt.mpr (by omega)
            rw [if_pos lt] at h12 h13
            refine p2_br (fun A14 h14 => p2_br (fun A15 h15 => ?_))
            have w1 := w.st hr a0 a1 b0 b1 rfl (by omega) (by omega) h12 h14
            have w2 := w1.st hr b0 b1 a0 a1 rfl (by omega) (by omega) h13 h15
            have g14 := gg_st h14
            have g15 := gg_st h15
            have t14 := mx_st h14 a0 (by omega) b0 (by omega)
            have t15 := mx_st h15 b0 (by omega) a0 (by omega)
            refine ih w2 (fun i j i0 i1 j0 j1 => ?_) (D.fr (fun o => (f13 o).trans (f12 o)) (fun q hq => (g15.2.2.1 q hq).trans (g14.2.2.1 q hq))) ?_ (by omega)
            · have val : ∀ i j : Int, 0 ≤ i → i < r → 0 ≤ j → j < r → mx A15 i j = if (i = w9.toInt ∧ j = w10.toInt) ∨ (i = w10.toInt ∧ j = w9.toInt) then w11.toInt else mx Am i j := by
                intro i j i0 i1 j0 j1
                by_cases e2 : i = w10.toInt ∧ j = w9.toInt
                · rw [if_pos (.inr e2), e2.1, e2.2]
                  exact t15.1
                · rw [t15.2 i j i0 (by omega) j0 (by omega) e2]
                  by_cases e1 : i = w9.toInt ∧ j = w10.toInt
                  · rw [if_pos (.inl e1), e1.1, e1.2]
                    exact t14.1
                  · rw [t14.2 i j i0 (by omega) j0 (by omega) e1, if_neg (fun h => h.elim e1 e2)]
              rw [val i j i0 i1 j0 j1, val j i j0 j1 i0 i1, sy i j i0 i1 j0 j1]
              have iff : ((i = w9.toInt ∧ j = w10.toInt) ∨ (i = w10.toInt ∧ j = w9.toInt)) ↔ ((j = w9.toInt ∧ i = w10.toInt) ∨ (j = w10.toInt ∧ i = w9.toInt)) := by omega
              by_cases e : (i = w9.toInt ∧ j = w10.toInt) ∨ (i = w10.toInt ∧ j = w9.toInt)
              · rw [if_pos e, if_pos (iff.mp e)]
              · rw [if_neg e, if_neg (fun h => e (iff.mpr h))]
            · rw [g15.2.2.1 48 (by decide), g14.2.2.1 48 (by decide)]
              exact hs
          · rw [i_nlt] at c5
            have nlt : ¬ w11 < v10 := fun h => by
              have := Int32.lt_iff_toInt_lt.mp h
              omega
            rw [if_neg nlt] at h12 h13
            have w1 := w.same hr a0 a1 b0 b1 q10 h12
            have w2 := w1.same hr b0 b1 a0 a1 (q10.trans (sy _ _ a0 a1 b0 b1)) h13
            unfold d_fillsWays_162
            exact ih w2 sy (D.fr (fun o => (f13 o).trans (f12 o)) (fun _ _ => rfl)) hs (by omega)
        · rw [i_nne, l1] at c4
          exact absurd c3 (bit.mpr c4)
/-! a bit of the shut doors, as both sides ask for it -/
theorem w_and (x : Int32) : ∃ j, j < 32 ∧ x &&& 31 = Int32.ofNat j := by
  refine ⟨(x &&& 31).toBitVec.toNat, ?_, ?_⟩
  · have h1 : (x &&& 31).toBitVec.toNat = x.toBitVec.toNat &&& 31 := rfl
    rw [h1]
    exact Nat.lt_of_le_of_lt Nat.and_le_right (by decide)
  · apply Int32.toBitVec_inj.mp
    show (x &&& 31).toBitVec = BitVec.ofNat 32 (x &&& 31).toBitVec.toNat
    simp
theorem w_smod : ∀ j : Fin 32, ((Int32.ofNat j.val).toBitVec.smod 32#32).toNat = j.val := by decide
theorem w_two : ∀ j : Fin 32, BitVec.twoPow 32 j.val ≠ 0#32 := by decide
theorem w_bit {x k : Int32} : (x &&& (1 <<< (k &&& 31))).toInt ≠ 0 ↔ ((x >>> (k &&& 31)) &&& 1).toInt = 1 := by
  obtain ⟨j, hj, e⟩ := w_and k
  rw [e]
  have hK : ((Int32.ofNat j).toBitVec.smod 32#32).toNat = j := w_smod ⟨j, hj⟩
  have h2 : BitVec.twoPow 32 j ≠ 0#32 := w_two ⟨j, hj⟩
  have eL : (x &&& (1 <<< Int32.ofNat j)).toBitVec = if x.toBitVec.getLsbD j then BitVec.twoPow 32 j else 0#32 := by
    show x.toBitVec &&& (1#32 <<< ((Int32.ofNat j).toBitVec.smod 32#32).toNat) = _
    rw [hK, ← BitVec.twoPow_eq, BitVec.and_twoPow]
  have eR : ((x >>> Int32.ofNat j) &&& 1).toBitVec = BitVec.setWidth 32 (BitVec.ofBool (x.toBitVec.getLsbD j)) := by
    show x.toBitVec.sshiftRight ((Int32.ofNat j).toBitVec.smod 32#32).toNat &&& 1#32 = _
    rw [hK, BitVec.and_one_eq_setWidth_ofBool_getLsbD, BitVec.getLsbD_sshiftRight, Nat.add_zero, if_pos hj]
    simp
  have z1 : ∀ {y : Int32}, y.toInt = 0 ↔ y.toBitVec = 0#32 := fun {y} => ⟨fun h => by rw [show y = 0 from i_ext (h.trans i_0.symm)]; rfl, fun h => by rw [show y = 0 from Int32.toBitVec_inj.mp h]; exact i_0⟩
  have o1 : ∀ {y : Int32}, y.toInt = 1 ↔ y.toBitVec = 1#32 := fun {y} => ⟨fun h => by rw [show y = 1 from i_ext (h.trans i_1.symm)]; rfl, fun h => by rw [show y = 1 from Int32.toBitVec_inj.mp h]; exact i_1⟩
  rw [Ne, z1, o1, eL, eR]
  cases x.toBitVec.getLsbD j with
  | true => exact ⟨fun _ => by decide, fun _ h => h2 h⟩
  | false => exact ⟨fun h => absurd rfl h, fun h => absurd h (by decide)⟩
/-! both rows before the doors -/
theorem gg_cfw {r o n : Nat} {A A' : Nat → Nat → Nat → Int32} {x : Int32} (h : c_fi A r o n x = some A') : (∀ j, 0 ≤ j → j < (n : Int) → ci A' r o j = x.toInt) ∧ (∀ r' o', ¬ (r' = r ∧ o' = o) → A' r' o' = A r' o') := by
  have z : ok ((c_fi A r o n x).bind some) (fun A' => (∀ j, 0 ≤ j → j < (n : Int) → ci A' r o j = x.toInt) ∧ (∀ r' o', ¬ (r' = r ∧ o' = o) → A' r' o' = A r' o')) := ok_cfi (fun A' a b c => ok_some ⟨a, c⟩)
  rw [h] at z
  obtain ⟨a, e, z⟩ := z
  cases e
  exact z
def CIx (c : Int) (A : Nat → Nat → Nat → Int32) : Prop := ∀ i j : Int, 0 ≤ i → i < 8 → 0 ≤ j → j < 8 → cx A i j = if i = j ∧ i < c then 0 else 1000000
theorem c_11 {δ : Type} {z : Option δ} {sh : Int32} {A0 : Nat → Nat → Nat → Int32} {g : cR Unit → Option (cR Unit)} {Q : cR Unit → δ → Prop} (hr : r ≤ 8) (hd : d ≠ 36) (e13 : (F d 13).toInt = r) (kk : ∀ {n : Nat} {A : Nat → Nat → Nat → Int32}, CIx r A → (∀ o, A d o = A0 d o) → P2 ((e_Ways_takeDoors_39 n P F A J d sh 0).bind g) z Q) : ∀ {n : Nat} {A : Nat → Nat → Nat → Int32} {k : Int32}, CIx k.toInt A → (∀ o, A d o = A0 d o) → 0 ≤ k.toInt → k.toInt ≤ r → P2 ((e_Ways_takeDoors_11 n P F A J d sh k).bind g) z Q := by
  intro n
  induction n with
  | zero => intro A k _ _ _ _ a b ha; cases ha
  | succ n ih =>
    intro A k hc hA k0 k1
    unfold e_Ways_takeDoors_11
    refine p2_bind_cl (fun c => ?_) (fun c => ?_)
    · rw [i_ge, e13] at c
      exact kk (by rw [show r = k.toInt by omega]; exact hc) hA
    rw [i_nge, e13] at c
    refine p2_bbl (fun A3 h3 => ?_)
    have s := cx_st h3 k0 (by omega) k0 (by omega)
    have ek := i_add (x := k) (y := 1) (by rw [i_1]; omega) (by rw [i_1]; omega)
    rw [i_1] at ek
    refine ih (fun i j i0 i1 j0 j1 => ?_) (fun o => ((gg_cst h3).2.2.2.2 d o (fun e => hd e.1)).trans (hA o)) (by omega) (by omega)
    by_cases e : i = k.toInt ∧ j = k.toInt
    · rw [e.1, e.2, s.1, i_0, if_pos ⟨rfl, by omega⟩]
    · rw [s.2 i j i0 i1 j0 j1 e, hc i j i0 i1 j0 j1]
      by_cases e2 : i = j ∧ i < k.toInt
      · rw [if_pos e2, if_pos ⟨e2.1, by omega⟩]
      · rw [if_neg e2, if_neg (fun h => by omega)]
theorem w_dm : ∀ k : Fin 64, (Int32.ofNat k.val / 8).toInt = (k.val : Int) / 8 ∧ (Int32.ofNat k.val - Int32.ofNat k.val / 8 * 8).toInt = (k.val : Int) % 8 := by decide
theorem r_2 {α : Type} {z : Option α} {Q : α → mR Unit → Prop} {A0 : Nat → Nat → Int32} (kk : ∀ {m : Nat} {Am : Nat → Nat → Int32}, (∀ i j : Int, 0 ≤ i → i < 8 → 0 ≤ j → j < 8 → mx Am i j = if i = j then 0 else 1000000) → (∀ q, q ≠ 49 → Am q = A0 q) → P2 z (d_fillsWays_40 m Fm Am Jm 0) Q) : ∀ {m : Nat} {Am : Nat → Nat → Int32} {x : Int32}, 0 ≤ x.toInt → (∀ q : Int, 0 ≤ q → q < x.toInt → q < 64 → ai Am 49 q = if q / 8 = q % 8 then 0 else 1000000) → (∀ q, q ≠ 49 → Am q = A0 q) → P2 z (d_fillsWays_2 m Fm Am Jm x) Q := by
  have l64 : (64 : Int32).toInt = 64 := by decide
  have lM : (1000000 : Int32).toInt = 1000000 := by decide
  intro m
  induction m with
  | zero => intro Am x _ _ _ a b _ hb; cases hb
  | succ m ih =>
    intro Am x x0 hv hA
    unfold d_fillsWays_2
    refine p2_cr (fun c => ?_) (fun c => ?_)
    · rw [i_ge, l64] at c
      refine kk (fun i j i0 i1 j0 j1 => ?_) hA
      unfold mx
      rw [hv (8 * i + j) (by omega) (by omega) (by omega)]
      by_cases e : i = j
      · rw [if_pos e, if_pos (by omega)]
      · rw [if_neg e, if_neg (by omega)]
    rw [i_nge, l64] at c
    have ex : x = Int32.ofNat x.toInt.toNat := i_nat x0
    have dm := w_dm ⟨x.toInt.toNat, by omega⟩
    dsimp only at dm
    rw [← ex] at dm
    have e8 := i_add (x := x) (y := 1) (by rw [i_1]; omega) (by rw [i_1]; omega)
    rw [i_1] at e8
    have st : ∀ {u : Int32} {Am' : Nat → Nat → Int32}, m_st Am 49 64 x u = some Am' → u.toInt = (if x.toInt / 8 = x.toInt % 8 then 0 else 1000000) → P2 z (d_fillsWays_2 m Fm Am' Jm (x + 1)) Q := fun {u Am'} h hu => by
      have g := gg_st h
      refine ih (by omega) (fun q q0 q1 q2 => ?_) (fun q hq => (g.2.2.1 q hq).trans (hA q hq))
      by_cases e : q = x.toInt
      · rw [e, g.2.2.2.1, hu]
      · rw [g.2.2.2.2 q q0 e]
        exact hv q q0 (by omega) q2
    refine p2_br (fun v2 h2 => p2_br (fun v3 h3 => ?_))
    have d2 : v2.toInt = x.toInt / 8 := by
      unfold m_div at h2
      rw [if_neg (by decide)] at h2
      cases h2
      omega
    have d3 : v3.toInt = x.toInt % 8 := by
      unfold m_rem at h3
      rw [if_neg (by decide)] at h3
      cases h3
      omega
    refine p2_cr (fun c2 => ?_) (fun c2 => ?_)
    · rw [i_ne] at c2
      unfold d_fillsWays_31
      exact p2_br (fun A16 h16 => st h16 (by rw [if_neg (by omega)]; exact lM))
    · rw [i_nne] at c2
      unfold d_fillsWays_31
      exact p2_br (fun A16 h16 => st h16 (by rw [if_pos (by omega)]; exact i_0))
/-- both sides' rows of ways, from the doors on -/
theorem p2_fill {n m : Nat} {nd : Int} {sh : Int32} {Q : cR Unit → mR Unit → Prop} {g : cR Unit → Option (cR Unit)} (hr : r ≤ 8) (r0 : 0 ≤ r) (hn : nd ≤ 12) (hd : d ≠ 36) (e13 : (F d 13).toInt = r) (D : DRx r nd d F A Fm Am) (hs : Am 48 78 = sh) (kk : ∀ {m : Nat} {A : Nat → Nat → Nat → Int32} {Am : Nat → Nat → Int32}, WWx r A Am → P2 (g ((), P, F, A, J)) (d_fillsWays_170 m Fm Am Jm 0) Q) : P2 ((e_Ways_takeDoors n P F A J d sh).bind g) (d_fillsWays m Fm Am Jm) Q := by
  have lM : (1000000 : Int32).toInt = 1000000 := by decide
  unfold e_Ways_takeDoors d_fillsWays
  refine p2_bbl (fun A1 h1 => ?_)
  have fi := gg_cfw h1
  refine r_2 (A0 := Am) (fun {m Am'} hv hm => ?_) (by decide) (fun q q0 q1 => by rw [i_0] at q1; omega) (fun _ _ => rfl)
  refine c_11 (A0 := A) hr hd e13 (fun {n A'} hc hA => ?_) (fun i j i0 i1 j0 j1 => ?_) (fun o => fi.2 d o (fun e => hd e.1)) (by decide) (by rw [i_0]; exact r0)
  · refine p2_39 hr hn hd (fun k _ _ => w_bit) (fun w => kk w) ⟨fun i j i0 i1 j0 j1 => ?_, fun i j i0 i1 j0 j1 => ?_⟩ (fun i j i0 i1 j0 j1 => ?_) (D.fr hA hm) (by rw [hm 48 (by decide)]; exact hs) (by decide)
    · rw [hv i j i0 i1 j0 j1]
      refine ⟨?_, fun _ => rfl⟩
      by_cases e : i = j
      · rw [if_pos e]
        omega
      · rw [if_neg e]
        omega
    · rw [hv i j i0 (by omega) j0 (by omega), hc i j i0 (by omega) j0 (by omega)]
      by_cases e : i = j
      · rw [if_pos e, if_pos ⟨e, i1⟩]
      · rw [if_neg e, if_neg (fun h => e h.1)]
    · rw [hv i j i0 (by omega) j0 (by omega), hv j i j0 (by omega) i0 (by omega)]
      by_cases e : i = j
      · rw [if_pos e, if_pos e.symm]
      · rw [if_neg e, if_neg (fun h => e h.symm)]
  · unfold cx
    rw [fi.1 (i * 8 + j) (by omega) (by omega), lM, if_neg (fun h => by rw [i_0] at h; omega)]
/-- both sides find the ways -/
theorem p2_ways {n n' m : Nat} {nd : Int} {sh : Int32} (hr : r ≤ 8) (r0 : 0 ≤ r) (hn : nd ≤ 12) (hd : d ≠ 36) (e13 : (F d 13).toInt = r) (D : DRx r nd d F A Fm Am) (hs : Am 48 78 = sh) : P2 ((e_Ways_takeDoors n P F A J d sh).bind fun (_, P3, F4, A5, J6) => e_Ways_joinWays n' P3 F4 A5 J6 (F4 d 13)) (d_fillsWays m Fm Am Jm) (fun a b => WWx r a.2.2.2.1 b.2.2.1) :=
  p2_fill hr r0 hn hd e13 D hs (fun w => by
    unfold e_Ways_joinWays
    exact p2_2 hr e13 (fun w => w) w (by decide))
end H9ey
end Qz132
section Qz133
/-! a term's value, on both sides (draft: to stand behind wip/law's texts) -/
section H9ez
variable {δ : Type} {r0 : Nat} {p c l base : Int} {P : Nat → Nat → Nat} {F : Nat → Nat → Int32} {A A' A0 A1 : Nat → Nat → Nat → Int32} {J : Nat → Nat → Nat → Int64} {Fm : Nat → Int32} {Am Am' Am0 Am1 : Nat → Nat → Int32} {Jm : Nat → Nat → Int64}
theorem p2_bbr {α β γ δ : Type} {o : Option α} {fo : α → Option β} {g : β → Option γ} {z : Option δ} {Q : δ → γ → Prop} (h : ∀ a, o = some a → P2 z ((fo a).bind g) Q) : P2 z ((o.bind fo).bind g) Q := by
  intro x y hx hy
  obtain ⟨q, hq, hy⟩ := Option.bind_eq_some_iff.mp hy
  obtain ⟨a, ha, hq⟩ := Option.bind_eq_some_iff.mp hq
  exact h a ha x y hx (Option.bind_eq_some_iff.mpr ⟨q, hq, hy⟩)
theorem gg_pfz {F F' : Nat → Int32} {k : Nat} {x : Int32} (h : m_pfz F k x = some F') : F' k = x ∧ ∀ q, q ≠ k → F' q = F q := by
  unfold m_pfz at h
  split at h
  · cases h
    exact ⟨if_pos rfl, fun _ h => if_neg h⟩
  · cases h
theorem i_p1 {x : Int32} (h : x.toInt < 2147483647) : (x + 1).toInt = x.toInt + 1 := by
  have r := i_rng x
  rw [i_add (by rw [i_1]; omega) (by rw [i_1]; omega), i_1]
theorem i_m1 {x : Int32} (h : -2147483648 < x.toInt) : (x + (-1)).toInt = x.toInt - 1 := by
  have r := i_rng x
  have l : (-1 : Int32).toInt = -1 := by decide
  rw [i_add (by rw [l]; omega) (by rw [l]; omega), l]
  omega
theorem i_m1p {x : Int32} (h : -2147483648 < x.toInt) : (x + (-1) + 1).toInt = x.toInt := by
  have r := i_rng x
  have e := i_m1 h
  rw [i_p1 (by rw [e]; omega), e]
  omega
theorem i_m2 {x : Int32} (h : -2147483647 < x.toInt) : (x + (-1) - 1).toInt = x.toInt - 2 := by
  have r := i_rng x
  have e := i_m1 (x := x) (by omega)
  rw [i_sub (by rw [e, i_1]; omega) (by rw [e, i_1]; omega), e, i_1]
  omega
theorem dpm_sg {d : Nat} (S : SGx d A Am p c l) : ∀ k : Nat, (k : Int) ≤ l → 0 ≤ dpm Am c k
  | 0, _ => Int.le_refl 0
  | k + 1, h => by
    have ih := dpm_sg S k (by omega)
    have w := (S.2.1 (k : Int) (by omega) (by omega)).2
    rw [Int.toNat_natCast] at w
    show 0 ≤ (if ai Am 42 (c + (k : Int)) < 2 then dpm Am c k + 1 else dpm Am c k - 1)
    by_cases e : ai Am 42 (c + (k : Int)) < 2
    · rw [if_pos e]
      omega
    · rw [if_neg e]
      have := w (by omega)
      omega
/-- both piles, and what a law may ask for -/
def TEx (r0 : Nat) (base h : Int) (A : Nat → Nat → Nat → Int32) (Am : Nat → Nat → Int32) : Prop := (∀ j, 0 ≤ j → j < h → ci A r0 17 (base + j) = ai Am 46 j) ∧ ∀ j, 0 ≤ j → j < 6 → ci A 36 9 j = ai Am 45 j
def TFx (r0 : Nat) (base : Int) (A A' : Nat → Nat → Nat → Int32) (Am Am' : Nat → Nat → Int32) : Prop := (∀ r o, ¬ (r = r0 ∧ o = 17) → A' r o = A r o) ∧ (base = 1 → ci A' r0 17 0 = ci A r0 17 0) ∧ ∀ q, q ≠ 46 → Am' q = Am q
theorem TFx.rfl' : TFx r0 base A A Am Am := ⟨fun _ _ _ => rfl, fun _ => rfl, fun _ _ => rfl⟩
theorem TFx.tr (h : TFx r0 base A A1 Am Am1) (h' : TFx r0 base A1 A' Am1 Am') : TFx r0 base A A' Am Am' := ⟨fun r o e => (h'.1 r o e).trans (h.1 r o e), fun e => (h'.2.1 e).trans (h.2.1 e), fun q e => (h'.2.2 q e).trans (h.2.2 q e)⟩
/-- both sides put a value at the same place of their piles -/
theorem TE_put {i j x y : Int32} {n : Nat} {h h' : Int} (b01 : base = 0 ∨ base = 1) (T : TEx r0 base h A Am) (h1 : c_st A r0 17 n i x = some A') (h2 : m_st Am 46 400 j y = some Am') (ei : i.toInt = base + j.toInt) (e : x.toInt = y.toInt) (hr : r0 ≠ 36) (j0 : 0 ≤ j.toInt) (hh : h' ≤ h + 1) (hj : j.toInt = h' - 1) : TEx r0 base h' A' Am' ∧ TFx r0 base A A' Am Am' := by
  have U := (gg_cst h1).2.2
  have g := gg_st h2
  refine ⟨⟨fun k k0 k1 => ?_, fun k k0 k1 => ?_⟩, fun r o e => U.2.2 r o e, fun e1 => ?_, g.2.2.1⟩
  · by_cases e2 : k = j.toInt
    · rw [e2, ← ei, U.1, g.2.2.2.1, e]
    · rw [U.2.1 (base + k) (by omega) (by omega), g.2.2.2.2 k k0 e2]
      exact T.1 k k0 (by omega)
  · rw [ci_fr (U.2.2 36 9 (fun e => hr e.1.symm)), ai_fr (g.2.2.1 45 (by decide))]
    exact T.2 k k0 k1
  · exact U.2.1 0 (by omega) (by omega)
theorem p2_value {Q : cR Int32 → δ → Prop} {kont : mR Int32 → Option δ} {xe : Int32} (hr : r0 ≠ 36) (b01 : base = 0 ∨ base = 1) (p0 : 0 ≤ p) (c0 : 0 ≤ c) (S : SGT r0 A0 Am0 p c l) (hL : p + l < (F r0 1304).toInt) (hL4 : (F r0 1304).toInt ≤ 400) (hxe : xe.toInt = c + l) (hce : c + l ≤ 840)
    (kg : ∀ {n : Nat} {A : Nat → Nat → Nat → Int32} {Am : Nat → Nat → Int32} {x3 x4 x5 v : Int32}, TFx r0 base A0 A Am0 Am → v.toInt = ci A r0 17 base → (∀ j, 0 ≤ j → j < 6 → ci A 36 9 j = ai Am 45 j) → x3.toInt = p + l → x4.toInt = base → 0 ≤ x5.toInt → x5.toInt ≤ x3.toInt → P2 (e_Laws_tellsTo_13 n P F A J r0 x3 x4 x5) (kont (v, Fm, Am, Jm)) Q)
    (kb : ∀ {A : Nat → Nat → Nat → Int32} {Am : Nat → Nat → Int32} {Fm' : Nat → Int32} {v : Int32}, TFx r0 base A0 A Am0 Am → v.toInt = ai Am 45 0 → Fm' 63 = 1 → (∀ q, q ≠ 63 → Fm' q = Fm q) → P2 (some (v, P, F, A, J)) (kont (0, Fm', Am, Jm)) Q) :
    ∀ {n m : Nat} {A : Nat → Nat → Nat → Int32} {Am : Nat → Nat → Int32} {x3 x4 x5 h xm : Int32} {i : Int}, TFx r0 base A0 A Am0 Am → TEx r0 base h.toInt A Am → h.toInt = dpm Am0 c i.toNat → x3.toInt = p + i → xm.toInt = c + i → x4.toInt = base + h.toInt - 1 → 0 ≤ i → i ≤ l → 0 ≤ x5.toInt → x5.toInt ≤ x3.toInt → P2 (e_Laws_tellsTo_13 n P F A J r0 x3 x4 x5) ((d_termOf_5 m Fm Am Jm xe h xm).bind kont) Q := by
  have l1 : (1 : Int32).toInt = 1 := by decide
  have lm : (-1 : Int32).toInt = -1 := by decide
  have l2 : (2 : Int32).toInt = 2 := by decide
  have l32 : (Int32.ofNat 32).toInt = 32 := by decide
  intro n
  induction n with
  | zero => intro m A Am x3 x4 x5 h xm i _ _ _ _ _ _ _ _ _ _ a b ha; cases ha
  | succ n ih =>
    intro m A Am x3 x4 x5 h xm i T E eh e3 em e4 i0 il t0 t1
    cases m with
    | zero => intro a b _ hb; cases hb
    | succ m =>
      unfold d_termOf_5
      by_cases e : i = l
      · refine p2_bind_cr (fun _ => ?_) (fun c1 => ?_)
        · refine p2_bbr (fun v2 h2 => ?_)
          have hl : h.toInt = 1 := by rw [eh, e]; exact S.2
          have q2 : v2.toInt = ci A r0 17 base := by
            have w := E.1 0 (by decide) (by omega)
            rw [Int.add_zero] at w
            rw [(gg_ld h2).2.2, i_0, w]
            rfl
          exact kg T q2 E.2 (by omega) (by omega) t0 t1
        · rw [i_nge] at c1
          omega
      have lt : i < l := by omega
      refine p2_bind_cr (fun c1 => ?_) (fun _ => ?_)
      · rw [i_ge] at c1
        omega
      unfold e_Laws_tellsTo_13
      refine p2_cl (fun c1 => ?_) (fun _ => ?_)
      · rw [i_ge] at c1
        omega
      refine p2_cl (fun c1 => ?_) (fun _ => ?_)
      · rw [i_lt, i_0] at c1
        omega
      refine p2_cl (fun c1 => ?_) (fun _ => ?_)
      · rw [i_ge] at c1
        omega
      refine p2_bl (fun v5 h5 => p2_bl (fun v6 h6 => ?_))
      refine p2_bbr (fun w3 k3 => ?_)
      have ne : ∀ o, o ≠ 17 → A r0 o = A0 r0 o := fun o ho => T.1 r0 o (fun e => ho e.2)
      have q5 : v5.toInt = ci A0 r0 15 (p + i) := by rw [(gg_ld h5).2.2, e3, ne 15 (by decide)]; rfl
      have q6 : v6.toInt = ci A0 r0 16 (p + i) := by rw [(gg_ld h6).2.2, e3, ne 16 (by decide)]; rfl
      have qk : w3.toInt = ai Am0 42 (c + i) := by rw [(gg_ld k3).2.2, em, T.2.2 42 (by decide)]; rfl
      obtain ⟨hce', hdp⟩ := S.1.2.1 i i0 lt
      have dn := S.1.2.2 (i + 1) (by omega) (by omega)
      have d0 := S.1.2.2 i i0 il
      have ds : dpm Am0 c (i + 1).toNat = if ai Am0 42 (c + i) < 2 then dpm Am0 c i.toNat + 1 else dpm Am0 c i.toNat - 1 := by
        rw [show (i + 1).toNat = i.toNat + 1 by omega]
        show (if ai Am0 42 (c + (i.toNat : Int)) < 2 then dpm Am0 c i.toNat + 1 else dpm Am0 c i.toNat - 1) = _
        rw [Int.toNat_of_nonneg i0]
      have hn : 0 ≤ h.toInt := by rw [eh]; exact dpm_sg S.1 i.toNat (by omega)
      rw [← q5, ← q6, ← qk] at hce'
      rw [← qk] at ds hdp
      rw [← eh] at d0 ds hdp
      have b3 : x3.toInt < 2147483647 := by omega
      have b5 : x5.toInt < 2147483647 := by omega
      have bm : xm.toInt < 2147483647 := by omega
      have bh : h.toInt < 2147483647 := by omega
      have b4 : x4.toInt < 2147483647 := by omega
      have b4' : -2147483648 < x4.toInt := by omega
      have bh' : -2147483648 < h.toInt := by omega
      have bh2 : -2147483647 < h.toInt := by omega
      have q31 := i_p1 b3
      have q51 := i_p1 b5
      have qm1 := i_p1 bm
      have qh1 := i_p1 bh
      have q41 := i_p1 b4
      have q4m := i_m1 b4'
      have qhm := i_m1 bh'
      have q4a := i_m1p b4'
      have qhs := i_m2 bh2
      obtain ⟨x31, hx31⟩ : ∃ z, x3 + 1 = z := ⟨_, rfl⟩
      obtain ⟨x51, hx51⟩ : ∃ z, x5 + 1 = z := ⟨_, rfl⟩
      obtain ⟨xm1, hxm1⟩ : ∃ z, xm + 1 = z := ⟨_, rfl⟩
      obtain ⟨h1', hh1⟩ : ∃ z, h + 1 = z := ⟨_, rfl⟩
      obtain ⟨x41, hx41⟩ : ∃ z, x4 + 1 = z := ⟨_, rfl⟩
      obtain ⟨x4m, hx4m⟩ : ∃ z, x4 + (-1) = z := ⟨_, rfl⟩
      obtain ⟨x4a, hx4a⟩ : ∃ z, x4m + 1 = z := ⟨_, rfl⟩
      obtain ⟨hm, hhm⟩ : ∃ z, h + (-1) = z := ⟨_, rfl⟩
      obtain ⟨hs, hhs⟩ : ∃ z, hm - 1 = z := ⟨_, rfl⟩
      rw [hx31] at q31
      rw [hx51] at q51
      rw [hxm1] at qm1
      rw [hh1] at qh1
      rw [hx41] at q41
      rw [hx4m] at q4m q4a
      rw [hx4a] at q4a
      rw [hhm] at qhm qhs
      rw [hhs] at qhs
      simp only [hx31, hx51, hxm1, hh1, hx41, hx4m, hx4a, hhm, hhs]
      -- a value is put on both piles
      have push : ∀ {s t : Int32} {A2 : Nat → Nat → Nat → Int32} {Am2 : Nat → Nat → Int32}, w3.toInt < 2 → c_st A r0 17 32 x41 s = some A2 → m_st Am 46 400 h t = some Am2 → s.toInt = t.toInt → P2 (e_Laws_tellsTo_13 n P F A2 J r0 x31 x41 x51) ((d_termOf_5 m Fm Am2 Jm xe h1' xm1).bind kont) Q := fun {s t A2 Am2} hk g1 g2 gs => by
        rw [if_pos hk] at ds
        obtain ⟨E2, T2⟩ := TE_put (h' := h1'.toInt) b01 E g1 g2 (by omega) gs hr hn (by omega) (by omega)
        exact ih (i := i + 1) (T.tr T2) E2 (by omega) (by omega) (by omega) (by omega) (by omega) (by omega) (by omega) (by omega)
      rcases hce' with ⟨a1, k1, z1⟩ | ⟨a1, k1, z1⟩ | hop
      · -- a number
        refine p2_cl (fun _ => ?_) (fun c1 => ?_)
        · refine p2_cl (fun _ => ?_) (fun c1 => ?_)
          · unfold e_Laws_tellsTo_88
            simp only [hx41]
            refine p2_cl (fun _ => ?_) (fun c1 => ?_)
            · refine p2_cl (fun c1 => ?_) (fun _ => ?_)
              · rw [i_ne, l1] at c1
                omega
              · unfold e_Laws_tellsTo_126
                refine p2_bl (fun A32 h32 => ?_)
                refine p2_bind_cr (fun c1 => ?_) (fun _ => ?_)
                · rw [i_ge, l2] at c1
                  omega
                refine p2_bind_cr (fun c1 => ?_) (fun _ => ?_)
                · rw [i_ne, i_0] at c1
                  omega
                refine p2_bbr (fun v14 h14 => ?_)
                unfold d_termOf_58
                refine p2_bbr (fun A20 h20 => ?_)
                unfold d_termOf_159 e_Laws_tellsTo_227
                simp only [hx51, hh1, hxm1]
                have q14 : v14.toInt = ai Am0 43 (c + i) := by rw [(gg_ld h14).2.2, em, T.2.2 43 (by decide)]; rfl
                exact push (by omega) h32 h20 (by omega)
            · rw [i_nlt, l32] at c1
              omega
          · rw [i_neq, l1] at c1
            omega
        · rw [i_nne, i_0] at c1
          omega
      · -- a fact
        refine p2_cl (fun _ => ?_) (fun c1 => ?_)
        · refine p2_cl (fun c1 => ?_) (fun _ => ?_)
          · rw [i_eq, l1] at c1
            omega
          refine p2_cl (fun c1 => ?_) (fun _ => ?_)
          · rw [i_ne, l2] at c1
            omega
          unfold e_Laws_tellsTo_88
          simp only [hx41]
          refine p2_cl (fun _ => ?_) (fun c1 => ?_)
          · refine p2_cl (fun _ => ?_) (fun c1 => ?_)
            · refine p2_bl (fun v20 h20 => p2_bl (fun A21 h21 => ?_))
              refine p2_bind_cr (fun c1 => ?_) (fun _ => ?_)
              · rw [i_ge, l2] at c1
                omega
              refine p2_bind_cr (fun _ => ?_) (fun c1 => ?_)
              · refine p2_bbr (fun v11 h11 => p2_bbr (fun v12 h12 => p2_bbr (fun A13 h13 => ?_)))
                unfold d_termOf_159 e_Laws_tellsTo_227
                simp only [hx51, hh1, hxm1]
                have q11 : v11.toInt = v6.toInt := by rw [(gg_ld h11).2.2, em, T.2.2 43 (by decide)]; exact z1.symm
                have g20 := gg_ld h20
                have g12 := gg_ld h12
                have q20 : v20.toInt = v12.toInt := by
                  rw [g20.2.2, g12.2.2, q11]
                  exact E.2 v6.toInt g20.1 g20.2.1
                exact push (by omega) h21 h13 q20
              · rw [i_nne, i_0] at c1
                omega
            · rw [i_nne, l1] at c1
              omega
          · rw [i_nlt, l32] at c1
            omega
        · rw [i_nne, i_0] at c1
          omega
      · -- two values are joined
        have h2 : 2 ≤ w3.toInt := by omega
        have hd := hdp h2
        rw [if_neg (by omega)] at ds
        have eT : ∀ j, 0 ≤ j → j < h.toInt → ci A r0 17 (base + j) = ai Am 46 j := E.1
        have pop : ∀ {s t : Int32} {A2 : Nat → Nat → Nat → Int32} {Am2 : Nat → Nat → Int32}, c_st A r0 17 32 x4m s = some A2 → m_st Am 46 400 hs t = some Am2 → s.toInt = t.toInt → P2 (e_Laws_tellsTo_13 n P F A2 J r0 x31 x4m x51) ((d_termOf_5 m Fm Am2 Jm xe hm xm1).bind kont) Q := fun {s t A2 Am2} g1 g2 gs => by
          obtain ⟨E2, T2⟩ := TE_put (h' := hm.toInt) b01 E g1 g2 (by omega) gs hr (by omega) (by omega) (by omega)
          exact ih (i := i + 1) (T.tr T2) E2 (by omega) (by omega) (by omega) (by omega) (by omega) (by omega) (by omega) (by omega)
        have l5 : (5 : Int32).toInt = 5 := by decide
        have l3 : (3 : Int32).toInt = 3 := by decide
        have l4 : (4 : Int32).toInt = 4 := by decide
        have l60 : (60 : Int32).toInt = 60 := by decide
        have l47 : (47 : Int32).toInt = 47 := by decide
        refine p2_cl (fun _ => ?_) (fun c1 => ?_)
        · refine p2_cl (fun c1 => ?_) (fun _ => ?_)
          · rw [i_eq, l1] at c1
            omega
          refine p2_cl (fun _ => ?_) (fun c1 => ?_)
          · refine p2_cl (fun c1 => ?_) (fun _ => ?_)
            · rw [i_lt, l1] at c1
              omega
            refine p2_bind_cr (fun _ => ?_) (fun c1 => ?_)
            · refine p2_bbr (fun u5 g5 => p2_bbr (fun u6 g6 => ?_))
              have fin : ∀ {z : Int32}, e_Laws_joined P F A J v5 u5 u6 = some z → P2 (e_Laws_tellsTo_157 (e_Laws_tellsTo_13 n) n P F A J r0 x31 x4 x5 v5 v6) (((m_st Am 46 400 hs z).bind fun A21 => d_termOf_5 m Fm A21 Jm xe hm xm1).bind kont) Q := fun {z} hz => by
                unfold e_Laws_tellsTo_157
                simp only [hx4m, hx4a, hx51]
                refine p2_cl (fun _ => ?_) (fun c1 => ?_)
                · refine p2_bl (fun v25 h25 => p2_bl (fun v26 h26 => ?_))
                  have w25 : v25 = u5 := i_ext (by
                    rw [(gg_ld h25).2.2, (gg_ld g5).2.2]
                    have := eT hs.toInt (by omega) (by omega)
                    rw [show base + hs.toInt = x4m.toInt by omega] at this
                    exact this)
                  have w26 : v26 = u6 := i_ext (by
                    rw [(gg_ld h26).2.2, (gg_ld g6).2.2]
                    have := eT hm.toInt (by omega) (by omega)
                    rw [show base + hm.toInt = x4a.toInt by omega] at this
                    exact this)
                  subst w25
                  subst w26
                  refine p2_bl (fun v27 h27 => ?_)
                  rw [hz] at h27
                  cases h27
                  refine p2_bl (fun A28 h28 => ?_)
                  exact p2_bbr (fun A21 h21 => pop h28 h21 rfl)
                · rw [i_nne, l60] at c1
                  omega
              rcases hop with ⟨a1, k1⟩ | ⟨a1, k1⟩ | ⟨a1, k1⟩ | ⟨a1, k1⟩
              · obtain rfl : v5 = 43 := i_ext a1
                refine p2_cl (fun _ => ?_) (fun c1 => absurd c1 (by decide))
                refine p2_bind_cr (fun _ => ?_) (fun c1 => ?_)
                · unfold d_termOf_104
                  simp only [hhs, hxm1]
                  refine p2_bind_cr (fun c1 => ?_) (fun _ => ?_)
                  · rw [i_ne, l2] at c1
                    omega
                  · unfold d_termOf_158
                    simp only [hxm1]
                    exact fin rfl
                · rw [i_nne, l5] at c1
                  omega
              · obtain rfl : v5 = 45 := i_ext a1
                refine p2_cl (fun _ => ?_) (fun c1 => absurd c1 (by decide))
                refine p2_bind_cr (fun _ => ?_) (fun c1 => ?_)
                · unfold d_termOf_104
                  simp only [hhs, hxm1]
                  refine p2_bind_cr (fun _ => ?_) (fun c1 => ?_)
                  · refine p2_bind_cr (fun c1 => ?_) (fun _ => ?_)
                    · rw [i_ne, l3] at c1
                      omega
                    · unfold d_termOf_158
                      simp only [hxm1]
                      exact fin rfl
                  · rw [i_nne, l2] at c1
                    omega
                · rw [i_nne, l5] at c1
                  omega
              · obtain rfl : v5 = 42 := i_ext a1
                refine p2_cl (fun _ => ?_) (fun c1 => absurd c1 (by decide))
                refine p2_bind_cr (fun _ => ?_) (fun c1 => ?_)
                · unfold d_termOf_104
                  simp only [hhs, hxm1]
                  refine p2_bind_cr (fun _ => ?_) (fun c1 => ?_)
                  · refine p2_bind_cr (fun _ => ?_) (fun c1 => ?_)
                    · refine p2_bind_cr (fun c1 => ?_) (fun _ => ?_)
                      · rw [i_ne, l4] at c1
                        omega
                      · unfold d_termOf_158
                        simp only [hxm1]
                        exact fin rfl
                    · rw [i_nne, l3] at c1
                      omega
                  · rw [i_nne, l2] at c1
                    omega
                · rw [i_nne, l5] at c1
                  omega
              · obtain rfl : v5 = 47 := i_ext a1
                refine p2_cl (fun c1 => absurd c1 (by decide)) (fun _ => ?_)
                refine p2_bl (fun v12 h12 => ?_)
                have w12 : v12 = u6 := i_ext (by
                  rw [(gg_ld h12).2.2, (gg_ld g6).2.2]
                  have := eT hm.toInt (by omega) (by omega)
                  rw [show base + hm.toInt = x4.toInt by omega] at this
                  exact this)
                subst w12
                refine p2_bind_cr (fun c1 => ?_) (fun _ => ?_)
                · rw [i_ne, l5] at c1
                  omega
                refine p2_cl (fun c2 => ?_) (fun c2 => ?_)
                · refine p2_bind_cr (fun _ => ?_) (fun c3 => ?_)
                  · unfold d_termOf_104
                    simp only [hhs, hxm1]
                    refine p2_bind_cr (fun _ => ?_) (fun c1 => ?_)
                    · refine p2_bind_cr (fun _ => ?_) (fun c1 => ?_)
                      · refine p2_bind_cr (fun _ => ?_) (fun c1 => ?_)
                        · refine p2_bbr (fun v18 h18 => ?_)
                          refine fin ?_
                          show (cond (g_cnd .ne v12 0) ((m_div u5 v12).bind fun v5 => some v5) (some 0)) = some v18
                          rw [c2]
                          show (m_div u5 v12).bind (fun v5 => some v5) = some v18
                          rw [h18]
                          rfl
                        · rw [i_nne, l4] at c1
                          omega
                      · rw [i_nne, l3] at c1
                        omega
                    · rw [i_nne, l2] at c1
                      omega
                  · exact absurd (c2.symm.trans c3) (by decide)
                · refine p2_bind_cr (fun c3 => ?_) (fun _ => ?_)
                  · exact absurd (c3.symm.trans c2) (by decide)
                  · refine p2_bbr (fun F9 h9 => ?_)
                    unfold e_Laws_tellsTo_153
                    refine p2_bl (fun v23 h23 => ?_)
                    have u := gg_pfz h9
                    have q23 : v23.toInt = ai Am 45 0 := by
                      rw [(gg_ld h23).2.2, i_0]
                      exact E.2 0 (by decide) (by decide)
                    exact kb T q23 u.1 u.2
            · rw [i_nge, l2] at c1
              omega
          · rw [i_nne, l2] at c1
            omega
        · rw [i_nne, i_0] at c1
          omega
end H9ez
end Qz133
section Qz134
/-! what a law tells, on both sides -/
section H9ez1
variable {r0 : Nat} {p c l S C : Int} {P : Nat → Nat → Nat} {F : Nat → Nat → Int32} {A A' A0 A1 : Nat → Nat → Nat → Int32} {J : Nat → Nat → Nat → Int64} {Fm : Nat → Int32} {Am Am' Am0 Am1 : Nat → Nat → Int32} {Jm : Nat → Nat → Int64}
/-- the reference's answer by the class's: held to 0 .. S - 1 -/
def CLx (S a b : Int) : Prop := b = if a < 0 then 0 else if a < S then a else S - 1
theorem CLx.last {a b : Int} (e : a = b) (h0 : 0 ≤ b) (h1 : b < S) : CLx S a b := by
  unfold CLx
  rw [e, if_neg (by omega), if_pos h1]
/-- what both leave of a law -/
def TRx (S : Int) (r0 : Nat) (P : Nat → Nat → Nat) (F : Nat → Nat → Int32) (A0 : Nat → Nat → Nat → Int32) (Fm : Nat → Int32) (Am0 : Nat → Nat → Int32) (a : cR Int32) (b : mR Int32) : Prop := CLx S a.1.toInt b.1.toInt ∧ (a.2.1 = P ∧ a.2.2.1 = F ∧ ∀ r o, ¬ (r = r0 ∧ o = 17) → a.2.2.2.1 r o = A0 r o) ∧ (∀ k, k ≠ 63 → b.2.1 k = Fm k) ∧ ∀ q, q ≠ 46 → b.2.2.1 q = Am0 q
theorem TRx.go {a : cR Int32} {b : mR Int32} (oA : ∀ r o, ¬ (r = r0 ∧ o = 17) → A r o = A0 r o) (oM : ∀ q, q ≠ 46 → Am q = Am0 q) (h : TRx S r0 P F A Fm Am a b) : TRx S r0 P F A0 Fm Am0 a b := ⟨h.1, ⟨h.2.1.1, h.2.1.2.1, fun r o e => (h.2.1.2.2 r o e).trans (oA r o e)⟩, h.2.2.1, fun q e => (h.2.2.2 q e).trans (oM q e)⟩
/-- a load of the class's, by value -/
theorem gl {r o n : Nat} {i v : Int32} (h : m_ld (A r o) n i = some v) : 0 ≤ i.toInt ∧ i.toInt < (n : Int) ∧ v.toInt = ci A r o i.toInt := by
  have g := gg_ld h
  exact ⟨g.1, g.2.1, by rw [g.2.2]; rfl⟩
/-- a load of the reference's, by value -/
theorem gm {j n : Nat} {i v : Int32} (h : m_ld (Am j) n i = some v) : 0 ≤ i.toInt ∧ i.toInt < (n : Int) ∧ v.toInt = ai Am j i.toInt := by
  have g := gg_ld h
  exact ⟨g.1, g.2.1, by rw [g.2.2]; rfl⟩
theorem i_mm {x : Int32} (h : -2147483647 < x.toInt) : (x + (-1) + (-1)).toInt = x.toInt - 2 := by
  have e := i_m1 (x := x) (by omega)
  rw [i_m1 (by rw [e]; omega), e]
  omega
/-- a term that is worked out once a law is broken -/
theorem po_termB : ∀ {n : Nat} {F : Nat → Int32} {A : Nat → Nat → Int32} {J : Nat → Nat → Int64} {x2 x3 x4 : Int32}, F 63 = 1 → po (d_termOf_5 n F A J x2 x3 x4) (fun r => (r.2.1 63 = 1 ∧ ∀ k, k ≠ 63 → r.2.1 k = F k) ∧ ∀ q, q ≠ 46 → r.2.2.1 q = A q) := by
  intro n
  induction n with
  | zero => intro F A J x2 x3 x4 _ r hr; cases hr
  | succ n ih =>
    intro F A J x2 x3 x4 hF
    have go : ∀ {A2 : Nat → Nat → Int32} {J : Nat → Nat → Int64} {j s t x2 x3 x4 : Int32}, m_st A 46 400 s t = some A2 → po (d_termOf_5 n F A2 J x2 x3 x4) (fun r => (r.2.1 63 = 1 ∧ ∀ k, k ≠ 63 → r.2.1 k = F k) ∧ ∀ q, q ≠ 46 → r.2.2.1 q = A q) := fun {A2 J j s t x2 x3 x4} h => po_mono (ih hF) (fun r hr => ⟨hr.1, fun q hq => (hr.2 q hq).trans ((gg_st h).2.2.1 q hq)⟩)
    unfold d_termOf_5
    refine po_cond (fun _ => po_bl (fun v h => po_some ⟨⟨hF, fun _ _ => rfl⟩, fun _ _ => rfl⟩)) (fun _ => ?_)
    refine po_bl (fun v3 h3 => ?_)
    have op : ∀ {v5 v6 : Int32}, po (d_termOf_104 (d_termOf_5 n) n F A J x2 (x3 + (-1)) x4 v3 v5 v6) (fun r => (r.2.1 63 = 1 ∧ ∀ k, k ≠ 63 → r.2.1 k = F k) ∧ ∀ q, q ≠ 46 → r.2.2.1 q = A q) := fun {v5 v6} => by
      unfold d_termOf_104
      refine po_cond (fun _ => po_cond (fun _ => po_cond (fun _ => po_bl (fun v18 _ => po_bl (fun A19 h19 => go (j := 0) h19))) (fun _ => ?_)) (fun _ => ?_)) (fun _ => ?_)
      · unfold d_termOf_158
        exact po_bl (fun A21 h21 => go (j := 0) h21)
      · unfold d_termOf_158
        exact po_bl (fun A21 h21 => go (j := 0) h21)
      · unfold d_termOf_158
        exact po_bl (fun A21 h21 => go (j := 0) h21)
    refine po_cond (fun _ => po_bl (fun v5 _ => po_bl (fun v6 _ => ?_))) (fun _ => ?_)
    · refine po_cond (fun _ => op) (fun _ => po_cond (fun _ => op) (fun _ => po_bl (fun F9 h9 => po_some ⟨gg_pfz h9, fun _ _ => rfl⟩)))
    · refine po_cond (fun _ => po_bl (fun v11 _ => po_bl (fun v12 _ => po_bl (fun A13 h13 => ?_)))) (fun _ => po_bl (fun v14 _ => ?_))
      · unfold d_termOf_159
        exact go (j := 0) h13
      · unfold d_termOf_58
        refine po_bl (fun A20 h20 => ?_)
        unfold d_termOf_159
        exact go (j := 0) h20
theorem SGT.same (s : SGT r0 A0 Am0 p c l) (a15 : A r0 15 = A0 r0 15) (a16 : A r0 16 = A0 r0 16) (m42 : Am 42 = Am0 42) (m43 : Am 43 = Am0 43) : SGT r0 A Am p c l :=
  s.fr (fun i _ _ => by rw [ci_fr a15, ci_fr a16]; exact ⟨rfl, rfl⟩) (fun i _ _ => by rw [ai_fr m42, ai_fr m43]; exact ⟨rfl, rfl⟩)
/-- the last step of a law's walk: a term and its end -/
theorem p2_211 {x1 x3m x6 : Int32} {n m : Nat} {x3 x4 x5 : Int32} (hr : r0 ≠ 36) (p0 : 0 ≤ p) (s : SGT r0 A Am p (ai Am 39 x6.toInt) l) (c0 : 0 ≤ ai Am 39 x6.toInt) (e40 : ai Am 40 x6.toInt = ai Am 39 x6.toInt + l) (le : ai Am 40 x6.toInt ≤ 840) (st : ci A r0 15 (p + l) = 0) (hL : p + l < (F r0 1304).toInt) (hL4 : (F r0 1304).toInt ≤ 400) (fa : ∀ j, 0 ≤ j → j < 6 → ci A 36 9 j = ai Am 45 j) (f54 : ai Am 45 0 = ai Am 54 x1.toInt) (l0 : 0 ≤ ai Am 45 0) (l1 : ai Am 45 0 < S) (hS : ∀ (v : Int32) (A : Nat → Nat → Int32) (J : Nat → Nat → Int64), A 22 = Am 22 → d_stepsOf Fm A J x3m = some v → v.toInt = S) (hz : Fm 63 = 0) (e3 : x3.toInt = p) (e4 : x4.toInt = -1) (t0 : 0 ≤ x5.toInt) (t1 : x5.toInt ≤ x3.toInt) : P2 (e_Laws_tellsTo_13 n P F A J r0 x3 x4 x5) (d_tells_211 m Fm Am Jm x1 x3m x6) (TRx S r0 P F A Fm Am) := by
  unfold d_tells_211
  refine p2_br (fun v36 h36 => p2_br (fun v37 h37 => ?_))
  have g36 := (gm h36).2.2
  have g37 := (gm h37).2.2
  unfold d_termOf
  refine p2_value (base := 0) (p := p) (c := ai Am 39 x6.toInt) (l := l) hr (.inl rfl) p0 c0 s hL hL4 (by omega) (by omega) ?_ ?_ TFx.rfl' ⟨fun j j0 j1 => by rw [i_0] at j1; omega, fa⟩ (i := 0) (by rw [i_0]; rfl) (by omega) (by omega) (by rw [i_0]; omega) (by decide) s.1.1 t0 t1
  · intro n A2 Am2 x3 x4 x5 v T hv f2 e3 e4 t0 t1
    cases n with
    | zero => intro a b ha; cases ha
    | succ n =>
      unfold e_Laws_tellsTo_13
      refine p2_cl (fun c => ?_) (fun _ => ?_)
      · rw [i_ge] at c; omega
      refine p2_cl (fun c => ?_) (fun _ => ?_)
      · rw [i_lt, i_0] at c; omega
      refine p2_cl (fun c => ?_) (fun _ => ?_)
      · rw [i_ge] at c; omega
      refine p2_bl (fun v5 h5 => p2_bl (fun v6 h6 => ?_))
      have g5 : v5.toInt = 0 := by rw [(gl h5).2.2, e3, ci_fr (T.1 r0 15 (fun e => absurd e.2 (by decide)))]; exact st
      refine p2_cl (fun c => ?_) (fun _ => ?_)
      · rw [i_ne, i_0] at c; omega
      refine p2_cl (fun c => ?_) (fun _ => ?_)
      · rw [i_ne, i_0] at c; omega
      refine p2_bl (fun v16 h16 => ?_)
      have g16 : v16.toInt = v.toInt := by rw [(gl h16).2.2, i_0]; exact hv.symm
      have fr : (P = P ∧ F = F ∧ ∀ r o, ¬ (r = r0 ∧ o = 17) → A2 r o = A r o) ∧ (∀ k, k ≠ 63 → Fm k = Fm k) ∧ ∀ q, q ≠ 46 → Am2 q = Am q := ⟨⟨rfl, rfl, T.1⟩, fun _ _ => rfl, T.2.2⟩
      dsimp only
      refine p2_cr (fun _ => ?_) (fun c => ?_)
      · refine p2_cr (fun c => ?_) (fun c => ?_)
        · rw [i_ge, i_0] at c
          refine p2_br (fun v44 h44 => ?_)
          have g44 := hS v44 _ _ (T.2.2 22 (by decide)) h44
          refine p2_cr (fun c2 => ?_) (fun c2 => ?_)
          · rw [i_lt] at c2
            refine p2_some ⟨?_, fr⟩
            show CLx S v16.toInt v.toInt
            unfold CLx
            rw [if_neg (by omega), if_pos (by omega), g16]
          · rw [i_nlt] at c2
            refine p2_br (fun v46 h46 => ?_)
            have g46 := hS v46 _ _ (T.2.2 22 (by decide)) h46
            refine p2_some ⟨?_, fr⟩
            show CLx S v16.toInt (v46 - 1).toInt
            have r := i_rng v
            rw [i_sub (by rw [i_1]; omega) (by rw [i_1]; omega), i_1]
            unfold CLx
            rw [if_neg (by omega), if_neg (by omega), g46]
        · rw [i_nge, i_0] at c
          refine p2_some ⟨?_, fr⟩
          show CLx S v16.toInt (0 : Int32).toInt
          unfold CLx
          rw [if_pos (by omega), i_0]
      · rw [hz] at c
        exact absurd c (by decide)
  · intro A2 Am2 Fm2 v T hv h63 o63
    dsimp only
    refine p2_cr (fun c => ?_) (fun _ => ?_)
    · rw [h63] at c
      exact absurd c (by decide)
    refine p2_br (fun v47 h47 => p2_some ⟨?_, ⟨rfl, rfl, T.1⟩, o63, T.2.2⟩)
    show CLx S v.toInt v47.toInt
    have g47 := (gm h47).2.2
    rw [ai_fr (T.2.2 54 (by decide))] at g47
    rw [ai_fr (T.2.2 45 (by decide))] at hv
    exact CLx.last (by omega) (by omega) (by omega)
/-- the branches of a law, one by one -/
theorem p2_laws {C : Int} {x1 x3m x5m : Int32} (hr : r0 ≠ 36) (h840 : ∀ b, 0 ≤ b → ai Am0 40 b ≤ 840) (hL4 : (F r0 1304).toInt ≤ 400) (f54 : ai Am0 45 0 = ai Am0 54 x1.toInt) (l0 : 0 ≤ ai Am0 45 0) (l1 : ai Am0 45 0 < S) (hS : ∀ (v : Int32) (A : Nat → Nat → Int32) (J : Nat → Nat → Int64), A 22 = Am0 22 → d_stepsOf Fm A J x3m = some v → v.toInt = S) (hz : Fm 63 = 0) : ∀ {k : Nat} {p b q e : Int}, LPx C r0 A0 Am0 k p b q → FNx C r0 A0 Am0 q (b + k) e → 0 ≤ p → 0 ≤ b → e ≤ (F r0 1304).toInt → ∀ {n m : Nat} {A : Nat → Nat → Nat → Int32} {Am : Nat → Nat → Int32} {x3 x4 x5 x6 : Int32}, (∀ r o, ¬ (r = r0 ∧ o = 17) → A r o = A0 r o) → (∀ q, q ≠ 46 → Am q = Am0 q) → (∀ j, 0 ≤ j → j < 6 → ci A0 36 9 j = ai Am0 45 j) → x3.toInt = p → x4.toInt = -1 → 0 ≤ x5.toInt → x5.toInt ≤ x3.toInt → x6.toInt = b → x5m.toInt = b + k + 1 → P2 (e_Laws_tellsTo_13 n P F A J r0 x3 x4 x5) (d_tells_130 m Fm Am Jm x1 x3m x5m x6) (TRx S r0 P F A0 Fm Am0) := by
  intro k
  induction k with
  | zero =>
    intro p b q e L N p0 b0 he n m A Am x3 x4 x5 x6 oA oM fa e3 e4 t0 t1 e6 e5m
    have L : q = p := L
    subst L
    obtain ⟨l, t36, z39, s, e40, le, c0, ee⟩ := N
    have eb : b + ((0 : Nat) : Int) = b := by omega
    rw [eb] at t36 z39 s e40 le
    have hl := s.1.1
    cases m with
    | zero => intro a b _ hb; cases hb
    | succ m =>
      unfold d_tells_130
      refine p2_cr (fun c => ?_) (fun _ => ?_)
      · rw [i_ge] at c; omega
      refine p2_br (fun v19 h19 => ?_)
      have g19 : v19.toInt = 0 := by rw [(gm h19).2.2, ai_fr (oM 36 (by decide)), e6]; exact t36
      refine p2_cr (fun _ => ?_) (fun c => ?_)
      · refine p2_mono (R := TRx S r0 P F A Fm Am) (Q := TRx S r0 P F A0 Fm Am0) ?_ (fun a b h => h.go oA oM)
        refine p2_211 (p := q) (l := l) hr p0 ?_ ?_ ?_ ?_ ?_ (by omega) hL4 (fun j j0 j1 => ?_) ?_ ?_ ?_ (fun v A J h => hS v A J (h.trans (oM 22 (by decide)))) hz e3 e4 t0 t1
        · rw [ai_fr (oM 39 (by decide)), e6]
          exact s.same (oA r0 15 (fun e => absurd e.2 (by decide))) (oA r0 16 (fun e => absurd e.2 (by decide))) (oM 42 (by decide)) (oM 43 (by decide))
        · rw [ai_fr (oM 39 (by decide)), e6]; exact z39
        · rw [ai_fr (oM 39 (by decide)), ai_fr (oM 40 (by decide)), e6]; exact e40
        · rw [ai_fr (oM 40 (by decide)), e6]; exact h840 b b0
        · rw [ci_fr (oA r0 15 (fun e => absurd e.2 (by decide)))]; exact c0
        · rw [ci_fr (oA 36 9 (fun e => hr e.1.symm)), ai_fr (oM 45 (by decide))]; exact fa j j0 j1
        · rw [ai_fr (oM 45 (by decide)), ai_fr (oM 54 (by decide))]; exact f54
        · rw [ai_fr (oM 45 (by decide))]; exact l0
        · rw [ai_fr (oM 45 (by decide))]; exact l1
      · rw [i_neq, i_0] at c; omega
  | succ k ih =>
    intro p b q e L N p0 b0 he n m A Am x3 x4 x5 x6 oA oM fa e3 e4 t0 t1 e6 e5m
    obtain ⟨p1, ⟨l1', l2, l3, t36, z37, s1, e38, s2, e39, c60, v60, s3, e40, le, c0, eq1⟩, L⟩ := L
    have hl1 := s1.1.1
    have hl2 := s2.1.1
    have hl3 := s3.1.1
    have wle := LPx.le L
    have le8 := h840 b b0
    have qe : q + 1 ≤ e := by
      obtain ⟨l, -, -, s, -, -, -, e⟩ := N
      have := s.1.1
      omega
    cases m with
    | zero => intro a b _ hb; cases hb
    | succ m =>
      have ek : ((k + 1 : Nat) : Int) = (k : Int) + 1 := by omega
      unfold d_tells_130
      refine p2_cr (fun c => ?_) (fun _ => ?_)
      · rw [i_ge] at c; omega
      refine p2_br (fun v19 h19 => ?_)
      have g19 : v19.toInt = 1 := by rw [(gm h19).2.2, ai_fr (oM 36 (by decide)), e6]; exact t36
      refine p2_cr (fun c => ?_) (fun _ => ?_)
      · rw [i_eq, i_0] at c; omega
      refine p2_br (fun v21 h21 => p2_br (fun v22 h22 => ?_))
      have g21 : v21.toInt = ai Am0 37 b := by rw [(gm h21).2.2, ai_fr (oM 37 (by decide)), e6]
      have g22 : v22.toInt = ai Am0 38 b := by rw [(gm h22).2.2, ai_fr (oM 38 (by decide)), e6]
      unfold d_termOf
      have fin : ∀ {A2 : Nat → Nat → Nat → Int32} {Am2 : Nat → Nat → Int32} {Fm2 : Nat → Int32} {v35 w : Int32}, (∀ r o, ¬ (r = r0 ∧ o = 17) → A2 r o = A0 r o) → (∀ k, k ≠ 63 → Fm2 k = Fm k) → (∀ q, q ≠ 46 → Am2 q = Am0 q) → w.toInt = ai Am0 45 0 → m_ld (Am2 54) 6 x1 = some v35 → P2 (some (w, P, F, A2, J)) (some (v35, Fm2, Am2, Jm)) (TRx S r0 P F A0 Fm Am0) := fun {A2 Am2 Fm2 v35 w} oa o63 o2 hw h35 => p2_some ⟨by
        show CLx S w.toInt v35.toInt
        have g := (gm h35).2.2
        rw [ai_fr (o2 54 (by decide))] at g
        exact CLx.last (by omega) (by omega) (by omega), ⟨rfl, rfl, oa⟩, o63, o2⟩
      refine p2_value (base := 0) (p := p) (c := ai Am0 37 b) (l := l1') hr (.inl rfl) p0 z37 (s1.same (oA r0 15 (fun e => absurd e.2 (by decide))) (oA r0 16 (fun e => absurd e.2 (by decide))) (oM 42 (by decide)) (oM 43 (by decide))) (by omega) hL4 (by omega) (by omega) ?_ ?_ TFx.rfl' ⟨fun j j0 j1 => by rw [i_0] at j1; omega, fun j j0 j1 => by rw [ci_fr (oA 36 9 (fun e => hr e.1.symm)), ai_fr (oM 45 (by decide))]; exact fa j j0 j1⟩ (i := 0) (by rw [i_0]; rfl) (by omega) (by omega) (by rw [i_0]; omega) (by decide) hl1 t0 t1
      · intro n A2 Am2 x3 x4 x5 v T2 hv f2 e3 e4 t0 t1
        have oA2 : ∀ r o, ¬ (r = r0 ∧ o = 17) → A2 r o = A0 r o := fun r o h => (T2.1 r o h).trans (oA r o h)
        have oM2 : ∀ q, q ≠ 46 → Am2 q = Am0 q := fun q h => (T2.2.2 q h).trans (oM q h)
        dsimp only
        refine p2_br (fun v27 h27 => p2_br (fun v28 h28 => ?_))
        have g27 : v27.toInt = ai Am0 38 b := by rw [(gm h27).2.2, ai_fr (oM2 38 (by decide)), e6]
        have g28 : v28.toInt = ai Am0 39 b := by rw [(gm h28).2.2, ai_fr (oM2 39 (by decide)), e6]
        refine p2_value (base := 1) (p := p + l1') (c := ai Am0 38 b) (l := l2) hr (.inr rfl) (by omega) (by omega) (s2.same (oA2 r0 15 (fun e => absurd e.2 (by decide))) (oA2 r0 16 (fun e => absurd e.2 (by decide))) (oM2 42 (by decide)) (oM2 43 (by decide))) (by omega) hL4 (by omega) (by omega) ?_ ?_ TFx.rfl' ⟨fun j j0 j1 => by rw [i_0] at j1; omega, f2⟩ (i := 0) (by rw [i_0]; rfl) (by omega) (by omega) (by rw [i_0]; omega) (by decide) hl2 t0 t1
        · intro n A3 Am3 x3 x4 x5 v' T3 hv' f3 e3 e4 t0 t1
          have oA3 : ∀ r o, ¬ (r = r0 ∧ o = 17) → A3 r o = A0 r o := fun r o h => (T3.1 r o h).trans (oA2 r o h)
          have oM3 : ∀ q, q ≠ 46 → Am3 q = Am0 q := fun q h => (T3.2.2 q h).trans (oM2 q h)
          have f3' : ∀ j, 0 ≤ j → j < 6 → ci A3 36 9 j = ai Am3 45 j := f3
          dsimp only
          refine p2_cr (fun _ => ?_) (fun c => ?_)
          · cases n with
            | zero => intro a b ha; cases ha
            | succ n =>
              have q31 := i_p1 (x := x3) (by omega)
              have q51 := i_p1 (x := x5) (by omega)
              have q61 := i_p1 (x := x6) (by have := i_rng x5m; omega)
              have q4a := i_m1p (x := x4) (by omega)
              have q4m := i_m1 (x := x4) (by omega)
              have q4n := i_mm (x := x4) (by omega)
              obtain ⟨x31, hx31⟩ : ∃ z, x3 + 1 = z := ⟨_, rfl⟩
              obtain ⟨x51, hx51⟩ : ∃ z, x5 + 1 = z := ⟨_, rfl⟩
              obtain ⟨x61, hx61⟩ : ∃ z, x6 + 1 = z := ⟨_, rfl⟩
              obtain ⟨x4m, hx4m⟩ : ∃ z, x4 + (-1) = z := ⟨_, rfl⟩
              obtain ⟨x4a, hx4a⟩ : ∃ z, x4m + 1 = z := ⟨_, rfl⟩
              obtain ⟨x4n, hx4n⟩ : ∃ z, x4m + (-1) = z := ⟨_, rfl⟩
              rw [hx31] at q31
              rw [hx51] at q51
              rw [hx61] at q61
              rw [hx4m] at q4m q4a q4n
              rw [hx4a] at q4a
              rw [hx4n] at q4n
              simp only [hx61]
              unfold e_Laws_tellsTo_13
              simp only [hx31]
              refine p2_cl (fun c => ?_) (fun _ => ?_)
              · rw [i_ge] at c; omega
              refine p2_cl (fun c => ?_) (fun _ => ?_)
              · rw [i_lt, i_0] at c; omega
              refine p2_cl (fun c => ?_) (fun _ => ?_)
              · rw [i_ge] at c; omega
              refine p2_bl (fun v5 h5 => p2_bl (fun v6 h6 => ?_))
              have g5 : v5.toInt = 60 := by rw [(gl h5).2.2, e3, ci_fr (oA3 r0 15 (fun e => absurd e.2 (by decide)))]; exact c60
              have g6 : v6.toInt = p1 := by rw [(gl h6).2.2, e3, ci_fr (oA3 r0 16 (fun e => absurd e.2 (by decide)))]; exact v60
              have l2' : (2 : Int32).toInt = 2 := by decide
              have l47 : (47 : Int32).toInt = 47 := by decide
              have l60 : (60 : Int32).toInt = 60 := by decide
              refine p2_cl (fun _ => ?_) (fun c => ?_)
              · refine p2_cl (fun c => ?_) (fun _ => ?_)
                · rw [i_eq, i_1] at c; omega
                refine p2_cl (fun _ => ?_) (fun c => ?_)
                · refine p2_cl (fun c => ?_) (fun _ => ?_)
                  · rw [i_lt, i_1] at c; omega
                  refine p2_cl (fun _ => ?_) (fun c => ?_)
                  · unfold e_Laws_tellsTo_157
                    simp only [hx4m, hx4a]
                    refine p2_cl (fun c => ?_) (fun _ => ?_)
                    · rw [i_ne, l60] at c; omega
                    refine p2_bl (fun v29 h29 => p2_bl (fun v30 h30 => ?_))
                    have g29 : v29.toInt = v.toInt := by
                      rw [(gl h29).2.2, show x4m.toInt = 0 by omega, T3.2.1 rfl, hv]
                    have g30 : v30.toInt = v'.toInt := by
                      rw [(gl h30).2.2, show x4a.toInt = 1 by omega, hv']
                    refine p2_cl (fun c => ?_) (fun c => ?_)
                    · rw [i_ge] at c
                      unfold e_Laws_tellsTo_192 e_Laws_tellsTo_227
                      simp only [hx4n, hx51]
                      refine p2_cr (fun c2 => ?_) (fun _ => ?_)
                      · rw [i_lt] at c2; omega
                      refine ih (b := b + 1) L (by rw [show b + 1 + (k : Int) = b + ((k + 1 : Nat) : Int) by omega]; exact N) (by omega) (by omega) he oA3 oM3 fa g6 (by omega) (by omega) (by omega) (by omega) (by omega)
                    · rw [i_nge] at c
                      unfold e_Laws_tellsTo_192 e_Laws_tellsTo_227
                      simp only [hx4n, hx51]
                      refine p2_cr (fun _ => ?_) (fun c2 => ?_)
                      · refine p2_mono (R := TRx S r0 P F A3 Fm Am3) (Q := TRx S r0 P F A0 Fm Am0) ?_ (fun a b h => h.go oA3 oM3)
                        refine p2_211 (p := p + l1' + l2 + 1) (l := l3) hr (by omega) ?_ ?_ ?_ ?_ ?_ (by omega) hL4 f3' ?_ ?_ ?_ (fun v A J h => hS v A J (h.trans (oM3 22 (by decide)))) hz (by omega) (by omega) (by omega) (by omega)
                        · rw [ai_fr (oM3 39 (by decide)), e6]
                          exact s3.same (oA3 r0 15 (fun e => absurd e.2 (by decide))) (oA3 r0 16 (fun e => absurd e.2 (by decide))) (oM3 42 (by decide)) (oM3 43 (by decide))
                        · rw [ai_fr (oM3 39 (by decide)), e6]; omega
                        · rw [ai_fr (oM3 39 (by decide)), ai_fr (oM3 40 (by decide)), e6]; exact e40
                        · rw [ai_fr (oM3 40 (by decide)), e6]; exact h840 b b0
                        · rw [ci_fr (oA3 r0 15 (fun e => absurd e.2 (by decide)))]; exact c0
                        · rw [ai_fr (oM3 45 (by decide)), ai_fr (oM3 54 (by decide))]; exact f54
                        · rw [ai_fr (oM3 45 (by decide))]; exact l0
                        · rw [ai_fr (oM3 45 (by decide))]; exact l1
                      · rw [i_nlt] at c2; omega
                  · rw [i_nne, l47] at c; omega
                · rw [i_nne, l2'] at c; omega
              · rw [i_nne, i_0] at c; omega
          · rw [hz] at c
            exact absurd c (by decide)
        · intro A3 Am3 Fm3 w T3 hw h63 o63
          have oA3 : ∀ r o, ¬ (r = r0 ∧ o = 17) → A3 r o = A0 r o := fun r o h => (T3.1 r o h).trans (oA2 r o h)
          have oM3 : ∀ q, q ≠ 46 → Am3 q = Am0 q := fun q h => (T3.2.2 q h).trans (oM2 q h)
          dsimp only
          refine p2_cr (fun c => ?_) (fun _ => ?_)
          · rw [h63] at c
            exact absurd c (by decide)
          refine p2_br (fun v35 h35 => fin oA3 o63 oM3 ?_ h35)
          rw [hw, ai_fr (oM3 45 (by decide))]
      · intro A2 Am2 Fm2 w T2 hw h63 o63
        have oA2 : ∀ r o, ¬ (r = r0 ∧ o = 17) → A2 r o = A0 r o := fun r o h => (T2.1 r o h).trans (oA r o h)
        have oM2 : ∀ q, q ≠ 46 → Am2 q = Am0 q := fun q h => (T2.2.2 q h).trans (oM q h)
        dsimp only
        refine p2_br (fun v27 h27 => p2_br (fun v28 h28 => ?_))
        refine p2_r (po_termB h63) ?_
        rintro ⟨v29, F30, A31, J32⟩ ⟨⟨k63, q63⟩, o3⟩
        dsimp only at k63 q63 o3 ⊢
        refine p2_cr (fun c => ?_) (fun _ => ?_)
        · rw [k63] at c
          exact absurd c (by decide)
        refine p2_br (fun v35 h35 => ?_)
        refine p2_some ⟨?_, ⟨rfl, rfl, oA2⟩, fun k hk => (q63 k hk).trans (o63 k hk), fun q hq => (o3 q hq).trans (oM2 q hq)⟩
        show CLx S w.toInt v35.toInt
        have g := (gm h35).2.2
        rw [ai_fr (o3 54 (by decide)), ai_fr (oM2 54 (by decide))] at g
        rw [ai_fr (oM2 45 (by decide))] at hw
        exact CLx.last (by omega) (by omega) (by omega)
end H9ez1
end Qz134
section Qz135
/-! a night, on both sides: its pieces -/
section H9ez2
variable {n m : Nat} {h q r r' j : Nat} {t s b k l N x : Int} {ex : Prop} {P : Nat → Nat → Nat} {F F' : Nat → Nat → Int32} {A A' A1 : Nat → Nat → Nat → Int32} {J : Nat → Nat → Nat → Int64} {Fm Fm' : Nat → Int32} {Am Am' Am1 : Nat → Nat → Int32} {Jm : Nat → Nat → Int64} {x1 x2 x3 x4 y1 y2 : Int32}
theorem ix6 {s x : Int32} (hs : 0 ≤ s.toInt ∧ s.toInt ≤ 1) (hx : -1 ≤ x.toInt ∧ x.toInt ≤ 1000) : (6 * s + x).toInt = 6 * s.toInt + x.toInt := by
  have m := i_mulL (c := 6) (k := 6) (x := s) (by decide) (by omega) (by omega)
  rw [i_add (by rw [m]; omega) (by rw [m]; omega), m]
theorem ix36 {s x y : Int32} (hs : 0 ≤ s.toInt ∧ s.toInt ≤ 1) (hx : -1 ≤ x.toInt ∧ x.toInt ≤ 1000) (hy : -1 ≤ y.toInt ∧ y.toInt ≤ 1000) : (6 * (6 * s + x) + y).toInt = 6 * (6 * s.toInt + x.toInt) + y.toInt := by
  have e := ix6 hs hx
  have m := i_mulL (c := 6) (k := 6) (x := 6 * s + x) (by decide) (by rw [e]; omega) (by rw [e]; omega)
  rw [i_add (by rw [m, e]; omega) (by rw [m, e]; omega), m, e]
theorem cx6 {x y : Int32} (hx : -1 ≤ x.toInt ∧ x.toInt ≤ 1000) (hy : -1 ≤ y.toInt ∧ y.toInt ≤ 1000) : (x * 6 + y).toInt = x.toInt * 6 + y.toInt := by
  have m := i_mulR (c := 6) (k := 6) (x := x) (by decide) (by omega) (by omega)
  rw [i_add (by rw [m]; omega) (by rw [m]; omega), m]
theorem rx6 {x y : Int32} (hx : -1 ≤ x.toInt ∧ x.toInt ≤ 1000) (hy : -1 ≤ y.toInt ∧ y.toInt ≤ 1000) : (6 + 6 * x + y).toInt = 6 + 6 * x.toInt + y.toInt := by
  have l6 : (6 : Int32).toInt = 6 := by decide
  have m := i_mulL (c := 6) (k := 6) (x := x) (by decide) (by omega) (by omega)
  have a := i_add (x := 6) (y := 6 * x) (by rw [m, l6]; omega) (by rw [m, l6]; omega)
  rw [i_add (by rw [a, m, l6]; omega) (by rw [a, m, l6]; omega), a, m, l6]
theorem kx1 {c x : Int32} {k : Int} (hc : c.toInt = k) (hk : 0 ≤ k ∧ k ≤ 1000) (hx : -1 ≤ x.toInt ∧ x.toInt ≤ 1000) : (c + x).toInt = k + x.toInt := by
  rw [i_add (by omega) (by omega), hc]
theorem gg_div6 {x v : Int32} (h : m_div x 6 = some v) : v = x / 6 := by
  unfold m_div at h
  rw [if_neg (by decide)] at h
  cases h
  rfl
theorem gg_rem6 {x v : Int32} (h : m_rem x 6 = some v) : v = x - x / 6 * 6 := by
  unfold m_rem at h
  rw [if_neg (by decide)] at h
  cases h
  rfl
theorem v_steps (hs : 0 ≤ (Fm 18).toInt ∧ (Fm 18).toInt ≤ 1) (hx : -1 ≤ x1.toInt ∧ x1.toInt ≤ 1000) : po (d_stepsOf Fm Am Jm x1) (fun v => v.toInt = ai Am 22 (6 * (Fm 18).toInt + x1.toInt)) := by
  unfold d_stepsOf
  refine po_bl (fun v h => po_some ?_)
  rw [(gm h).2.2, ix6 hs hx]
theorem v_stepAt (hs : 0 ≤ (Fm 18).toInt ∧ (Fm 18).toInt ≤ 1) (h1 : -1 ≤ x1.toInt ∧ x1.toInt ≤ 1000) (h2 : -1 ≤ x2.toInt ∧ x2.toInt ≤ 1000) : po (d_stepAt Fm Am Jm x1 x2) (fun v => v.toInt = 6 * (6 * (Fm 18).toInt + x1.toInt) + x2.toInt) := by
  unfold d_stepAt
  exact po_some (ix36 hs h1 h2)
theorem v_menNow : po (d_menNow Fm Am Jm) (fun v => v.toInt = ai Am 29 (Fm 18).toInt) := by
  unfold d_menNow
  exact po_bl (fun v h => po_some (gm h).2.2)
theorem v_tasksNow : po (d_tasksNow Fm Am Jm) (fun v => v.toInt = ai Am 19 (Fm 18).toInt) := by
  unfold d_tasksNow
  exact po_bl (fun v h => po_some (gm h).2.2)
/-- what a house in use keeps to -/
def HYc (F : Nat → Nat → Int32) (A : Nat → Nat → Nat → Int32) (h : Nat) : Prop := (∀ d, 0 ≤ d → d < (F h 14).toInt → (0 ≤ ci A h 1 d ∧ ci A h 1 d < (F h 13).toInt) ∧ (0 ≤ ci A h 2 d ∧ ci A h 2 d < (F h 13).toInt) ∧ 1 ≤ ci A h 3 d ∧ ci A h 3 d ≤ 60) ∧ (∀ t, 0 ≤ t → t < (F h 16).toInt → 0 ≤ ci A h 4 t ∧ ci A h 4 t < (F h 13).toInt) ∧ (∀ t u, 0 ≤ t → t < (F h 16).toInt → 0 ≤ u → u < ci A h 5 t → (1 ≤ ci A h 6 (t * 6 + u) ∧ ci A h 6 (t * 6 + u) ≤ 120) ∧ (0 ≤ ci A h 7 (t * 6 + u) ∧ ci A h 7 (t * 6 + u) ≤ 99) ∧ (0 ≤ ci A h 8 (t * 6 + u) ∧ ci A h 8 (t * 6 + u) ≤ 99) ∧ (0 ≤ ci A h 9 (t * 6 + u) ∧ ci A h 9 (t * 6 + u) ≤ 99) ∧ ci A h 10 (t * 6 + u) ≤ 5 ∧ ci A h 11 (t * 6 + u) ≤ 5 ∧ (ci A h 10 (t * 6 + u) = -2 ∨ 0 ≤ ci A h 10 (t * 6 + u)) ∧ (ci A h 11 (t * 6 + u) = -2 ∨ 0 ≤ ci A h 11 (t * 6 + u))) ∧ (∀ m, 0 ≤ m → m < (F h 17).toInt → 0 ≤ ci A h 12 m ∧ ci A h 12 m < (F h 13).toInt) ∧ (1 ≤ (F h 18).toInt ∧ (F h 18).toInt ≤ 600)
theorem HYc.cg (H : HYc F A h) (hF : ∀ k, F' h k = F h k) (hA : ∀ o, o ≠ 17 → A' h o = A h o) : HYc F' A' h := by
  unfold HYc
  rw [hF, hF, hF, hF, hF, ci_fr (hA 1 (by decide)), ci_fr (hA 2 (by decide)), ci_fr (hA 3 (by decide)), ci_fr (hA 4 (by decide)), ci_fr (hA 5 (by decide)), ci_fr (hA 6 (by decide)), ci_fr (hA 7 (by decide)), ci_fr (hA 8 (by decide)), ci_fr (hA 9 (by decide)), ci_fr (hA 10 (by decide)), ci_fr (hA 11 (by decide)), ci_fr (hA 12 (by decide))]
  exact H
/-- the house of a night, on both sides -/
def NHx (h : Nat) (F : Nat → Nat → Int32) (A : Nat → Nat → Nat → Int32) (Fm : Nat → Int32) (Am : Nat → Nat → Int32) : Prop := HC h F A Fm Am ∧ HWx h F A Fm Am ∧ LHx h F A Fm Am ∧ HYc F A h ∧ (0 ≤ (Fm 18).toInt ∧ (Fm 18).toInt ≤ 1) ∧ (∀ t, 0 ≤ t → 0 ≤ ci A h 5 t ∧ ci A h 5 t ≤ 6 ∧ ((F h 16).toInt ≤ t → t < 6 → ci A h 5 t = 0)) ∧ ((0 ≤ (F h 13).toInt ∧ (F h 13).toInt ≤ 8) ∧ (0 ≤ (F h 14).toInt ∧ (F h 14).toInt ≤ 12) ∧ (0 ≤ (F h 15).toInt ∧ (F h 15).toInt ≤ 6) ∧ (0 ≤ (F h 16).toInt ∧ (F h 16).toInt ≤ 6) ∧ (0 ≤ (F h 17).toInt ∧ (F h 17).toInt ≤ 6)) ∧ (F h 1304).toInt ≤ 400 ∧ (∀ b, 0 ≤ b → ai Am 40 b ≤ 840) ∧ c_kind h = 6
theorem HC.fr (H : HC h F A Fm Am) (hF : ∀ k, F' h k = F h k) (hA : A' h 5 = A h 5) (e : Fm' 18 = Fm 18) (m : ∀ q, 8 ≤ q → q ≤ 44 → Am' q = Am q) : HC h F' A' Fm' Am' := by
  unfold HC
  rw [e, hF, hF, ci_fr hA, m 12 (by decide) (by decide), ai_fr (m 22 (by decide) (by decide))]
  exact ⟨fun q hq => by rw [hF, m (rq q) (by have := rq_in q; omega) (by have := rq_in q; omega)]; exact H.1 q hq, H.2⟩
theorem HWx.fr (H : HWx h F A Fm Am) (hF : ∀ k, F' h k = F h k) (hA : ∀ o, o ≠ 17 → A' h o = A h o) (e : Fm' 18 = Fm 18) (m : ∀ q, 8 ≤ q → q ≤ 44 → Am' q = Am q) : HWx h F' A' Fm' Am' := by
  unfold HWx RWs RWn
  rw [e, hF, hF, hF, hF, ci_fr (hA 1 (by decide)), ci_fr (hA 2 (by decide)), ci_fr (hA 3 (by decide)), ci_fr (hA 4 (by decide)), ci_fr (hA 5 (by decide)), ci_fr (hA 6 (by decide)), ci_fr (hA 7 (by decide)), ci_fr (hA 8 (by decide)), ci_fr (hA 9 (by decide)), ci_fr (hA 10 (by decide)), ci_fr (hA 11 (by decide)), ci_fr (hA 12 (by decide)), m 41 (by decide) (by decide), ai_fr (m 13 (by decide) (by decide)), ai_fr (m 14 (by decide) (by decide)), ai_fr (m 15 (by decide) (by decide)), ai_fr (m 20 (by decide) (by decide)), ai_fr (m 23 (by decide) (by decide)), ai_fr (m 24 (by decide) (by decide)), ai_fr (m 25 (by decide) (by decide)), ai_fr (m 26 (by decide) (by decide)), ai_fr (m 27 (by decide) (by decide)), ai_fr (m 28 (by decide) (by decide)), ai_fr (m 30 (by decide) (by decide))]
  exact H
theorem LHx.fr (H : LHx h F A Fm Am) (hF : ∀ k, F' h k = F h k) (hA : ∀ o, o ≠ 17 → A' h o = A h o) (e : Fm' 18 = Fm 18) (m : ∀ q, 8 ≤ q → q ≤ 44 → Am' q = Am q) : LHx h F' A' Fm' Am' := by
  intro k k0 k1
  rw [hF] at k1
  rw [hF, e, ci_fr (hA 14 (by decide)), ai_fr (m 34 (by decide) (by decide)), ai_fr (m 35 (by decide) (by decide))]
  rcases H k k0 k1 with h1 | ⟨C, B, e1, w, le⟩
  · exact .inl h1
  · exact .inr ⟨C, B, e1, w.fr (L := (F h 1304).toInt) ⟨fun i _ _ => by rw [ci_fr (hA 15 (by decide)), ci_fr (hA 16 (by decide))]; exact ⟨rfl, rfl⟩, fun i _ _ => by rw [ai_fr (m 42 (by decide) (by decide)), ai_fr (m 43 (by decide) (by decide))]; exact ⟨rfl, rfl⟩, fun q h1 h2 i _ _ => by rw [ai_fr (m q (by omega) (by omega))]⟩ le (Int.le_refl _) (Int.le_refl _), le⟩
theorem NHx.fr (H : NHx h F A Fm Am) (hF : ∀ k, F' h k = F h k) (hA : ∀ o, o ≠ 17 → A' h o = A h o) (e : Fm' 18 = Fm 18) (m : ∀ q, 8 ≤ q → q ≤ 44 → Am' q = Am q) : NHx h F' A' Fm' Am' := by
  obtain ⟨h1, h2, h3, h4, h5, h6, h7, h8, h10, h9⟩ := H
  refine ⟨h1.fr hF (hA 5 (by decide)) e m, h2.fr hF hA e m, h3.fr hF hA e m, h4.cg hF hA, by rw [e]; exact h5, by rw [ci_fr (hA 5 (by decide)), hF 16]; exact h6, by rw [hF, hF, hF, hF, hF]; exact h7, by rw [hF]; exact h8, by rw [ai_fr (m 40 (by decide) (by decide))]; exact h10, h9⟩
theorem NHx.sd (H : NHx h F A Fm Am) : 0 ≤ (Fm 18).toInt ∧ (Fm 18).toInt ≤ 1 := H.2.2.2.2.1
theorem NHx.ct (H : NHx h F A Fm Am) : (0 ≤ (F h 13).toInt ∧ (F h 13).toInt ≤ 8) ∧ (0 ≤ (F h 14).toInt ∧ (F h 14).toInt ≤ 12) ∧ (0 ≤ (F h 15).toInt ∧ (F h 15).toInt ≤ 6) ∧ (0 ≤ (F h 16).toInt ∧ (F h 16).toInt ≤ 6) ∧ (0 ≤ (F h 17).toInt ∧ (F h 17).toInt ≤ 6) := H.2.2.2.2.2.2.1
theorem NHx.kd (H : NHx h F A Fm Am) : c_kind h = 6 := H.2.2.2.2.2.2.2.2.2
theorem NHx.hy (H : NHx h F A Fm Am) : HYc F A h := H.2.2.2.1
theorem NHx.nn (H : NHx h F A Fm Am) : (F h 18).toInt = ai Am 41 (Fm 18).toInt := by
  have e := H.2.1.2.2.2.2
  unfold RWn at e
  rw [e]
  rfl
theorem NHx.men (H : NHx h F A Fm Am) : (F h 17).toInt = ai Am 29 (Fm 18).toInt := by
  have e : F h 17 = Am 29 (Fm 18).toInt.toNat := H.1.1 3 (by decide)
  rw [e]
  rfl
theorem NHx.tks (H : NHx h F A Fm Am) : (F h 16).toInt = ai Am 19 (Fm 18).toInt := by
  have e : F h 16 = Am 19 (Fm 18).toInt.toNat := H.1.1 2 (by decide)
  rw [e]
  rfl
theorem NHx.stp (H : NHx h F A Fm Am) (t0 : 0 ≤ t) (t1 : t < (F h 16).toInt) : ci A h 5 t = ai Am 22 (6 * (Fm 18).toInt + t) := H.1.2.2 t t0 t1
theorem NHx.s6 (H : NHx h F A Fm Am) (t0 : 0 ≤ t) : 0 ≤ ci A h 5 t ∧ ci A h 5 t ≤ 6 := ⟨(H.2.2.2.2.2.1 t t0).1, (H.2.2.2.2.2.1 t t0).2.1⟩
theorem NHx.z6 (H : NHx h F A Fm Am) (t0 : (F h 16).toInt ≤ t) (t1 : t < 6) (t2 : 0 ≤ t) : ci A h 5 t = 0 := (H.2.2.2.2.2.1 t t2).2.2 t0 t1
theorem NHx.row {u : Int} (H : NHx h F A Fm Am) (t0 : 0 ≤ t) (t1 : t < (F h 16).toInt) (u0 : 0 ≤ u) (u1 : u < ci A h 5 t) : ci A h 6 (t * 6 + u) = ai Am 23 (6 * (6 * (Fm 18).toInt + t) + u) ∧ ci A h 7 (t * 6 + u) = ai Am 24 (6 * (6 * (Fm 18).toInt + t) + u) ∧ ci A h 8 (t * 6 + u) = ai Am 25 (6 * (6 * (Fm 18).toInt + t) + u) ∧ ci A h 9 (t * 6 + u) = ai Am 26 (6 * (6 * (Fm 18).toInt + t) + u) ∧ NNx (ci A h 10 (t * 6 + u)) (ai Am 27 (6 * (6 * (Fm 18).toInt + t) + u)) ∧ NNx (ci A h 11 (t * 6 + u)) (ai Am 28 (6 * (6 * (Fm 18).toInt + t) + u)) := H.2.1.2.2.1 t u t0 t1 u0 u1
theorem NHx.rm (H : NHx h F A Fm Am) (t0 : 0 ≤ t) (t1 : t < (F h 16).toInt) : ci A h 4 t = ai Am 20 (6 * (Fm 18).toInt + t) := H.2.1.2.1 t t0 t1
theorem NHx.hm {m : Int} (H : NHx h F A Fm Am) (t0 : 0 ≤ m) (t1 : m < (F h 17).toInt) : ci A h 12 m = ai Am 30 (6 * (Fm 18).toInt + m) := H.2.1.2.2.2.1 m t0 t1
/-- what a man left: nothing, or a step of a task -/
def LQx (h : Nat) (F : Nat → Nat → Int32) (A : Nat → Nat → Nat → Int32) (a t u : Int) : Prop := (a = -1 ∧ t = -1 ∧ u = -1) ∨ (0 ≤ t ∧ t < (F h 16).toInt ∧ 0 ≤ u ∧ u < ci A h 5 t ∧ a = t * 6 + u)
/-- an evening on both sides, but for the doors and the nights; when men lay down only if ex -/
def SBx (ex : Prop) (h r : Nat) (F : Nat → Nat → Int32) (A : Nat → Nat → Nat → Int32) (Am : Nat → Nat → Int32) (j : Nat) (b : Int) : Prop := (∀ k : Int, 0 ≤ k → k < 36 → ci A r 1 k = ai Am j (b + (6 + k))) ∧ (∀ k : Int, 0 ≤ k → k < 6 → ci A r 2 k = ai Am j (b + k) ∧ 0 ≤ ci A r 2 k) ∧ (∀ k : Int, 0 ≤ k → k < 6 → ci A r 4 k = ai Am j (b + (72 + k))) ∧ (∀ m : Int, 0 ≤ m → m < (F h 17).toInt → LQx h F A (ci A r 3 m) (ai Am j (b + (42 + m))) (ai Am j (b + (48 + m))) ∧ ci A r 5 m = ai Am j (b + (54 + m)) ∧ ci A r 6 m = ai Am j (b + (60 + m)) ∧ (ex → ci A r 7 m = ai Am j (b + (66 + m))))
theorem SBx.dn (S : SBx ex h r F A Am j 0) (k0 : 0 ≤ k) (k1 : k < 36) : ci A r 1 k = ai Am j (6 + k) := by
  have e := S.1 k k0 k1
  rw [Int.zero_add] at e
  exact e
theorem SBx.sf (S : SBx ex h r F A Am j 0) (k0 : 0 ≤ k) (k1 : k < 6) : ci A r 2 k = ai Am j k ∧ 0 ≤ ci A r 2 k := by
  have e := S.2.1 k k0 k1
  rw [Int.zero_add] at e
  exact e
theorem SBx.tl (S : SBx ex h r F A Am j 0) (k0 : 0 ≤ k) (k1 : k < 6) : ci A r 4 k = ai Am j (72 + k) := by
  have e := S.2.2.1 k k0 k1
  rw [Int.zero_add] at e
  exact e
theorem SBx.mn {m : Int} (S : SBx ex h r F A Am j 0) (m0 : 0 ≤ m) (m1 : m < (F h 17).toInt) : LQx h F A (ci A r 3 m) (ai Am j (42 + m)) (ai Am j (48 + m)) ∧ ci A r 5 m = ai Am j (54 + m) ∧ ci A r 6 m = ai Am j (60 + m) ∧ (ex → ci A r 7 m = ai Am j (66 + m)) := by
  have e := S.2.2.2 m m0 m1
  simp only [Int.zero_add] at e
  exact e
theorem SBx.mk0 (h1 : ∀ k : Int, 0 ≤ k → k < 36 → ci A r 1 k = ai Am j (6 + k)) (h2 : ∀ k : Int, 0 ≤ k → k < 6 → ci A r 2 k = ai Am j k ∧ 0 ≤ ci A r 2 k) (h3 : ∀ k : Int, 0 ≤ k → k < 6 → ci A r 4 k = ai Am j (72 + k)) (h4 : ∀ m : Int, 0 ≤ m → m < (F h 17).toInt → LQx h F A (ci A r 3 m) (ai Am j (42 + m)) (ai Am j (48 + m)) ∧ ci A r 5 m = ai Am j (54 + m) ∧ ci A r 6 m = ai Am j (60 + m) ∧ (ex → ci A r 7 m = ai Am j (66 + m))) : SBx ex h r F A Am j 0 := by
  refine ⟨fun k a b => ?_, fun k a b => ?_, fun k a b => ?_, fun k a b => ?_⟩
  · rw [Int.zero_add]; exact h1 k a b
  · rw [Int.zero_add]; exact h2 k a b
  · rw [Int.zero_add]; exact h3 k a b
  · simp only [Int.zero_add]; exact h4 k a b
theorem LQx.cg {a t u : Int} (L : LQx h F A a t u) (hF : F' h 16 = F h 16) (h5 : A' h 5 = A h 5) : LQx h F' A' a t u := by
  unfold LQx
  rw [hF, ci_fr h5]
  exact L
theorem LQx.t6 {a t u : Int} (L : LQx h F A a t u) : (a < 0 ↔ t < 0) ∧ (0 ≤ t → a / 6 = t ∧ a % 6 = u) ∨ ¬ (u < 6) := by
  rcases L with ⟨rfl, rfl, rfl⟩ | ⟨t0, t1, u0, u1, rfl⟩
  · exact .inl ⟨by omega, by omega⟩
  · by_cases e : u < 6
    · exact .inl ⟨by omega, by omega⟩
    · exact .inr e
/-- nothing that it rests on has changed -/
theorem SBx.cg (S : SBx ex h r F A Am j b) (h17 : F' h 17 = F h 17) (h16 : F' h 16 = F h 16) (h5 : A' h 5 = A h 5) (a : ∀ o, 1 ≤ o → o ≤ 7 → A' r o = A r o) (m : Am' j = Am j) : SBx ex h r F' A' Am' j b := by
  unfold SBx LQx
  rw [h17, h16, ci_fr h5, ci_fr (a 1 (by decide) (by decide)), ci_fr (a 2 (by decide) (by decide)), ci_fr (a 3 (by decide) (by decide)), ci_fr (a 4 (by decide) (by decide)), ci_fr (a 5 (by decide) (by decide)), ci_fr (a 6 (by decide) (by decide)), ci_fr (a 7 (by decide) (by decide)), ai_fr m]
  exact S
/-- is a task ended? -/
theorem p2_ended18 (hs : 0 ≤ (Fm 18).toInt ∧ (Fm 18).toInt ≤ 1) (t0 : 0 ≤ t) (t6 : t < 6) (es : ci A h 5 t = ai Am 22 (6 * (Fm 18).toInt + t)) (s6 : 0 ≤ ci A h 5 t ∧ ci A h 5 t ≤ 6) (hd : ∀ u, 0 ≤ u → u < ci A h 5 t → ci A q 1 (t * 6 + u) = ai Am 48 (6 + (t * 6 + u)) ∧ ci A h 7 (t * 6 + u) = ai Am 24 (6 * (6 * (Fm 18).toInt + t) + u)) (e1 : y1.toInt = t) (e3 : x3.toInt = t * 6 + ci A h 5 t) : ∀ {n m : Nat} {x4 y2 : Int32}, x4.toInt = t * 6 + y2.toInt → 0 ≤ y2.toInt → y2.toInt ≤ ci A h 5 t → P2 (e_House_isEnded_18 n P F A J h q x3 x4) (d_isEnded_2 m Fm Am Jm y1 y2) (fun a b => a = b ∧ ((a.toInt = 1) ∨ (a.toInt = 0 ∧ 0 < ci A h 5 t))) := by
  intro n
  induction n with
  | zero => intro m x4 y2 _ _ _ a b ha; cases ha
  | succ n ih =>
    intro m x4 y2 e4 u0 u1
    cases m with
    | zero => intro a b _ hb; cases hb
    | succ m =>
      unfold e_House_isEnded_18 d_isEnded_2
      refine p2_r (v_steps hs (by omega)) ?_
      intro v1 q1
      rw [e1, ← es] at q1
      refine p2_cl (fun c => ?_) (fun c => ?_)
      · rw [i_ge] at c
        refine p2_cr (fun _ => p2_some ⟨rfl, .inl i_1⟩) (fun c2 => ?_)
        rw [i_nge] at c2
        omega
      · rw [i_nge] at c
        refine p2_cr (fun c2 => ?_) (fun c2 => ?_)
        · rw [i_ge] at c2
          omega
        refine p2_bl (fun v3 h3 => p2_bl (fun v4 h4 => ?_))
        refine p2_br (fun w3 k3 => ?_)
        refine p2_r (v_stepAt hs (by omega) (by omega)) ?_
        intro w4 q4
        refine p2_br (fun w5 k5 => ?_)
        have g3 := (gl h3).2.2
        have g4 := (gl h4).2.2
        have g5 := (gm k3).2.2
        have g6 := (gm k5).2.2
        obtain ⟨d1, d2⟩ := hd y2.toInt u0 (by omega)
        rw [rx6 (by omega) (by omega), e1] at g5
        rw [q4, e1] at g6
        rw [e4] at g3 g4
        have z : 6 + 6 * t + y2.toInt = 6 + (t * 6 + y2.toInt) := by omega
        rw [z] at g5
        have z2 : v3.toInt = w3.toInt := by omega
        have z4 : v4.toInt = w5.toInt := by omega
        have e41 := i_add (x := x4) (y := 1) (by rw [i_1]; omega) (by rw [i_1]; omega)
        have e21 := i_add (x := y2) (y := 1) (by rw [i_1]; omega) (by rw [i_1]; omega)
        rw [i_1] at e41 e21
        refine p2_cl (fun c3 => ?_) (fun c3 => ?_)
        · rw [i_ge] at c3
          refine p2_cr (fun _ => ?_) (fun c4 => ?_)
          · exact ih (by omega) (by omega) (by omega)
          · rw [i_nge] at c4
            omega
        · rw [i_nge] at c3
          refine p2_cr (fun c4 => ?_) (fun c4 => ?_)
          · rw [i_ge] at c4
            omega
          · exact p2_some ⟨rfl, .inr ⟨i_0, by omega⟩⟩
theorem p2_ended (H : NHx h F A Fm Am) (S : SBx ex h q F A Am 48 0) (t0 : 0 ≤ t) (t1 : t < (F h 16).toInt) (e1 : y1.toInt = t) (e2 : x2.toInt = t) : P2 (e_House_isEnded n P F A J h q x2) (d_isEnded m Fm Am Jm y1) (fun a b => a = b ∧ ((a.toInt = 1) ∨ (a.toInt = 0 ∧ 0 < ci A h 5 t))) := by
  have ct := H.ct
  have s6 := H.s6 t0
  unfold e_House_isEnded d_isEnded
  refine p2_bl (fun v1 h1 => ?_)
  have g1 := (gl h1).2.2
  rw [e2] at g1
  have m6 := i_mulR (c := 6) (k := 6) (x := x2) (by decide) (by omega) (by omega)
  exact p2_ended18 H.sd t0 (by omega) (H.stp t0 t1) s6 (fun u u0 u1 => ⟨S.dn (by omega) (by omega), (H.row t0 t1 u0 u1).2.1⟩) e1 (by rw [i_add (by rw [m6]; omega) (by rw [m6]; omega), m6]; omega) (by rw [m6, i_0]; omega) (by rw [i_0]; omega) (by rw [i_0]; omega)
/-- a step is over -/
theorem p2_fin {u : Int} (H : NHx h F A Fm Am) (S : SBx ex h q F A Am 48 0) (hq : c_kind q = 2) (t0 : 0 ≤ t) (t1 : t < (F h 16).toInt) (u0 : 0 ≤ u) (u1 : u < ci A h 5 t) (e2 : x2.toInt = t) (e3 : x3.toInt = u) (f1 : y1.toInt = t) (f2 : y2.toInt = u) : P2 (e_House_finish P F A J h q x2 x3) (d_does Fm Am Jm y1 y2) (fun a b => a.2.1 = P ∧ a.2.2.1 = F ∧ (∀ r o, ¬ (r = q ∧ o = 1) → a.2.2.2.1 r o = A r o) ∧ b.2.1 = Fm ∧ (∀ j, j ≠ 48 → b.2.2.1 j = Am j) ∧ (∀ i, 0 ≤ i → (i < 6 ∨ 42 ≤ i) → ai b.2.2.1 48 i = ai Am 48 i) ∧ ∀ k, 0 ≤ k → k < 36 → ci a.2.2.2.1 q 1 k = ai b.2.2.1 48 (6 + k)) := by
  have ct := H.ct
  have s6 := H.s6 t0
  have hs := H.sd
  have hne : h ≠ q := k62 H.kd hq
  obtain ⟨-, -, -, -, -, rw6⟩ := H.row t0 t1 u0 u1
  have y5 := (H.hy.2.2.1 t u t0 t1 u0 u1).2.2.2.2.2.1
  have ic := cx6 (x := x2) (y := x3) (by omega) (by omega)
  have im := rx6 (x := y1) (y := y2) (by omega) (by omega)
  unfold e_House_finish d_does
  refine p2_bl (fun v1 h1 => p2_bl (fun A2 h2 => p2_bl (fun v3 h3 => ?_)))
  refine p2_br (fun w1 k1 => p2_br (fun Am2 k2 => ?_))
  refine p2_r (v_stepAt hs (by omega) (by omega)) ?_
  intro w3 q3
  refine p2_br (fun w4 k4 => ?_)
  have g1 := (gl h1).2.2
  have U2 := (gg_cst h2).2.2
  have g3 := (gl h3).2.2
  have f1' := (gm k1).2.2
  have M2 := gg_st k2
  have f4 := (gm k4).2.2
  rw [ic, e2, e3] at g1 U2 g3
  rw [im, f1, f2] at f1' M2
  rw [q3, f1, f2] at f4
  rw [ci_fr (U2.2.2 h 11 (fun e => hne e.1))] at g3
  rw [ai_fr (M2.2.2.1 28 (by decide))] at f4
  have D0 : ∀ k, 0 ≤ k → k < 36 → ci A q 1 k = ai Am 48 (6 + k) := fun k k0 k1 => S.dn k0 k1
  have z0 : v1 = w1 := i_ext (by
    rw [g1, f1', D0 (t * 6 + u) (by omega) (by omega)]
    congr 1
    omega)
  have D2 : ∀ k, 0 ≤ k → k < 36 → ci A2 q 1 k = ai Am2 48 (6 + k) := fun k k0 k1 => by
    by_cases e : k = t * 6 + u
    · have e' : 6 + k = 6 + 6 * t + u := by omega
      rw [e', M2.2.2.2.1, e, U2.1, z0]
    · rw [U2.2.1 k k0 e, M2.2.2.2.2 (6 + k) (by omega) (by omega)]
      exact D0 k k0 k1
  have out2 : ∀ i, 0 ≤ i → (i < 6 ∨ 42 ≤ i) → ai Am2 48 i = ai Am 48 i := fun i i0 hi => M2.2.2.2.2 i i0 (by omega)
  have done : P2 (some ((), P, F, A2, J)) (some ((), Fm, Am2, Jm)) (fun a b => a.2.1 = P ∧ a.2.2.1 = F ∧ (∀ r o, ¬ (r = q ∧ o = 1) → a.2.2.2.1 r o = A r o) ∧ b.2.1 = Fm ∧ (∀ j, j ≠ 48 → b.2.2.1 j = Am j) ∧ (∀ i, 0 ≤ i → (i < 6 ∨ 42 ≤ i) → ai b.2.2.1 48 i = ai Am 48 i) ∧ ∀ k, 0 ≤ k → k < 36 → ci a.2.2.2.1 q 1 k = ai b.2.2.1 48 (6 + k)) := p2_some ⟨rfl, rfl, U2.2.2, rfl, M2.2.2.1, out2, D2⟩
  rcases rw6 with e6 | ⟨e6, e6'⟩
  · refine p2_cl (fun c => ?_) (fun c => ?_)
    · rw [i_lt, i_0] at c
      refine p2_cr (fun _ => done) (fun c2 => ?_)
      rw [i_nlt, i_0] at c2
      omega
    · rw [i_nlt, i_0] at c
      refine p2_cr (fun c2 => ?_) (fun _ => ?_)
      · rw [i_lt, i_0] at c2
        omega
      have ic2 := cx6 (x := x2) (y := v3) (by omega) (by omega)
      have im2 := rx6 (x := y1) (y := w4) (by omega) (by omega)
      refine p2_bl (fun v5 h5 => p2_br (fun w6 k6 => ?_))
      have g5 := (gl h5).2.2
      have f6 := (gm k6).2.2
      rw [ic2, e2] at g5
      rw [im2, f1] at f6
      have z5 : v5.toInt = w6.toInt := by
        rw [g5, f6, D2 (t * 6 + v3.toInt) (by omega) (by omega)]
        congr 1
        omega
      refine p2_cl (fun c3 => ?_) (fun c3 => ?_)
      · rw [i_le, i_0] at c3
        refine p2_cr (fun _ => done) (fun c4 => ?_)
        rw [i_nle, i_0] at c4
        omega
      · rw [i_nle, i_0] at c3
        refine p2_cr (fun c4 => ?_) (fun _ => ?_)
        · rw [i_le, i_0] at c4
          omega
        refine p2_bl (fun v7 h7 => p2_bl (fun A8 h8 => p2_br (fun w8 k8 => p2_br (fun Am9 k9 => ?_))))
        have g7 := (gl h7).2.2
        have U8 := (gg_cst h8).2.2
        have f8 := (gm k8).2.2
        have M9 := gg_st k9
        rw [ic2, e2] at g7 U8
        rw [im2, f1] at f8 M9
        have z7 : v7 = w8 := i_ext (by
          rw [g7, f8, D2 (t * 6 + v3.toInt) (by omega) (by omega)]
          congr 1
          omega)
        refine p2_some ⟨rfl, rfl, fun r o e => (U8.2.2 r o e).trans (U2.2.2 r o e), rfl, fun j hj => (M9.2.2.1 j hj).trans (M2.2.2.1 j hj), fun i i0 hi => (M9.2.2.2.2 i i0 (by omega)).trans (out2 i i0 hi), fun k k0 k1 => ?_⟩
        show ci A8 q 1 k = ai Am9 48 (6 + k)
        by_cases e : k = t * 6 + v3.toInt
        · have e' : 6 + k = 6 + 6 * t + w4.toInt := by omega
          rw [e', M9.2.2.2.1, e, U8.1, z7]
        · rw [U8.2.1 k k0 e, M9.2.2.2.2 (6 + k) (by omega) (by omega)]
          exact D2 k k0 k1
  · refine p2_cl (fun _ => ?_) (fun c => ?_)
    · refine p2_cr (fun _ => done) (fun c2 => ?_)
      rw [i_nlt, i_0] at c2
      omega
    · rw [i_nlt, i_0] at c
      omega
theorem clamp_v {v s w : Int32} (hs : 1 ≤ s.toInt) (cl : CLx s.toInt v.toInt w.toInt) : (if 0 < (if v < s - 1 then v else s - 1) then (if v < s - 1 then v else s - 1) else 0) = w := by
  have r := i_rng s
  have e := i_sub (x := s) (y := 1) (by rw [i_1]; omega) (by rw [i_1]; omega)
  rw [i_1] at e
  unfold CLx at cl
  refine i_ext ?_
  by_cases c1 : v < s - 1
  · rw [if_pos c1]
    rw [Int32.lt_iff_toInt_lt, e] at c1
    by_cases c2 : (0 : Int32) < v
    · rw [if_pos c2]
      rw [Int32.lt_iff_toInt_lt, i_0] at c2
      rw [if_neg (by omega), if_pos (by omega)] at cl
      omega
    · rw [if_neg c2, i_0]
      rw [Int32.lt_iff_toInt_lt, i_0] at c2
      by_cases c3 : v.toInt < 0
      · rw [if_pos c3] at cl
        omega
      · rw [if_neg c3, if_pos (by omega)] at cl
        omega
  · rw [if_neg c1]
    rw [Int32.lt_iff_toInt_lt, e] at c1
    rw [if_neg (by omega)] at cl
    have cl : w.toInt = s.toInt - 1 := by
      by_cases c3 : v.toInt < s.toInt
      · rw [if_pos c3] at cl
        omega
      · rw [if_neg c3] at cl
        exact cl
    by_cases c2 : (0 : Int32) < s - 1
    · rw [if_pos c2]
      omega
    · rw [if_neg c2, i_0]
      rw [Int32.lt_iff_toInt_lt, i_0, e] at c2
      omega
/-- the step that a man's law tells -/
theorem p2_chosen {u mn : Int} (H : NHx h F A Fm Am) (S : SBx ex h q F A Am 48 0) (hq : c_kind q = 2) (e8 : P 36 8 = h) (e9 : P 36 9 = q) (m0 : 0 ≤ mn) (m1 : mn < (F h 17).toInt) (t0 : 0 ≤ t) (t1 : t < (F h 16).toInt) (u0 : 0 ≤ u) (u1 : u < ci A h 5 t) (et : ai Am 48 (42 + mn) = t) (e54 : ai Am 54 mn = u) (e5 : ci A 36 5 mn = u) (e55 : ci A 36 6 mn = ai Am 55 mn) (e1 : x1.toInt = mn) (f1 : y1.toInt = mn) (e2 : x2.toInt = t) (e3 : x3 = y2) : P2 (e_Sleep_chosenStep n P F A J x1 x2 x3) (d_tells m Fm Am Jm y1 y2) (fun a b => a.1 = b.1 ∧ (0 ≤ a.1.toInt ∧ a.1.toInt < ci A h 5 t) ∧ (a.2.1 = P ∧ a.2.2.1 = F ∧ ∀ r o, ¬ (r = 36 ∧ o = 9) → ¬ (r = h ∧ o = 17) → a.2.2.2.1 r o = A r o) ∧ (∀ k, k ≠ 63 → b.2.1 k = Fm k) ∧ ∀ j, j ≠ 45 → j ≠ 46 → b.2.2.1 j = Am j) := by
  have ct := H.ct
  have s6 := H.s6 t0
  have hs := H.sd
  have hne : h ≠ q := k62 H.kd hq
  have h36 : h ≠ 36 := k6ne H.kd
  have q36 : q ≠ 36 := k2ne hq
  have i42 := kx1 (c := 42) (x := y1) (k := 42) (by decide) (by decide) (by omega)
  have i6 := ix6 (s := Fm 18) (x := y1) hs (by omega)
  have l0 : (0 : Int32).toInt = 0 := by decide
  have l1 : (1 : Int32).toInt = 1 := by decide
  have l2 : (2 : Int32).toInt = 2 := by decide
  have l3 : (3 : Int32).toInt = 3 := by decide
  have l4 : (4 : Int32).toInt = 4 := by decide
  have l5 : (5 : Int32).toInt = 5 := by decide
  unfold e_Sleep_chosenStep d_tells
  refine p2_bl (fun v1 h1 => p2_bl (fun A2 h2 => p2_bl (fun _ hk => ?_)))
  obtain rfl := (gg_chk hk).2.symm
  try rw [e9]
  refine p2_bl (fun v4 h4 => p2_bl (fun v5 h5 => p2_bl (fun A6 h6 => p2_bl (fun _ hk => ?_))))
  obtain rfl := (gg_chk hk).2.symm
  try rw [e8]
  refine p2_bl (fun v8 h8 => p2_bl (fun A9 h9 => p2_bl (fun A10 h10 => p2_bl (fun _ hk => ?_))))
  obtain rfl := (gg_chk hk).2.symm
  try rw [e9]
  refine p2_bl (fun v12 h12 => p2_bl (fun A13 h13 => p2_bl (fun v14 h14 => p2_bl (fun A15 h15 => p2_bl (fun _ hk => ?_)))))
  obtain rfl := (gg_chk hk).2.symm
  try rw [e8]
  have g1 := (gl h1).2.2
  have U2 := (gg_cst h2).2.2
  have g4 := (gl h4).2.2
  have g5 := (gl h5).2.2
  have U6 := (gg_cst h6).2.2
  have g8 := (gl h8).2.2
  have U9 := (gg_cst h9).2.2
  have U10 := (gg_cst h10).2.2
  have g12 := (gl h12).2.2
  have U13 := (gg_cst h13).2.2
  have g14 := (gl h14).2.2
  have U15 := (gg_cst h15).2.2
  rw [l0] at U2
  rw [l1] at U6
  rw [l2] at U9
  rw [l3] at U10
  rw [l4] at U13
  rw [l5] at U15
  have o2 : ∀ r o, ¬ (r = 36 ∧ o = 9) → A2 r o = A r o := U2.2.2
  have o6 : ∀ r o, ¬ (r = 36 ∧ o = 9) → A6 r o = A r o := fun r o e => (U6.2.2 r o e).trans (o2 r o e)
  have o10 : ∀ r o, ¬ (r = 36 ∧ o = 9) → A10 r o = A r o := fun r o e => (U10.2.2 r o e).trans ((U9.2.2 r o e).trans (o6 r o e))
  have o13 : ∀ r o, ¬ (r = 36 ∧ o = 9) → A13 r o = A r o := fun r o e => (U13.2.2 r o e).trans (o10 r o e)
  have o15 : ∀ r o, ¬ (r = 36 ∧ o = 9) → A15 r o = A r o := fun r o e => (U15.2.2 r o e).trans (o13 r o e)
  rw [e1, e5] at g1
  rw [ci_fr (o2 36 5 (by decide)), e1, e5] at g4
  have ic := cx6 (x := x2) (y := v4) (by omega) (by omega)
  rw [ic, e2, g4, ci_fr (o2 q 1 (fun e => q36 e.1))] at g5
  rw [ci_fr (o6 h 5 (fun e => h36 e.1)), e2] at g8
  rw [ci_fr (o10 q 2 (fun e => q36 e.1)), e2] at g12
  rw [ci_fr (o13 36 6 (by decide)), e1, e55] at g14
  have c0 : ci A15 36 9 0 = u := by rw [U15.2.1 0 (by decide) (by decide), U13.2.1 0 (by decide) (by decide), U10.2.1 0 (by decide) (by decide), U9.2.1 0 (by decide) (by decide), U6.2.1 0 (by decide) (by decide), U2.1]; exact g1
  have c1 : ci A15 36 9 1 = v5.toInt := by rw [U15.2.1 1 (by decide) (by decide), U13.2.1 1 (by decide) (by decide), U10.2.1 1 (by decide) (by decide), U9.2.1 1 (by decide) (by decide)]; exact U6.1
  have c2 : ci A15 36 9 2 = v8.toInt := by rw [U15.2.1 2 (by decide) (by decide), U13.2.1 2 (by decide) (by decide), U10.2.1 2 (by decide) (by decide)]; exact U9.1
  have c3 : ci A15 36 9 3 = x3.toInt := by rw [U15.2.1 3 (by decide) (by decide), U13.2.1 3 (by decide) (by decide)]; exact U10.1
  have c4 : ci A15 36 9 4 = v12.toInt := by rw [U15.2.1 4 (by decide) (by decide)]; exact U13.1
  have c5 : ci A15 36 9 5 = v14.toInt := U15.1
  refine p2_br (fun w1 k1 => p2_br (fun w2 k2 => p2_br (fun w3 k3 => p2_br (fun w4 k4 => p2_br (fun B5 k5 => p2_br (fun w6 k6 => p2_br (fun w7 k7 => p2_br (fun B8 k8 => ?_))))))))
  have a1 := (gm k1).2.2
  have a2 := (gm k2).2.2
  have a3 := (gm k3).2.2
  have a4 := (gm k4).2.2
  have M5 := gg_st k5
  have a6 := (gm k6).2.2
  have a7 := (gm k7).2.2
  have M8 := gg_st k8
  rw [i42, f1, et] at a1
  rw [i6, f1] at a2 a3
  rw [f1, e54] at a4
  rw [l0] at M5
  rw [ai_fr (M5.2.2.1 54 (by decide)), f1, e54] at a6
  rw [rx6 (by omega) (by omega), a1, a6, ai_fr (M5.2.2.1 48 (by decide))] at a7
  rw [l1] at M8
  refine p2_r (v_steps hs (by omega)) ?_
  intro w9 a9
  refine p2_br (fun B10 k10 => p2_br (fun B11 k11 => p2_br (fun w12 k12 => p2_br (fun B13 k13 => p2_br (fun w14 k14 => p2_br (fun B15 k15 => p2_br (fun Fm16 k16 => ?_)))))))
  have M10 := gg_st k10
  have M11 := gg_st k11
  have a12 := (gm k12).2.2
  have M13 := gg_st k13
  have a14 := (gm k14).2.2
  have M15 := gg_st k15
  have u16 := gg_pfz k16
  rw [l2] at M10
  rw [l3] at M11
  rw [l4] at M13
  rw [l5] at M15
  have b8 : ∀ j, j ≠ 45 → B8 j = Am j := fun j hj => (M8.2.2.1 j hj).trans (M5.2.2.1 j hj)
  have b11 : ∀ j, j ≠ 45 → B11 j = Am j := fun j hj => (M11.2.2.1 j hj).trans ((M10.2.2.1 j hj).trans (b8 j hj))
  have b13 : ∀ j, j ≠ 45 → B13 j = Am j := fun j hj => (M13.2.2.1 j hj).trans (b11 j hj)
  have b15 : ∀ j, j ≠ 45 → B15 j = Am j := fun j hj => (M15.2.2.1 j hj).trans (b13 j hj)
  rw [a1, ai_fr (b8 22 (by decide)), ← H.stp t0 t1] at a9
  rw [a1, ai_fr (b11 48 (by decide))] at a12
  rw [f1, ai_fr (b13 55 (by decide))] at a14
  have d0 : ai B15 45 0 = u := by rw [M15.2.2.2.2 0 (by decide) (by decide), M13.2.2.2.2 0 (by decide) (by decide), M11.2.2.2.2 0 (by decide) (by decide), M10.2.2.2.2 0 (by decide) (by decide), M8.2.2.2.2 0 (by decide) (by decide), M5.2.2.2.1]; exact a4
  have d1 : ai B15 45 1 = w7.toInt := by rw [M15.2.2.2.2 1 (by decide) (by decide), M13.2.2.2.2 1 (by decide) (by decide), M11.2.2.2.2 1 (by decide) (by decide), M10.2.2.2.2 1 (by decide) (by decide)]; exact M8.2.2.2.1
  have d2 : ai B15 45 2 = w9.toInt := by rw [M15.2.2.2.2 2 (by decide) (by decide), M13.2.2.2.2 2 (by decide) (by decide), M11.2.2.2.2 2 (by decide) (by decide)]; exact M10.2.2.2.1
  have d3 : ai B15 45 3 = y2.toInt := by rw [M15.2.2.2.2 3 (by decide) (by decide), M13.2.2.2.2 3 (by decide) (by decide)]; exact M11.2.2.2.1
  have d4 : ai B15 45 4 = w12.toInt := by rw [M15.2.2.2.2 4 (by decide) (by decide)]; exact M13.2.2.2.1
  have d5 : ai B15 45 5 = w14.toInt := M15.2.2.2.1
  have z1 : v5.toInt = w7.toInt := by
    rw [g5, a7, S.dn (by omega) (by omega)]
    congr 1
    omega
  have z4 : v12.toInt = w12.toInt := by rw [g12, a12]; exact (S.sf t0 (by omega)).1
  have fa : ∀ i, 0 ≤ i → i < 6 → ci A15 36 9 i = ai B15 45 i := fun i i0 i1 => by
    have : i = 0 ∨ i = 1 ∨ i = 2 ∨ i = 3 ∨ i = 4 ∨ i = 5 := by omega
    rcases this with rfl | rfl | rfl | rfl | rfl | rfl
    · rw [c0, d0]
    · rw [c1, d1]; exact z1
    · rw [c2, d2, g8, a9]
    · rw [c3, d3, e3]
    · rw [c4, d4]; exact z4
    · rw [c5, d5, g14, a14]
  have s1 : 1 ≤ ci A h 5 t := by omega
  -- the law itself
  have law : P2 (e_Laws_tellsTo n P F A15 J h x1) (d_tells_130 m Fm16 B15 Jm y1 w1 w3 w2) (TRx (ci A h 5 t) h P F A15 Fm16 B15) := by
    unfold e_Laws_tellsTo
    refine p2_bl (fun z hz => ?_)
    have gz := (gl hz).2.2
    rw [ci_fr (o15 h 14 (fun e => h36 e.1)), e1] at gz
    have hS : ∀ (v : Int32) (A : Nat → Nat → Int32) (J : Nat → Nat → Int64), A 22 = B15 22 → d_stepsOf Fm16 A J w1 = some v → v.toInt = ci A15 h 5 t := fun v A J hA hv => by
      have a := v_steps (Fm := Fm16) (by rw [u16.2 18 (by decide)]; exact hs) (by omega) v hv
      rw [a, ai_fr hA, ai_fr (b15 22 (by decide)), u16.2 18 (by decide), a1, ci_fr (o15 h 5 (fun e => h36 e.1))]
      exact (H.stp t0 t1).symm
    have h5' : ci A15 h 5 t = ci A h 5 t := by rw [ci_fr (o15 h 5 (fun e => h36 e.1))]
    rw [h5'] at hS
    rcases H.2.2.1 mn m0 m1 with ⟨n1, n2⟩ | ⟨C, B, e, ⟨p0, q0, lB, k, qq, L, N, lst⟩, le⟩
    · -- no law
      rw [n1] at gz
      have eq : w2.toInt = w3.toInt := by rw [a2, a3]; exact n2
      cases m with
      | zero => intro a b _ hb; cases hb
      | succ m =>
        unfold d_tells_130
        refine p2_cr (fun _ => ?_) (fun c => ?_)
        · refine p2_br (fun w18 k18 => ?_)
          have a18 := (gm k18).2.2
          rw [f1, ai_fr (b15 54 (by decide)), e54] at a18
          have lst : P2 (e_Laws_tellsTo_233 n P F A15 J h) (some (w18, Fm16, B15, Jm)) (TRx (ci A h 5 t) h P F A15 Fm16 B15) := by
            unfold e_Laws_tellsTo_233
            refine p2_bl (fun v17 h17 => p2_some ⟨?_, ⟨rfl, rfl, fun _ _ _ => rfl⟩, fun _ _ => rfl, fun _ _ => rfl⟩)
            have g17 := (gl h17).2.2
            rw [l0, c0] at g17
            show CLx _ v17.toInt w18.toInt
            exact CLx.last (by omega) (by omega) (by omega)
          cases n with
          | zero => intro a b ha; cases ha
          | succ n =>
            unfold e_Laws_tellsTo_13
            have lst' : P2 (e_Laws_tellsTo_233 n P F A15 J h) (some (w18, Fm16, B15, Jm)) (TRx (ci A h 5 t) h P F A15 Fm16 B15) := lst
            refine p2_cl (fun _ => lst') (fun _ => p2_cl (fun _ => lst') (fun c => ?_))
            rw [i_nlt, l0] at c
            omega
        · rw [i_nge] at c
          omega
    · -- a law
      have w := LPx.le L
      have f15 : ∀ {L C B : Int}, BLW L C B h A A15 Am B15 := fun {L C B} => ⟨fun i _ _ => by rw [ci_fr (o15 h 15 (fun e => h36 e.1)), ci_fr (o15 h 16 (fun e => h36 e.1))]; exact ⟨rfl, rfl⟩, fun i _ _ => by rw [ai_fr (b15 42 (by decide)), ai_fr (b15 43 (by decide))]; exact ⟨rfl, rfl⟩, fun q h1 h2 i _ _ => by rw [ai_fr (b15 q (by omega))]⟩
      refine p2_laws (C := C) (r0 := h) (S := ci A h 5 t) (A0 := A15) (Am0 := B15) h36 (by rw [ai_fr (b15 40 (by decide))]; exact H.2.2.2.2.2.2.2.2.1) H.2.2.2.2.2.2.2.1 ?_ ?_ ?_ hS (by rw [u16.1]) (k := k) (p := ci A h 14 mn) (b := ai Am 34 (6 * (Fm 18).toInt + mn)) (q := qq) (e := e) ?_ ?_ p0 q0 le (fun _ _ _ => rfl) (fun _ _ => rfl) fa gz (by decide) (by decide) (by rw [l0]; omega) a2 (by rw [a3]; exact lst)
      · rw [d0, f1, ai_fr (b15 54 (by decide)), e54]
      · rw [d0]; exact u0
      · rw [d0]; exact u1
      · exact LPx.fr (L := qq) (B := ai Am 34 (6 * (Fm 18).toInt + mn) + k) f15 (Int.le_refl _) L p0 (Int.le_refl _) q0 (Int.le_refl _)
      · exact N.fr (L := e) (B := ai Am 34 (6 * (Fm 18).toInt + mn) + k + 1) f15 (by omega) (Int.le_refl _) (by omega) (by omega) (Int.le_refl _)
  refine p2_bindl law ?_
  rintro ⟨v17, P18, F19, A20, J21⟩ ⟨w, Fm17, B17, Jm17⟩ ⟨cl, ⟨e18, e19, oA⟩, oF, oB⟩
  dsimp only at cl e18 e19 oA oF oB ⊢
  rw [e18, e19]
  refine po_bl (fun _ hk => ?_)
  obtain rfl := (gg_chk hk).2.symm
  try rw [e8]
  refine po_bl (fun v23 h23 => po_some ?_)
  have g23 := (gl h23).2.2
  rw [e2, ci_fr (oA h 5 (fun e => absurd e.2 (by decide))), ci_fr (o15 h 5 (fun e => h36 e.1))] at g23
  rw [← g23] at cl
  have wb : 0 ≤ w.toInt ∧ w.toInt < v23.toInt := by
    unfold CLx at cl
    split at cl
    · omega
    · split at cl <;> omega
  have ev := clamp_v (by omega) cl
  refine ⟨ev, ?_, ⟨rfl, rfl, fun r o h1 h2 => (oA r o h2).trans (o15 r o h1)⟩, fun k hk => (oF k hk).trans (u16.2 k hk), fun j h45 h46 => (oB j h46).trans (b15 j h45)⟩
  dsimp only
  rw [ev, ← g23]
  exact wb
end H9ez2
end Qz135
section Qz136
/-! a night, on both sides: a man begins, or lies down, or waits -/
section H9ez3
variable {n m : Nat} {h q r r' j : Nat} {t s b k l N x nm : Int} {ex : Prop} {P : Nat → Nat → Nat} {F F' : Nat → Nat → Int32} {A A' A1 A2 : Nat → Nat → Nat → Int32} {J : Nat → Nat → Nat → Int64} {Fm Fm' Fm1 : Nat → Int32} {Am Am' Am1 Am2 : Nat → Nat → Int32} {Jm : Nat → Nat → Int64} {x1 x2 x3 x4 x5 y1 y2 y3 y4 : Int32}
/-- the tool of the step that a man does -/
def TUc (h q : Nat) (A : Nat → Nat → Nat → Int32) (m : Int) : Int := ci A h 10 (ci A q 3 m / 6 * 6 + ci A 36 4 m)
/-- tools in use, of the class alone -/
def CVx (h q : Nat) (nm : Int) (A : Nat → Nat → Nat → Int32) : Prop := (∀ u, 0 ≤ u → u < 6 → ci A 36 8 u = 0 ∨ ∃ m, 0 ≤ m ∧ m < nm ∧ 0 ≤ ci A 36 4 m ∧ TUc h q A m = u) ∧ (∀ m, 0 ≤ m → m < nm → 0 ≤ ci A 36 4 m → 0 ≤ TUc h q A m → ci A 36 8 (TUc h q A m) ≠ 0 ∧ (ci A q 4 (TUc h q A m) = 100 + m ∨ ci A q 4 (TUc h q A m) = ci A h 4 (ci A q 3 m / 6))) ∧ (∀ m m', 0 ≤ m → m < nm → 0 ≤ m' → m' < nm → 0 ≤ ci A 36 4 m → 0 ≤ ci A 36 4 m' → TUc h q A m = TUc h q A m' → 0 ≤ TUc h q A m → m = m')
theorem CVx.cg (C : CVx h q nm A) (h10 : A' h 10 = A h 10) (h4 : A' h 4 = A h 4) (q3 : A' q 3 = A q 3) (q4 : A' q 4 = A q 4) (e4 : A' 36 4 = A 36 4) (e8 : A' 36 8 = A 36 8) : CVx h q nm A' := by
  unfold CVx TUc
  rw [ci_fr h10, ci_fr h4, ci_fr q3, ci_fr q4, ci_fr e4, ci_fr e8]
  exact C
theorem TUc.at {m : Int} (h10 : A' h 10 = A h 10) (q3 : A' q 3 = A q 3) (e4 : ci A' 36 4 m = ci A 36 4 m) : TUc h q A' m = TUc h q A m := by
  unfold TUc
  rw [ci_fr h10, ci_fr q3, e4]
/-- a man's step is over -/
theorem CVx.fin (C : CVx h q nm A) (x0 : 0 ≤ x) (x1 : x < nm) (h10 : A' h 10 = A h 10) (h4 : A' h 4 = A h 4) (q3 : A' q 3 = A q 3) (q4 : A' q 4 = A q 4) (d0 : 0 ≤ ci A 36 4 x) (d1 : ci A' 36 4 x = -1) (d2 : ∀ m, 0 ≤ m → m ≠ x → ci A' 36 4 m = ci A 36 4 m) (z : (TUc h q A x < 0 ∧ A' 36 8 = A 36 8) ∨ (0 ≤ TUc h q A x ∧ ci A' 36 8 (TUc h q A x) = 0 ∧ ∀ u, 0 ≤ u → u ≠ TUc h q A x → ci A' 36 8 u = ci A 36 8 u)) : CVx h q nm A' := by
  obtain ⟨c1, c2, c3⟩ := C
  have tl : ∀ m, 0 ≤ m → m ≠ x → TUc h q A' m = TUc h q A m := fun m m0 hm => TUc.at h10 q3 (d2 m m0 hm)
  have ne : ∀ m, 0 ≤ m → 0 ≤ ci A' 36 4 m → m ≠ x := fun m m0 hd e => by rw [e, d1] at hd; omega
  refine ⟨fun u u0 u1 => ?_, fun m m0 m1 hd ht => ?_, fun m m' m0 m1 n0 n1 hd hd' he ht => ?_⟩
  · have old : u ≠ TUc h q A x → ci A' 36 8 u = ci A 36 8 u → ci A' 36 8 u = 0 ∨ ∃ m, 0 ≤ m ∧ m < nm ∧ 0 ≤ ci A' 36 4 m ∧ TUc h q A' m = u := fun hne e => by
      rw [e]
      rcases c1 u u0 u1 with h | ⟨m, m0, m1, hd, ht⟩
      · exact .inl h
      · have hm : m ≠ x := fun e => hne (by rw [← ht, e])
        exact .inr ⟨m, m0, m1, by rw [d2 m m0 hm]; exact hd, by rw [tl m m0 hm]; exact ht⟩
    rcases z with ⟨z1, z2⟩ | ⟨z1, z2, z3⟩
    · exact old (by omega) (by rw [ci_fr z2])
    · by_cases e : u = TUc h q A x
      · rw [e]; exact .inl z2
      · exact old e (z3 u u0 e)
  · have hm := ne m m0 hd
    rw [d2 m m0 hm] at hd
    rw [tl m m0 hm] at ht ⊢
    rw [ci_fr q4, ci_fr h4, ci_fr q3]
    obtain ⟨a, b⟩ := c2 m m0 m1 hd ht
    refine ⟨?_, b⟩
    rcases z with ⟨z1, z2⟩ | ⟨z1, z2, z3⟩
    · rw [ci_fr z2]; exact a
    · rw [z3 _ ht (fun e => hm (c3 m x m0 m1 x0 x1 hd d0 e ht))]; exact a
  · have hm := ne m m0 hd
    have hm' := ne m' n0 hd'
    rw [d2 m m0 hm] at hd
    rw [d2 m' n0 hm'] at hd'
    rw [tl m m0 hm, tl m' n0 hm'] at he
    rw [tl m m0 hm] at ht
    exact c3 m m' m0 m1 n0 n1 hd hd' he ht
/-- a man begins a step -/
theorem CVx.beg {v : Int} (C : CVx h q nm A) (x0 : 0 ≤ x) (x1 : x < nm) (h10 : A' h 10 = A h 10) (h4 : A' h 4 = A h 4) (q3 : A' q 3 = A q 3) (q4 : A' q 4 = A q 4) (d0 : ci A 36 4 x = -1) (d2 : ∀ m, 0 ≤ m → m ≠ x → ci A' 36 4 m = ci A 36 4 m) (tv : TUc h q A' x = v) (dx : 0 ≤ ci A' 36 4 x) (z : (v < 0 ∧ A' 36 8 = A 36 8) ∨ (0 ≤ v ∧ ci A 36 8 v = 0 ∧ ci A' 36 8 v ≠ 0 ∧ (∀ u, 0 ≤ u → u ≠ v → ci A' 36 8 u = ci A 36 8 u) ∧ (ci A q 4 v = 100 + x ∨ ci A q 4 v = ci A h 4 (ci A q 3 x / 6)))) : CVx h q nm A' := by
  obtain ⟨c1, c2, c3⟩ := C
  have tl : ∀ m, 0 ≤ m → m ≠ x → TUc h q A' m = TUc h q A m := fun m m0 hm => TUc.at h10 q3 (d2 m m0 hm)
  have ne : ∀ m, 0 ≤ ci A 36 4 m → m ≠ x := fun m hd e => by rw [e, d0] at hd; omega
  -- nobody else had the tool
  have no : ∀ m, 0 ≤ m → m < nm → m ≠ x → 0 ≤ ci A 36 4 m → 0 ≤ v → TUc h q A m ≠ v := fun m m0 m1 hm hd v0 e => by
    rcases z with ⟨z1, -⟩ | ⟨z1, z2, -⟩
    · omega
    · exact (c2 m m0 m1 hd (by omega)).1 (by rw [e]; exact z2)
  refine ⟨fun u u0 u1 => ?_, fun m m0 m1 hd ht => ?_, fun m m' m0 m1 n0 n1 hd hd' he ht => ?_⟩
  · have old : ci A' 36 8 u = ci A 36 8 u → ci A' 36 8 u = 0 ∨ ∃ m, 0 ≤ m ∧ m < nm ∧ 0 ≤ ci A' 36 4 m ∧ TUc h q A' m = u := fun e => by
      rw [e]
      rcases c1 u u0 u1 with h | ⟨m, m0, m1, hd, ht⟩
      · exact .inl h
      · have hm := ne m hd
        exact .inr ⟨m, m0, m1, by rw [d2 m m0 hm]; exact hd, by rw [tl m m0 hm]; exact ht⟩
    rcases z with ⟨z1, z2⟩ | ⟨z1, z2, z3, z4, z5⟩
    · exact old (by rw [ci_fr z2])
    · by_cases e : u = v
      · exact .inr ⟨x, x0, x1, dx, by rw [tv, e]⟩
      · exact old (z4 u u0 e)
  · by_cases e : m = x
    · subst e
      rw [tv] at ht ⊢
      rw [ci_fr q4, ci_fr h4, ci_fr q3]
      rcases z with ⟨z1, z2⟩ | ⟨z1, z2, z3, z4, z5⟩
      · omega
      · exact ⟨z3, z5⟩
    · rw [d2 m m0 e] at hd
      rw [tl m m0 e] at ht ⊢
      rw [ci_fr q4, ci_fr h4, ci_fr q3]
      obtain ⟨a, b⟩ := c2 m m0 m1 hd ht
      refine ⟨?_, b⟩
      rcases z with ⟨z1, z2⟩ | ⟨z1, z2, z3, z4, z5⟩
      · rw [ci_fr z2]; exact a
      · rw [z4 _ ht (no m m0 m1 e hd z1)]; exact a
  · by_cases e : m = x
    · by_cases e' : m' = x
      · rw [e, e']
      · rw [d2 m' n0 e'] at hd'
        rw [e, tv] at he ht
        rw [tl m' n0 e'] at he
        exact absurd he.symm (no m' n0 n1 e' hd' ht)
    · rw [d2 m m0 e] at hd
      rw [tl m m0 e] at he ht
      by_cases e' : m' = x
      · rw [e', tv] at he
        exact absurd he (no m m0 m1 e hd (by omega))
      · rw [d2 m' n0 e'] at hd'
        rw [tl m' n0 e'] at he
        exact c3 m m' m0 m1 n0 n1 hd hd' he ht
/-- a man in the night, at minute k: whoever waits, from k on; what is begun, over at l or later -/
def MNx (N : Int) (h : Nat) (A : Nat → Nat → Nat → Int32) (Am : Nat → Nat → Int32) (k l m : Int) : Prop := ci A 36 6 m = ai Am 55 m ∧ (ci A 36 7 m = ai Am 56 m ∧ (ai Am 56 m = 0 ∨ ai Am 56 m = 1)) ∧ ((ai Am 48 (42 + m) = -1 ∧ ai Am 54 m = -1 ∧ ai Am 50 m = 0 ∧ ci A 36 4 m = -1 ∧ N ≤ ci A 36 3 m ∧ ai Am 56 m = 0) ∨ (0 ≤ ai Am 48 (42 + m) ∧ ci A 36 5 m = ai Am 54 m ∧ 0 ≤ ai Am 54 m ∧ ai Am 54 m < ci A h 5 (ai Am 48 (42 + m)) ∧ ((ai Am 50 m = 1 ∧ ai Am 56 m = 0 ∧ ci A 36 4 m = -1 ∧ ((ai Am 51 m ≤ k ∧ ci A 36 3 m = k) ∨ (k ≤ ai Am 51 m ∧ ci A 36 3 m = ai Am 51 m))) ∨ (ai Am 50 m = 2 ∧ ai Am 56 m = 0 ∧ ci A 36 4 m = ai Am 53 m ∧ 0 ≤ ai Am 53 m ∧ ai Am 53 m < ci A h 5 (ai Am 48 (42 + m)) ∧ ci A 36 3 m = ai Am 52 m ∧ l ≤ ai Am 52 m ∧ ai Am 51 m ≤ ai Am 52 m) ∨ ((ai Am 50 m = 3 ∨ (ai Am 50 m = 1 ∧ N ≤ ai Am 51 m)) ∧ ci A 36 4 m = -1 ∧ N ≤ ci A 36 3 m))))
theorem MNx.cg {m : Int} (M : MNx N h A Am k l m) (h5 : A' h 5 = A h 5) (a3 : ci A' 36 3 m = ci A 36 3 m) (a4 : ci A' 36 4 m = ci A 36 4 m) (a5 : ci A' 36 5 m = ci A 36 5 m) (a6 : ci A' 36 6 m = ci A 36 6 m) (a7 : ci A' 36 7 m = ci A 36 7 m) (b : ∀ j, 50 ≤ j → j ≤ 56 → ai Am' j m = ai Am j m) (b48 : ai Am' 48 (42 + m) = ai Am 48 (42 + m)) : MNx N h A' Am' k l m := by
  unfold MNx
  rw [ci_fr h5, a3, a4, a5, a6, a7, b48, b 50 (by decide) (by decide), b 51 (by decide) (by decide), b 52 (by decide) (by decide), b 53 (by decide) (by decide), b 54 (by decide) (by decide), b 55 (by decide) (by decide), b 56 (by decide) (by decide)]
  exact M
/-- what a beginning leaves as it was -/
def FBx (h q : Nat) (x : Int) (A A' : Nat → Nat → Nat → Int32) : Prop := (∀ r o, ¬ (r = 36 ∧ (o = 3 ∨ o = 4 ∨ o = 7 ∨ o = 8 ∨ o = 9)) → ¬ (r = q ∧ (o = 2 ∨ o = 7)) → ¬ (r = h ∧ o = 17) → A' r o = A r o) ∧ (∀ o, (o = 3 ∨ o = 4 ∨ o = 7) → ∀ m, 0 ≤ m → m ≠ x → ci A' 36 o m = ci A 36 o m)
def FBm (x : Int) (Fm Fm' : Nat → Int32) (Am Am' : Nat → Nat → Int32) : Prop := (∀ k, k ≠ 63 → Fm' k = Fm k) ∧ (∀ j, j ∉ ([45, 46, 48, 50, 52, 53, 56] : List Nat) → Am' j = Am j) ∧ (∀ j, (j = 50 ∨ j = 52 ∨ j = 53 ∨ j = 56) → ∀ m, 0 ≤ m → m ≠ x → ai Am' j m = ai Am j m) ∧ (∀ i, 6 ≤ i → i < 66 ∨ 72 ≤ i → ai Am' 48 i = ai Am 48 i)
theorem FBx.rfl' : FBx h q x A A := ⟨fun _ _ _ _ _ => rfl, fun _ _ _ _ _ => rfl⟩
theorem FBx.tr (a : FBx h q x A A1) (b : FBx h q x A1 A') : FBx h q x A A' := ⟨fun r o h1 h2 h3 => (b.1 r o h1 h2 h3).trans (a.1 r o h1 h2 h3), fun o ho m m0 hm => (b.2 o ho m m0 hm).trans (a.2 o ho m m0 hm)⟩
theorem FBm.rfl' : FBm x Fm Fm Am Am := ⟨fun _ _ => rfl, fun _ _ => rfl, fun _ _ _ _ _ => rfl, fun _ _ _ => rfl⟩
theorem FBm.tr (a : FBm x Fm Fm1 Am Am1) (b : FBm x Fm1 Fm' Am1 Am') : FBm x Fm Fm' Am Am' := ⟨fun k hk => (b.1 k hk).trans (a.1 k hk), fun j hj => (b.2.1 j hj).trans (a.2.1 j hj), fun j hj m m0 hm => (b.2.2.1 j hj m m0 hm).trans (a.2.2.1 j hj m m0 hm), fun i i0 i1 => (b.2.2.2 i i0 i1).trans (a.2.2.2 i i0 i1)⟩
theorem FBx.s36 {o : Nat} {v : Int} (U : CUm A A' 36 o x v) (ho : o = 3 ∨ o = 4 ∨ o = 7) : FBx h q x A A' :=
  ⟨fun r p h1 _ _ => U.2.2 r p (fun e => h1 ⟨e.1, by rw [e.2]; omega⟩), fun p _ m m0 hm => by
    by_cases e : p = o
    · subst e
      exact U.2.1 m m0 hm
    · rw [ci_fr (U.2.2 36 p (fun h => e h.2))]⟩
theorem FBx.s8 {i v : Int} (U : CUm A A' 36 8 i v) : FBx h q x A A' :=
  ⟨fun r p h1 _ _ => U.2.2 r p (fun e => h1 ⟨e.1, by rw [e.2]; simp⟩), fun p hp m m0 hm => by rw [ci_fr (U.2.2 36 p (fun h => by omega))]⟩
theorem FBx.sq {o : Nat} {i v : Int} (U : CUm A A' q o i v) (hq : q ≠ 36) (ho : o = 2 ∨ o = 7) : FBx h q x A A' :=
  ⟨fun r p _ h2 _ => U.2.2 r p (fun e => h2 ⟨e.1, by rw [e.2]; exact ho⟩), fun p hp m m0 hm => by rw [ci_fr (U.2.2 36 p (fun h => hq h.1.symm))]⟩
/-- what both leave of a beginning -/
def BGx (ex : Prop) (h q : Nat) (N k x : Int) (P : Nat → Nat → Nat) (F : Nat → Nat → Int32) (A : Nat → Nat → Nat → Int32) (Fm : Nat → Int32) (Am : Nat → Nat → Int32) (a : cR Unit) (b : mR Unit) : Prop := (a.2.1 = P ∧ a.2.2.1 = F) ∧ FBx h q x A a.2.2.2.1 ∧ FBm x Fm b.2.1 Am b.2.2.1 ∧ SBx ex h q F a.2.2.2.1 b.2.2.1 48 0 ∧ CVx h q (F h 17).toInt a.2.2.2.1 ∧ MNx N h a.2.2.2.1 b.2.2.1 (k + 1) (k + 1) x
theorem BGx.go {a : cR Unit} {b : mR Unit} (f : FBx h q x A A1) (g : FBm x Fm Fm1 Am Am1) (B : BGx ex h q N k x P F A1 Fm1 Am1 a b) : BGx ex h q N k x P F A Fm Am a b := ⟨B.1, f.tr B.2.1, g.tr B.2.2.1, B.2.2.2⟩
/-- a man who is there and does nothing -/
def LYx (h : Nat) (A : Nat → Nat → Nat → Int32) (Am : Nat → Nat → Int32) (x : Int) : Prop := ci A 36 6 x = ai Am 55 x ∧ (ci A 36 7 x = ai Am 56 x ∧ (ai Am 56 x = 0 ∨ ai Am 56 x = 1)) ∧ 0 ≤ ai Am 48 (42 + x) ∧ ci A 36 5 x = ai Am 54 x ∧ 0 ≤ ai Am 54 x ∧ ai Am 54 x < ci A h 5 (ai Am 48 (42 + x)) ∧ ci A 36 4 x = -1
/-- both lie down -/
theorem p2_lie (hk : c_kind h = 6) (hq : c_kind q = 2) (h6 : (F h 17).toInt ≤ 6) (e9 : P 36 9 = q) (S : SBx ex h q F A Am 48 0) (C : CVx h q (F h 17).toInt A) (L : LYx h A Am x) (x0 : 0 ≤ x) (x6 : x < 6) (hN : N ≤ 1000000) (e1 : x1.toInt = x) (f1 : y1.toInt = x) (e2 : x2 = y2) : P2 (e_Sleep_lieDown P F A J x1 x2) (d_lies Fm Am Jm y1 y2) (BGx ex h q N k x P F A Fm Am) := by
  have hne : h ≠ q := k62 hk hq
  have h36 : h ≠ 36 := k6ne hk
  have q36 : q ≠ 36 := k2ne hq
  have lF : (1000000 : Int32).toInt = 1000000 := by decide
  have l3 : (3 : Int32).toInt = 3 := by decide
  have i66 := kx1 (c := 66) (x := y1) (k := 66) (by decide) (by decide) (by omega)
  subst e2
  unfold e_Sleep_lieDown d_lies
  refine p2_bl (fun _ hk => ?_)
  obtain rfl := (gg_chk hk).2.symm
  try rw [e9]
  refine p2_bl (fun A2 h2 => p2_bl (fun A3 h3 => ?_))
  refine p2_br (fun B1 k1 => p2_br (fun B2 k2 => ?_))
  have U2 := (gg_cst h2).2.2
  have U3 := (gg_cst h3).2.2
  have M1 := gg_st k1
  have M2 := gg_st k2
  rw [e1] at U2 U3
  rw [lF] at U3
  rw [f1, l3] at M1
  rw [i66, f1] at M2
  have oq : ∀ o, o ≠ 7 → A3 q o = A q o := fun o ho => (U3.2.2 q o (fun e => q36 e.1)).trans (U2.2.2 q o (fun e => ho e.2))
  have oh : ∀ o, A3 h o = A h o := fun o => (U3.2.2 h o (fun e => h36 e.1)).trans (U2.2.2 h o (fun e => hne e.1))
  have o36 : ∀ o, o ≠ 3 → A3 36 o = A 36 o := fun o ho => (U3.2.2 36 o (fun e => ho e.2)).trans (U2.2.2 36 o (fun e => q36 e.1.symm))
  have b48 : ∀ i, 0 ≤ i → i ≠ 66 + x → ai B2 48 i = ai Am 48 i := fun i i0 hi => by rw [M2.2.2.2.2 i i0 hi, ai_fr (M1.2.2.1 48 (by decide))]
  have bo : ∀ j, j ≠ 48 → j ≠ 50 → B2 j = Am j := fun j h1 h2 => (M2.2.2.1 j h1).trans (M1.2.2.1 j h2)
  refine p2_some ⟨⟨rfl, rfl⟩, (FBx.sq U2 q36 (.inr rfl)).tr (FBx.s36 U3 (.inl rfl)), ⟨fun _ _ => rfl, fun j hj => bo j (fun e => hj (by rw [e]; decide)) (fun e => hj (by rw [e]; decide)), fun j hj m m0 hm => ?_, fun i i0 i1 => b48 i (by omega) (by omega)⟩, ?_, ?_, ?_⟩
  · rcases hj with rfl | hj
    · show ai B2 50 m = ai Am 50 m
      rw [ai_fr (M2.2.2.1 50 (by decide))]
      exact M1.2.2.2.2 m m0 hm
    · show ai B2 j m = ai Am j m
      rw [ai_fr (bo j (by omega) (by omega))]
  · show SBx ex h q F A3 B2 48 0
    refine SBx.mk0 (fun k k0 k1 => ?_) (fun k k0 k1 => ?_) (fun k k0 k1 => ?_) (fun m m0 m1 => ?_)
    · rw [ci_fr (oq 1 (by decide)), b48 _ (by omega) (by omega)]; exact S.dn k0 k1
    · rw [ci_fr (oq 2 (by decide)), b48 _ (by omega) (by omega)]; exact S.sf k0 k1
    · rw [ci_fr (oq 4 (by decide)), b48 _ (by omega) (by omega)]; exact S.tl k0 k1
    · obtain ⟨s1, s2, s3, s4⟩ := S.mn m0 m1
      by_cases e66 : m = x
      · subst e66
        refine ⟨?_, ?_, ?_, fun _ => ?_⟩
        · rw [ci_fr (oq 3 (by decide)), b48 _ (by omega) (by omega), b48 _ (by omega) (by omega)]
          exact s1.cg rfl (oh 5)
        · rw [ci_fr (oq 5 (by decide)), b48 _ (by omega) (by omega)]; exact s2
        · rw [ci_fr (oq 6 (by decide)), b48 _ (by omega) (by omega)]; exact s3
        · rw [M2.2.2.2.1, ci_fr (U3.2.2 q 7 (fun e => q36 e.1))]; exact U2.1
      · refine ⟨?_, ?_, ?_, fun hx => ?_⟩
        · rw [ci_fr (oq 3 (by decide)), b48 _ (by omega) (by omega), b48 _ (by omega) (by omega)]
          exact s1.cg rfl (oh 5)
        · rw [ci_fr (oq 5 (by decide)), b48 _ (by omega) (by omega)]; exact s2
        · rw [ci_fr (oq 6 (by decide)), b48 _ (by omega) (by omega)]; exact s3
        · rw [b48 _ (by omega) (by omega), ci_fr (U3.2.2 q 7 (fun e => q36 e.1)), U2.2.1 m m0 e66]
          exact s4 hx
  · exact C.cg (oh 10) (oh 4) (oq 3 (by decide)) (oq 4 (by decide)) (o36 4 (by decide)) (o36 8 (by decide))
  · obtain ⟨l1, l2, l4, l5, l6, l7, l8⟩ := L
    show MNx N h A3 B2 (k + 1) (k + 1) x
    have e50 : ai B2 50 x = 3 := by rw [ai_fr (M2.2.2.1 50 (by decide))]; exact M1.2.2.2.1
    unfold MNx
    rw [ci_fr (o36 6 (by decide)), ci_fr (o36 7 (by decide)), ci_fr (o36 5 (by decide)), ci_fr (o36 4 (by decide)), ci_fr (oh 5), ai_fr (bo 55 (by decide) (by decide)), ai_fr (bo 56 (by decide) (by decide)), ai_fr (bo 54 (by decide) (by decide)), b48 _ (by omega) (by omega)]
    exact ⟨l1, l2, .inr ⟨l4, l5, l6, l7, .inr (.inr ⟨.inl e50, l8, by rw [U3.1]; exact hN⟩)⟩⟩
/-- both begin the step u of the task t -/
theorem p2_go {u v : Int} (H : NHx h F A Fm Am) (hq : c_kind q = 2) (e8 : P 36 8 = h) (e9 : P 36 9 = q) (S : SBx ex h q F A Am 48 0) (L : LYx h A Am x) (hbe : ai Am 56 x = 0) (hf : ai Am 51 x ≤ k) (x0 : 0 ≤ x) (x6 : x < (F h 17).toInt) (t0 : 0 ≤ t) (t1 : t < (F h 16).toInt) (u0 : 0 ≤ u) (u1 : u < ci A h 5 t) (et : ai Am 48 (42 + x) = t) (el : ci A q 3 x / 6 = t) (st : 0 < ci A q 2 t) (ev : ci A h 10 (t * 6 + u) = v) (k0 : 0 ≤ k) (k6 : k ≤ 600) (e1 : x1.toInt = x) (f1 : y1.toInt = x) (e2 : x2.toInt = k) (f2 : y2.toInt = k) (e3 : x3.toInt = t) (f3 : y3.toInt = t) (e5 : x5.toInt = u) (f5 : y4.toInt = u)
    (C : ∀ {A' : Nat → Nat → Nat → Int32}, A' h 10 = A h 10 → A' h 4 = A h 4 → A' q 3 = A q 3 → A' q 4 = A q 4 → (∀ m, 0 ≤ m → m ≠ x → ci A' 36 4 m = ci A 36 4 m) → ci A' 36 4 x = u → A' 36 8 = A 36 8 → CVx h q (F h 17).toInt A') : P2 (e_Sleep_begin_168 n P F A J x1 x2 x3 x5) (d_begins1_147 m Fm Am Jm y1 y2 y3 y4) (BGx ex h q N k x P F A Fm Am) := by
  have ct := H.ct
  have s6 := H.s6 t0
  have hs := H.sd
  have hk := H.kd
  have hne : h ≠ q := k62 hk hq
  have h36 : h ≠ 36 := k6ne hk
  have q36 : q ≠ 36 := k2ne hq
  have l2' : (2 : Int32).toInt = 2 := by decide
  obtain ⟨rw1, -⟩ := H.row t0 t1 u0 u1
  have y1' := (H.hy.2.2.1 t u t0 t1 u0 u1).1
  unfold e_Sleep_begin_168 d_begins1_147
  refine p2_bl (fun _ hk => ?_)
  obtain rfl := (gg_chk hk).2.symm
  try rw [e9]
  refine p2_bl (fun v32 h32 => p2_bl (fun A33 h33 => p2_bl (fun A34 h34 => p2_bl (fun _ hk => ?_))))
  obtain rfl := (gg_chk hk).2.symm
  try rw [e8]
  refine p2_bl (fun v36 h36' => p2_bl (fun A37 h37 => ?_))
  refine p2_br (fun w31 k31 => p2_br (fun B32 k32 => p2_br (fun B33 k33 => p2_br (fun B34 k34 => ?_))))
  refine p2_r (v_stepAt hs (by omega) (by omega)) ?_
  intro w35 q35
  refine p2_br (fun w36 k36 => p2_br (fun B37 k37 => ?_))
  have g32 := (gl h32).2.2
  have U33 := (gg_cst h33).2.2
  have U34 := (gg_cst h34).2.2
  have g36 := (gl h36').2.2
  have U37 := (gg_cst h37).2.2
  have a31 := (gm k31).2.2
  have M32 := gg_st k32
  have M33 := gg_st k33
  have M34 := gg_st k34
  have a36 := (gm k36).2.2
  have M37 := gg_st k37
  rw [e3] at g32 U33
  rw [e1, e5] at U34
  rw [e1] at U37
  rw [f3] at a31 M32
  rw [f1, f5] at M33
  rw [f1, l2'] at M34
  rw [f1] at M37
  have cx := cx6 (x := x3) (y := x5) (by omega) (by omega)
  rw [cx, e3, e5, ci_fr (U34.2.2 h 6 (fun e => h36 e.1)), ci_fr (U33.2.2 h 6 (fun e => hne e.1))] at g36
  have oB4 : ∀ j, j ≠ 48 → j ≠ 50 → j ≠ 53 → B34 j = Am j := fun j h1 h2 h3 => by rw [M34.2.2.1 j h2, M33.2.2.1 j h3, M32.2.2.1 j h1]
  rw [q35, f3, f5, ai_fr (oB4 23 (by decide) (by decide) (by decide))] at a36
  have zs : v32 = w31 := i_ext (by rw [g32, a31]; exact (S.sf t0 (by omega)).1)
  have zm : v36.toInt = w36.toInt := by rw [g36, a36]; exact rw1
  have due := i_add (x := x2) (y := v36) (by omega) (by omega)
  have due' := i_add (x := y2) (y := w36) (by omega) (by omega)
  have r32 := i_rng v32
  have es := i_sub (x := v32) (y := 1) (by rw [i_1]; omega) (by rw [i_1]; omega)
  rw [i_1] at es
  have oq : ∀ o, o ≠ 2 → A37 q o = A q o := fun o ho => (U37.2.2 q o (fun e => q36 e.1)).trans ((U34.2.2 q o (fun e => q36 e.1)).trans (U33.2.2 q o (fun e => ho e.2)))
  have oh : ∀ o, A37 h o = A h o := fun o => (U37.2.2 h o (fun e => h36 e.1)).trans ((U34.2.2 h o (fun e => h36 e.1)).trans (U33.2.2 h o (fun e => hne e.1)))
  have o36 : ∀ o, o ≠ 3 → o ≠ 4 → A37 36 o = A 36 o := fun o h1 h2 => (U37.2.2 36 o (fun e => h1 e.2)).trans ((U34.2.2 36 o (fun e => h2 e.2)).trans (U33.2.2 36 o (fun e => q36 e.1.symm)))
  have c4 : ci A37 36 4 x = u := by rw [ci_fr (U37.2.2 36 4 (fun e => absurd e.2 (by decide)))]; exact U34.1
  have c4' : ∀ m, 0 ≤ m → m ≠ x → ci A37 36 4 m = ci A 36 4 m := fun m m0 hm => by rw [ci_fr (U37.2.2 36 4 (fun e => absurd e.2 (by decide))), U34.2.1 m m0 hm, ci_fr (U33.2.2 36 4 (fun e => q36 e.1.symm))]
  have bo : ∀ j, j ≠ 48 → j ≠ 50 → j ≠ 52 → j ≠ 53 → B37 j = Am j := fun j h1 h2 h3 h4 => (M37.2.2.1 j h3).trans (oB4 j h1 h2 h4)
  have b48 : ∀ i, 0 ≤ i → i ≠ t → ai B37 48 i = ai Am 48 i := fun i i0 hi => by rw [ai_fr (M37.2.2.1 48 (by decide)), ai_fr (M34.2.2.1 48 (by decide)), ai_fr (M33.2.2.1 48 (by decide))]; exact M32.2.2.2.2 i i0 hi
  have b48t : ai B37 48 t = (w31 - 1).toInt := by rw [ai_fr (M37.2.2.1 48 (by decide)), ai_fr (M34.2.2.1 48 (by decide)), ai_fr (M33.2.2.1 48 (by decide))]; exact M32.2.2.2.1
  refine p2_some ⟨⟨rfl, rfl⟩, ((FBx.sq U33 q36 (.inl rfl)).tr (FBx.s36 U34 (.inr (.inl rfl)))).tr (FBx.s36 U37 (.inl rfl)), ⟨fun _ _ => rfl, fun j hj => bo j (fun e => hj (by rw [e]; decide)) (fun e => hj (by rw [e]; decide)) (fun e => hj (by rw [e]; decide)) (fun e => hj (by rw [e]; decide)), fun j hj m m0 hm => ?_, fun i i0 i1 => b48 i (by omega) (by omega)⟩, ?_, C (oh 10) (oh 4) (oq 3 (by decide)) (oq 4 (by decide)) c4' c4 (o36 8 (by decide) (by decide)), ?_⟩
  · rcases hj with rfl | rfl | rfl | rfl
    · show ai B37 50 m = ai Am 50 m
      rw [ai_fr (M37.2.2.1 50 (by decide)), M34.2.2.2.2 m m0 hm, ai_fr (M33.2.2.1 50 (by decide)), ai_fr (M32.2.2.1 50 (by decide))]
    · show ai B37 52 m = ai Am 52 m
      rw [M37.2.2.2.2 m m0 hm, ai_fr (oB4 52 (by decide) (by decide) (by decide))]
    · show ai B37 53 m = ai Am 53 m
      rw [ai_fr (M37.2.2.1 53 (by decide)), ai_fr (M34.2.2.1 53 (by decide)), M33.2.2.2.2 m m0 hm, ai_fr (M32.2.2.1 53 (by decide))]
    · show ai B37 56 m = ai Am 56 m
      rw [ai_fr (bo 56 (by decide) (by decide) (by decide) (by decide))]
  · show SBx ex h q F A37 B37 48 0
    refine SBx.mk0 (fun k k0 k1 => ?_) (fun k k0 k1 => ?_) (fun k k0 k1 => ?_) (fun m m0 m1 => ?_)
    · rw [ci_fr (oq 1 (by decide)), b48 _ (by omega) (by omega)]; exact S.dn k0 k1
    · have e37 : ci A37 q 2 k = ci A33 q 2 k := by rw [ci_fr (U37.2.2 q 2 (fun e => q36 e.1)), ci_fr (U34.2.2 q 2 (fun e => q36 e.1))]
      rw [e37]
      by_cases e : k = t
      · subst e
        rw [b48t, U33.1, zs]
        rw [zs] at es g32
        exact ⟨rfl, by omega⟩
      · rw [U33.2.1 k k0 e, b48 k k0 e]
        exact S.sf k0 k1
    · rw [ci_fr (oq 4 (by decide)), b48 _ (by omega) (by omega)]; exact S.tl k0 k1
    · obtain ⟨s1, s2, s3, s4⟩ := S.mn m0 m1
      rw [ci_fr (oq 3 (by decide)), ci_fr (oq 5 (by decide)), ci_fr (oq 6 (by decide)), ci_fr (oq 7 (by decide)), b48 _ (by omega) (by omega), b48 _ (by omega) (by omega), b48 _ (by omega) (by omega), b48 _ (by omega) (by omega), b48 _ (by omega) (by omega)]
      exact ⟨s1.cg rfl (oh 5), s2, s3, s4⟩
  · obtain ⟨l1, l2, l4, l5, l6, l7, l8⟩ := L
    show MNx N h A37 B37 (k + 1) (k + 1) x
    have e50 : ai B37 50 x = 2 := by rw [ai_fr (M37.2.2.1 50 (by decide))]; exact M34.2.2.2.1
    have e53 : ai B37 53 x = u := by rw [ai_fr (M37.2.2.1 53 (by decide)), ai_fr (M34.2.2.1 53 (by decide))]; exact M33.2.2.2.1
    have e52 : ai B37 52 x = k + w36.toInt := by rw [M37.2.2.2.1, due', f2]
    have e37 : ci A37 36 3 x = k + w36.toInt := by rw [U37.1, due, e2, zm]
    unfold MNx
    rw [ci_fr (o36 6 (by decide) (by decide)), ci_fr (o36 7 (by decide) (by decide)), ci_fr (o36 5 (by decide) (by decide)), ci_fr (oh 5), ai_fr (bo 55 (by decide) (by decide) (by decide) (by decide)), ai_fr (bo 56 (by decide) (by decide) (by decide) (by decide)), ai_fr (bo 54 (by decide) (by decide) (by decide) (by decide)), b48 _ (by omega) (by omega), e50, e53, e52, e37, c4, et]
    rw [et] at l7
    exact ⟨l1, l2, .inr ⟨t0, l5, l6, l7, .inr (.inl ⟨rfl, hbe, rfl, u0, u1, rfl, by omega, by rw [ai_fr (bo 51 (by decide) (by decide) (by decide) (by decide))]; omega⟩)⟩⟩
end H9ez3
end Qz136
