/-! the calls that change a scalar, on both sides -/
section H9ex2
variable {Fr : Nat → Int32} {Ar : Nat → Nat → Int32}
variable {n n2 : Nat} {P P' : Nat → Nat → Nat} {F F' : Nat → Nat → Int32} {A A' : Nat → Nat → Nat → Int32} {J : Nat → Nat → Nat → Int64} {Fm Fm' : Nat → Int32} {Am Am' : Nat → Nat → Int32} {Jm : Nat → Nat → Int64} {x1 x2 x3 : Int32}
/-- a slot is held, by the class's bits -/
def HB (v : Int32) (s : Nat) : Prop := (v &&& (1 <<< (Int32.ofNat s &&& 31))) ≠ 0
/-- the scalars of both sides agree -/
def SCx (F : Nat → Nat → Int32) (Fm : Nat → Int32) (Am : Nat → Nat → Int32) : Prop := F 25 2 = Fm 77 ∧ F 4 2 = Fm 74 ∧ ∀ s : Nat, s < 3 → (HB (F 0 10) s ↔ Am 61 s ≠ 0)
theorem SCx.c (h : SCx F Fm Am) (k : KS F F') : SCx F' Fm Am := ⟨k.1.trans h.1, k.2.1.trans h.2.1, fun s hs => by rw [k.2.2]; exact h.2.2 s hs⟩
theorem SCx.m (h : SCx F Fm Am) (k : KM Fm Am Fm' Am') : SCx F Fm' Am' := ⟨h.1.trans k.1.symm, h.2.1.trans k.2.1.symm, fun s hs => by rw [k.2.2]; exact h.2.2 s hs⟩
/-- what both sides share between calls -/
def CY (P : Nat → Nat → Nat) (F : Nat → Nat → Int32) (A : Nat → Nat → Nat → Int32) (Fm : Nat → Int32) (Am : Nat → Nat → Int32) : Prop := CX P F A Fm Am ∧ SCx F Fm Am
/-- tell: what it answers and how the number of what was told goes on -/
def TV (p : Prop) (v c0 c1 : Int32) : Prop := (p ∧ v = c0 + 1 - 1 ∧ c1 = c0 + 1) ∨ (¬ p ∧ v = -1 ∧ c1 = c0)
theorem TV.eq {p q : Prop} {v w c0 c1 d0 d1 : Int32} (h : TV p v c0 c1) (h' : TV q w d0 d1) (e : p ↔ q) (e0 : c0 = d0) : v = w ∧ c1 = d1 := by
  subst e0
  rcases h with ⟨h, rfl, rfl⟩ | ⟨h, rfl, rfl⟩
  · rcases h' with ⟨h', rfl, rfl⟩ | ⟨h', rfl, rfl⟩
    · exact ⟨rfl, rfl⟩
    · exact absurd (e.mp h) h'
  · rcases h' with ⟨h', rfl, rfl⟩ | ⟨h', rfl, rfl⟩
    · exact absurd (e.mpr h') h
    · exact ⟨rfl, rfl⟩
theorem v_cTell : po (e_SleepWork_tell P F A J x1 x2 x3) (fun r => TV ((0 ≤ x1.toInt ∧ x1.toInt < (F (P 0 8) 16).toInt ∧ 0 ≤ x2.toInt ∧ x2.toInt < ci A (P 0 8) 5 x1.toInt) ∧ (0 ≤ x3.toInt ∧ x3.toInt ≤ 999) ∧ (F 25 2).toInt < 30) r.1 (F 25 2) (r.2.2.1 25 2) ∧ r.2.2.1 4 2 = F 4 2 ∧ r.2.2.1 0 10 = F 0 10) := by
  have l30 : (30 : Int32).toInt = 30 := by decide
  have l999 : (999 : Int32).toInt = 999 := by decide
  unfold e_SleepWork_tell
  refine po_bl (fun _ h => ?_)
  obtain ⟨-, rfl⟩ := gg_chk h
  refine po_call v_cStep ?_
  intro v b
  rcases b with ⟨rfl, p⟩ | ⟨rfl, p⟩
  · refine po_cond (fun c => absurd c (by decide)) (fun _ => ?_)
    refine po_cond (fun c => po_some ⟨.inr ⟨fun h => ?_, rfl, rfl⟩, rfl, rfl⟩) (fun c3 => ?_)
    · rw [i_lt, i_0] at c
      have := h.2.1.1
      omega
    rw [i_nlt, i_0] at c3
    refine po_cond (fun c => po_some ⟨.inr ⟨fun h => ?_, rfl, rfl⟩, rfl, rfl⟩) (fun c4 => ?_)
    · rw [i_gt, l999] at c
      have := h.2.1.2
      omega
    rw [i_ngt, l999] at c4
    refine po_call (R := fun v => BV v (30 ≤ (F 25 2).toInt)) ?_ ?_
    · unfold e_Told_isFull
      refine po_cond (fun c => po_some (.inr ⟨rfl, ?_⟩)) (fun c => po_some (.inl ⟨rfl, ?_⟩))
      · rw [i_lt, l30] at c
        omega
      · rw [i_nlt, l30] at c
        exact c
    intro v6 b6
    rcases b6 with ⟨rfl, p6⟩ | ⟨rfl, p6⟩
    · refine po_cond (fun c => absurd c (by decide)) (fun _ => po_some ⟨.inr ⟨fun h => ?_, rfl, rfl⟩, rfl, rfl⟩)
      have := h.2.2
      omega
    · refine po_cond (fun _ => ?_) (fun c => absurd c (by decide))
      refine po_call (R := fun r => r.1 = F 25 2 + 1 - 1 ∧ r.2.2.1 25 2 = F 25 2 + 1 ∧ r.2.2.1 4 2 = F 4 2 ∧ r.2.2.1 0 10 = F 0 10) ?_ ?_
      · unfold e_Told_add
        refine po_bl (fun _ _ => po_bl (fun _ _ => po_bl (fun F3 h3 => po_some ?_)))
        have u := gg_cpf h3
        exact ⟨by rw [u.1], u.1, u.2 4 2 (by simp), u.2 0 10 (by simp)⟩
      rintro ⟨v8, P9, F10, A11, J12⟩ ⟨a1, a2, a3, a4⟩
      exact po_some ⟨.inl ⟨⟨p, ⟨c3, c4⟩, by omega⟩, a1, a2⟩, a3, a4⟩
  · exact po_cond (fun _ => po_some ⟨.inr ⟨fun h => p h.1, rfl, rfl⟩, rfl, rfl⟩) (fun c => absurd c (by decide))
theorem v_dTell (S : SAm Fm Am) : po (d_tell3 Fm Am Jm x1 x2 x3) (fun r => TV ((0 ≤ x1.toInt ∧ x1.toInt < (Am 19 (Fm 18).toInt.toNat).toInt ∧ 0 ≤ x2.toInt ∧ x2.toInt < ai Am 22 (6 * (Fm 18).toInt + x1.toInt)) ∧ (0 ≤ x3.toInt ∧ x3.toInt ≤ 999) ∧ (Fm 77).toInt < 30) r.1 (Fm 77) (r.2.1 77) ∧ r.2.1 74 = Fm 74 ∧ r.2.2.1 61 = Am 61) := by
  have l30 : (30 : Int32).toInt = 30 := by decide
  have l999 : (999 : Int32).toInt = 999 := by decide
  have r77 : 0 ≤ (Fm 77).toInt ∧ (Fm 77).toInt ≤ 30 := S.1 77
  unfold d_tell3
  refine po_cond (fun c => po_some ⟨.inr ⟨fun h => ?_, rfl, rfl⟩, rfl, rfl⟩) (fun c => ?_)
  · rw [i_eq, l30] at c
    have := h.2.2
    omega
  rw [i_neq, l30] at c
  refine po_call (v_dStep S) ?_
  intro v b
  rcases b with ⟨rfl, p⟩ | ⟨rfl, p⟩
  · refine po_cond (fun c => absurd c (by decide)) (fun _ => ?_)
    refine po_call v_din ?_
    intro v4 b4
    rw [i_0, l999] at b4
    rcases b4 with ⟨rfl, p4⟩ | ⟨rfl, p4⟩
    · refine po_cond (fun _ => ?_) (fun c => absurd c (by decide))
      refine po_bl (fun A6 h6 => po_bl (fun A7 h7 => po_bl (fun A8 h8 => po_bl (fun F9 h9 => po_some ?_))))
      have u := gg_pf h9
      exact ⟨.inl ⟨⟨p, p4, by omega⟩, by rw [u.1], u.1⟩, u.2 74 (by decide), ((gg_st h8).2.2.1 61 (by decide)).trans (((gg_st h7).2.2.1 61 (by decide)).trans ((gg_st h6).2.2.1 61 (by decide)))⟩
    · exact po_cond (fun c => absurd c (by decide)) (fun _ => po_some ⟨.inr ⟨fun h => p4 h.2.1, rfl, rfl⟩, rfl, rfl⟩)
  · exact po_cond (fun _ => po_some ⟨.inr ⟨fun h => p h.1, rfl, rfl⟩, rfl, rfl⟩) (fun c => absurd c (by decide))
theorem p2_tell (G : Gc P F A) (S : SAm Fm Am) (hc : CY P F A Fm Am) : P2 (e_SleepWork_tell P F A J x1 x2 x3) (d_tell3 Fm Am Jm x1 x2 x3) (fun a b => a.1 = b.1 ∧ SCx a.2.2.1 b.2.1 b.2.2.1) :=
  p2_of v_cTell (v_dTell S) (fun a b h h' => by
    obtain ⟨e1, e2⟩ := h.1.eq h'.1 (by rw [hc.1.stp, hc.2.1]) hc.2.1
    exact ⟨e1, e2, h.2.1.trans (hc.2.2.1.trans h'.2.1.symm), fun s hs => by rw [h.2.2, h'.2.2]; exact hc.2.2.2 s hs⟩)
/-- forget -/
theorem v_cForget : po (e_SleepWork_forget P F A J) (fun r => r.1 = F 25 2 ∧ r.2.2.1 25 2 = 0 ∧ r.2.2.1 4 2 = F 4 2 ∧ r.2.2.1 0 10 = F 0 10) := by
  unfold e_SleepWork_forget
  refine po_bl (fun F1 h1 => ?_)
  have u := gg_cpf h1
  refine po_call (ks_e_Evening_setStale KS.rfl') ?_
  rintro ⟨_, P3, F4, A5, J6⟩ k
  exact po_some ⟨rfl, k.1.trans u.1, k.2.1.trans (u.2 4 2 (by simp)), k.2.2.trans (u.2 0 10 (by simp))⟩
theorem v_dForget : po (d_forget Fm Am Jm) (fun r => r.1 = Fm 77 ∧ r.2.1 77 = 0 ∧ r.2.1 74 = Fm 74 ∧ r.2.2.1 61 = Am 61) := by
  unfold d_forget
  refine po_bl (fun F1 h1 => ?_)
  have u := gg_pf h1
  exact po_some ⟨rfl, u.1, u.2 74 (by decide), rfl⟩
theorem p2_forget (G : Gc P F A) (S : SAm Fm Am) (hc : CY P F A Fm Am) : P2 (e_SleepWork_forget P F A J) (d_forget Fm Am Jm) (fun a b => a.1 = b.1 ∧ SCx a.2.2.1 b.2.1 b.2.2.1) :=
  p2_of v_cForget v_dForget (fun a b h h' => ⟨h.1.trans (hc.2.1.trans h'.1.symm), h.2.1.trans h'.2.1.symm, h.2.2.1.trans (hc.2.2.1.trans h'.2.2.1.symm), fun s hs => by rw [h.2.2.2, h'.2.2.2]; exact hc.2.2.2 s hs⟩)
/-- hold -/
theorem b_hold2 : ∀ a : Fin 8, ∀ x s : Fin 3, ((Int32.ofNat a.val ||| (1 <<< (Int32.ofNat x.val &&& 31))) &&& (1 <<< (Int32.ofNat s.val &&& 31))) ≠ 0 ↔ s.val = x.val ∨ (Int32.ofNat a.val &&& (1 <<< (Int32.ofNat s.val &&& 31))) ≠ 0 := by decide
theorem v_cHold2 : po (e_SleepWork_hold P F A J x1) (fun r => r.2.2.1 25 2 = F 25 2 ∧ r.2.2.1 4 2 = F 4 2 ∧ ((0 ≤ x1.toInt ∧ x1.toInt < 3 ∧ r.1 = 1 ∧ r.2.2.1 0 10 = F 0 10 ||| (1 <<< (x1 &&& 31))) ∨ (¬ (0 ≤ x1.toInt ∧ x1.toInt < 3) ∧ r.1 = 0 ∧ r.2.2.1 0 10 = F 0 10))) := by
  have l3 : (3 : Int32).toInt = 3 := by decide
  unfold e_SleepWork_hold
  refine po_cond (fun c => po_some ⟨rfl, rfl, .inr ⟨?_, rfl, rfl⟩⟩) (fun c => ?_)
  · rw [i_lt, i_0] at c
    omega
  rw [i_nlt, i_0] at c
  refine po_cond (fun c2 => ?_) (fun c2 => po_some ⟨rfl, rfl, .inr ⟨?_, rfl, rfl⟩⟩)
  · rw [i_lt, l3] at c2
    refine po_bl (fun q _ => ?_)
    refine po_call (ks_e_State_copy KS.rfl') ?_
    rintro ⟨_, P5, F6, A7, J8⟩ k
    have k1 : F6 25 2 = F 25 2 := k.1
    have k2 : F6 4 2 = F 4 2 := k.2.1
    have k3 : F6 0 10 = F 0 10 := k.2.2
    refine po_bl (fun F9 h9 => ?_)
    have u := gg_cpf h9
    exact po_some ⟨(u.2 25 2 (by simp)).trans k1, (u.2 4 2 (by simp)).trans k2, .inl ⟨c, c2, rfl, by rw [← k3]; exact u.1⟩⟩
  · rw [i_nlt, l3] at c2
    omega
theorem v_dHold2_20 : ∀ {n : Nat} {Fm : Nat → Int32} {Am : Nat → Nat → Int32} {Jm : Nat → Nat → Int64} {x2 : Int32}, po (d_hold_20 n Fm Am Jm x1 x2) (fun r => r.1 = 1 ∧ KM Fm Am r.2.1 r.2.2.1) := by
  intro n
  induction n with
  | zero => intro Fm Am Jm x2 r hr; cases hr
  | succ n ih =>
    intro Fm Am Jm x2
    unfold d_hold_20
    refine po_cond (fun _ => po_some ⟨rfl, KM.rfl'⟩) (fun _ => ?_)
    refine po_bl (fun v5 _ => po_bl (fun A6 h6 => ?_))
    refine po_mono ih (fun r h => ⟨h.1, KM.tr ⟨rfl, rfl, (gg_st h6).2.2.1 61 (by decide)⟩ h.2⟩)
theorem v_dHold2 : po (d_hold n Fm Am Jm x1) (fun r => r.2.1 77 = Fm 77 ∧ r.2.1 74 = Fm 74 ∧ ((0 ≤ x1.toInt ∧ x1.toInt < 3 ∧ r.1 = 1 ∧ ∀ s : Nat, s < 3 → (r.2.2.1 61 s ≠ 0 ↔ (s = x1.toInt.toNat ∨ Am 61 s ≠ 0))) ∨ (¬ (0 ≤ x1.toInt ∧ x1.toInt < 3) ∧ r.1 = 0 ∧ r.2.2.1 61 = Am 61))) := by
  have l2 : (2 : Int32).toInt = 2 := by decide
  unfold d_hold
  refine po_call v_din ?_
  intro v1 b1
  rw [i_0, l2] at b1
  rcases b1 with ⟨rfl, p⟩ | ⟨rfl, p⟩
  · refine po_cond (fun _ => ?_) (fun c => absurd c (by decide))
    refine po_bl (fun A3 h3 => ?_)
    have u := gg_st h3
    refine po_mono v_dHold2_20 (fun r h => ⟨h.2.1, h.2.2.1, .inl ⟨p.1, by omega, h.1, fun s hs => ?_⟩⟩)
    rw [h.2.2.2]
    by_cases e : s = x1.toInt.toNat
    · have z : A3 61 s = 1 := i_ext (by
        have w := u.2.2.2.1
        unfold ai at w
        rw [e, w] <;> decide)
      rw [z]
      exact ⟨fun _ => .inl e, fun _ => by decide⟩
    · have z : A3 61 s = Am 61 s := i_ext (by
        have w := u.2.2.2.2 (s : Int) (by omega) (by omega)
        unfold ai at w
        rw [Int.toNat_natCast] at w
        exact w)
      rw [z]
      exact ⟨fun h => .inr h, fun h => h.resolve_left e⟩
  · refine po_cond (fun c => absurd c (by decide)) (fun _ => po_some ⟨rfl, rfl, .inr ⟨fun h => p ⟨h.1, by omega⟩, rfl, rfl⟩⟩)
theorem p2_hold (G : Gc P F A) (S : SAm Fm Am) (hc : CY P F A Fm Am) : P2 (e_SleepWork_hold P F A J x1) (d_hold n Fm Am Jm x1) (fun a b => a.1 = b.1 ∧ SCx a.2.2.1 b.2.1 b.2.2.1) :=
  p2_of v_cHold2 v_dHold2 (fun a b h h' => by
    obtain ⟨h1, h2, h3⟩ := h
    obtain ⟨g1, g2, g3⟩ := h'
    have a1 : 0 ≤ (F 0 10).toInt ∧ (F 0 10).toInt ≤ 7 := G.1.1 0 10
    rcases h3 with ⟨p0, p1, e1, e2⟩ | ⟨p, e1, e2⟩
    · rcases g3 with ⟨-, -, d1, d2⟩ | ⟨q, -, -⟩
      · refine ⟨e1.trans d1.symm, h1.trans (hc.2.1.trans g1.symm), h2.trans (hc.2.2.1.trans g2.symm), fun s hs => ?_⟩
        have ex : x1 = Int32.ofNat x1.toInt.toNat := i_nat (by omega)
        have eh : F 0 10 = Int32.ofNat (F 0 10).toInt.toNat := i_nat (by omega)
        have bh := b_hold2 ⟨(F 0 10).toInt.toNat, by omega⟩ ⟨x1.toInt.toNat, by omega⟩ ⟨s, hs⟩
        rw [← ex, ← eh] at bh
        rw [d2 s hs]
        unfold HB
        rw [e2]
        exact bh.trans (or_congr Iff.rfl (hc.2.2.2 s hs))
      · exact absurd ⟨p0, p1⟩ q
    · rcases g3 with ⟨q0, q1, -, -⟩ | ⟨-, d1, d2⟩
      · exact absurd ⟨q0, q1⟩ p
      · exact ⟨e1.trans d1.symm, h1.trans (hc.2.1.trans g1.symm), h2.trans (hc.2.2.1.trans g2.symm), fun s hs => by rw [e2, d2]; exact hc.2.2.2 s hs⟩)
/-- restore -/
theorem v_cRestore : po (e_SleepWork_restore P F A J x1) (fun r => r.2.2.1 25 2 = F 25 2 ∧ r.2.2.1 0 10 = F 0 10 ∧ ((r.1 = 1 ∧ r.2.2.1 4 2 = 0 ∧ (0 ≤ x1.toInt ∧ x1.toInt < 3) ∧ HB (F 0 10) x1.toInt.toNat) ∨ (r.1 = 0 ∧ r.2.2.1 4 2 = F 4 2 ∧ ¬ ((0 ≤ x1.toInt ∧ x1.toInt < 3) ∧ HB (F 0 10) x1.toInt.toNat)))) := by
  have l3 : (3 : Int32).toInt = 3 := by decide
  unfold e_SleepWork_restore
  refine po_cond (fun c => po_some ⟨rfl, rfl, .inr ⟨rfl, rfl, fun h => ?_⟩⟩) (fun c => ?_)
  · rw [i_lt, i_0] at c
    have := h.1
    omega
  rw [i_nlt, i_0] at c
  refine po_cond (fun c2 => po_some ⟨rfl, rfl, .inr ⟨rfl, rfl, fun h => ?_⟩⟩) (fun c2 => ?_)
  · rw [i_ge, l3] at c2
    have := h.1
    omega
  rw [i_nge, l3] at c2
  have ex : x1 = Int32.ofNat x1.toInt.toNat := i_nat c
  have hb : HB (F 0 10) x1.toInt.toNat ↔ (F 0 10 &&& (1 <<< (x1 &&& 31))) ≠ 0 := by
    unfold HB
    rw [← ex]
  refine po_cond (fun c3 => ?_) (fun c3 => po_some ⟨rfl, rfl, .inr ⟨rfl, rfl, fun h => ?_⟩⟩)
  · rw [i_ne, i_0] at c3
    refine po_bl (fun q _ => ?_)
    refine po_call (ks_e_State_copy KS.rfl') ?_
    rintro ⟨_, P6, F7, A8, J9⟩ k
    have k1 : F7 25 2 = F 25 2 := k.1
    have k3 : F7 0 10 = F 0 10 := k.2.2
    refine po_bl (fun F10 h10 => ?_)
    have u := gg_cpf h10
    refine po_call (ks_e_Evening_setStale KS.rfl') ?_
    rintro ⟨_, P12, F13, A14, J15⟩ k'
    exact po_some ⟨k'.1.trans ((u.2 25 2 (by simp)).trans k1), k'.2.2.trans ((u.2 0 10 (by simp)).trans k3), .inl ⟨rfl, k'.2.1.trans u.1, ⟨c, c2⟩, hb.mpr (fun e => c3 (by rw [e] <;> exact i_0))⟩⟩
  · rw [i_nne, i_0] at c3
    exact hb.mp h.2 (i_ext (c3.trans i_0.symm))
theorem v_dRestore_22 : ∀ {n : Nat} {Fm : Nat → Int32} {Am : Nat → Nat → Int32} {Jm : Nat → Nat → Int64} {x2 : Int32}, po (d_restore_22 n Fm Am Jm x1 x2) (fun r => r.1 = 1 ∧ r.2.1 77 = Fm 77 ∧ r.2.1 74 = 0 ∧ r.2.2.1 61 = Am 61) := by
  intro n
  induction n with
  | zero => intro Fm Am Jm x2 r hr; cases hr
  | succ n ih =>
    intro Fm Am Jm x2
    unfold d_restore_22
    refine po_cond (fun _ => po_bl (fun F6 h6 => ?_)) (fun _ => ?_)
    · have u := gg_pf h6
      exact po_some ⟨rfl, u.2 77 (by decide), u.1, rfl⟩
    · refine po_bl (fun v7 _ => po_bl (fun A8 h8 => ?_))
      exact po_mono ih (fun r h => ⟨h.1, h.2.1, h.2.2.1, h.2.2.2.trans ((gg_st h8).2.2.1 61 (by decide))⟩)
theorem v_dRestore : po (d_restore n Fm Am Jm x1) (fun r => r.2.1 77 = Fm 77 ∧ r.2.2.1 61 = Am 61 ∧ ((r.1 = 1 ∧ r.2.1 74 = 0 ∧ (0 ≤ x1.toInt ∧ x1.toInt < 3) ∧ Am 61 x1.toInt.toNat ≠ 0) ∨ (r.1 = 0 ∧ r.2.1 74 = Fm 74 ∧ ¬ ((0 ≤ x1.toInt ∧ x1.toInt < 3) ∧ Am 61 x1.toInt.toNat ≠ 0)))) := by
  have l2 : (2 : Int32).toInt = 2 := by decide
  unfold d_restore
  refine po_call v_din ?_
  intro v1 b1
  rw [i_0, l2] at b1
  rcases b1 with ⟨rfl, p⟩ | ⟨rfl, p⟩
  · refine po_cond (fun c => absurd c (by decide)) (fun _ => ?_)
    refine po_bl (fun v3 h3 => ?_)
    have e3 := (gg_ld h3).2.2
    refine po_cond (fun c => ?_) (fun c => po_some ⟨rfl, rfl, .inr ⟨rfl, rfl, fun h => h.2 ?_⟩⟩)
    · rw [i_ne, i_0] at c
      exact po_mono v_dRestore_22 (fun r h => ⟨h.2.1, h.2.2.2, .inl ⟨h.1, h.2.2.1, ⟨p.1, by omega⟩, fun e => c (by rw [e3, e] <;> exact i_0)⟩⟩)
    · rw [i_nne, i_0] at c
      rw [← e3]
      exact i_ext (c.trans i_0.symm)
  · exact po_cond (fun _ => po_some ⟨rfl, rfl, .inr ⟨rfl, rfl, fun h => p ⟨h.1.1, by have := h.1.2; omega⟩⟩⟩) (fun c => absurd c (by decide))
theorem p2_restore (G : Gc P F A) (S : SAm Fm Am) (hc : CY P F A Fm Am) : P2 (e_SleepWork_restore P F A J x1) (d_restore n Fm Am Jm x1) (fun a b => a.1 = b.1 ∧ SCx a.2.2.1 b.2.1 b.2.2.1) :=
  p2_of v_cRestore v_dRestore (fun a b h h' => by
    obtain ⟨h1, h2, h3⟩ := h
    obtain ⟨g1, g2, g3⟩ := h'
    have hs : ∀ s : Nat, s < 3 → (HB (a.2.2.1 0 10) s ↔ b.2.2.1 61 s ≠ 0) := fun s hs => by rw [h2, g2]; exact hc.2.2.2 s hs
    rcases h3 with ⟨e1, e2, p, q⟩ | ⟨e1, e2, q⟩
    · rcases g3 with ⟨d1, d2, -, -⟩ | ⟨-, -, q'⟩
      · exact ⟨e1.trans d1.symm, h1.trans (hc.2.1.trans g1.symm), e2.trans d2.symm, hs⟩
      · exact absurd ⟨p, (hc.2.2.2 _ (by omega)).mp q⟩ q'
    · rcases g3 with ⟨-, -, p, q'⟩ | ⟨d1, d2, -⟩
      · exact absurd ⟨p, (hc.2.2.2 _ (by omega)).mpr q'⟩ q
      · exact ⟨e1.trans d1.symm, h1.trans (hc.2.1.trans g1.symm), e2.trans (hc.2.2.1.trans d2.symm), hs⟩)
/-- undo -/
def UV (v c0 c1 : Int32) : Prop := (c0.toInt ≠ 0 ∧ v = 1 ∧ c1 = c0 - 1) ∨ (c0.toInt = 0 ∧ v = 0 ∧ c1 = c0)
theorem UV.eq {v w c0 c1 d0 d1 : Int32} (h : UV v c0 c1) (h' : UV w d0 d1) (e0 : c0 = d0) : v = w ∧ c1 = d1 := by
  subst e0
  rcases h with ⟨h, rfl, rfl⟩ | ⟨h, rfl, rfl⟩
  · rcases h' with ⟨h', rfl, rfl⟩ | ⟨h', rfl, rfl⟩
    · exact ⟨rfl, rfl⟩
    · exact absurd h' h
  · rcases h' with ⟨h', rfl, rfl⟩ | ⟨h', rfl, rfl⟩
    · exact absurd h h'
    · exact ⟨rfl, rfl⟩
theorem v_cPull {r1 : Nat} : po (e_Past_pull P F A J r1) (fun r => UV r.1 (F 4 2) (r.2.2.1 4 2) ∧ r.2.2.1 25 2 = F 25 2 ∧ r.2.2.1 0 10 = F 0 10) := by
  unfold e_Past_pull
  refine po_cond (fun c => ?_) (fun c => po_some ⟨.inr ⟨?_, rfl, rfl⟩, rfl, rfl⟩)
  · rw [i_ne, i_0] at c
    refine po_bl (fun F2 h2 => ?_)
    have u := gg_cpf h2
    refine po_bl (fun _ _ => po_bl (fun _ _ => ?_))
    refine po_call (ks_e_State_copy KS.rfl') ?_
    rintro ⟨_, P6, F7, A8, J9⟩ k
    exact po_some ⟨.inl ⟨c, rfl, k.2.1.trans u.1⟩, k.1.trans (u.2 25 2 (by simp)), k.2.2.trans (u.2 0 10 (by simp))⟩
  · rw [i_nne, i_0] at c
    exact c
theorem v_cUndo : po (e_SleepWork_undo P F A J) (fun r => UV r.1 (F 4 2) (r.2.2.1 4 2) ∧ r.2.2.1 25 2 = F 25 2 ∧ r.2.2.1 0 10 = F 0 10) := by
  unfold e_SleepWork_undo
  refine po_call v_cPull ?_
  rintro ⟨v1, P2, F3, A4, J5⟩ ⟨h1, h2, h3⟩
  dsimp only at h1 h2 h3 ⊢
  refine po_cond (fun c => ?_) (fun c => po_some ⟨?_, h2, h3⟩)
  · rw [i_ne, i_0] at c
    refine po_call (ks_e_Evening_setStale KS.rfl') ?_
    rintro ⟨_, P8, F9, A10, J11⟩ k
    refine po_some ⟨?_, k.1.trans h2, k.2.2.trans h3⟩
    show UV 1 (F 4 2) (F9 4 2)
    rw [show F9 4 2 = F3 4 2 from k.2.1]
    rcases h1 with ⟨a, -, b⟩ | ⟨-, b, -⟩
    · exact .inl ⟨a, rfl, b⟩
    · exact absurd (by rw [b] <;> exact i_0) c
  · rw [i_nne, i_0] at c
    rcases h1 with ⟨-, b, -⟩ | ⟨a, -, b⟩
    · rw [b, i_1] at c
      exact absurd c (by decide)
    · exact .inr ⟨a, rfl, b⟩
theorem v_dUndo_21 : ∀ {n : Nat} {Fm : Nat → Int32} {Am : Nat → Nat → Int32} {Jm : Nat → Nat → Int64} {x1 : Int32}, po (d_undo_21 n Fm Am Jm x1) (fun r => r.1 = 1 ∧ KM Fm Am r.2.1 r.2.2.1) := by
  intro n
  induction n with
  | zero => intro Fm Am Jm x1 r hr; cases hr
  | succ n ih =>
    intro Fm Am Jm x1
    unfold d_undo_21
    refine po_cond (fun _ => po_some ⟨rfl, KM.rfl'⟩) (fun _ => ?_)
    refine po_bl (fun v4 _ => po_bl (fun A5 h5 => ?_))
    exact po_mono ih (fun r h => ⟨h.1, KM.tr ⟨rfl, rfl, (gg_st h5).2.2.1 61 (by decide)⟩ h.2⟩)
theorem v_dUndo : po (d_undo n Fm Am Jm) (fun r => UV r.1 (Fm 74) (r.2.1 74) ∧ r.2.1 77 = Fm 77 ∧ r.2.2.1 61 = Am 61) := by
  unfold d_undo
  refine po_cond (fun c => ?_) (fun c => po_some ⟨.inr ⟨?_, rfl, rfl⟩, rfl, rfl⟩)
  · rw [i_ne, i_0] at c
    refine po_bl (fun F2 h2 => ?_)
    have u := gg_pf h2
    exact po_mono v_dUndo_21 (fun r h => ⟨.inl ⟨c, h.1, h.2.2.1.trans u.1⟩, h.2.1.trans (u.2 77 (by decide)), h.2.2.2⟩)
  · rw [i_nne, i_0] at c
    exact c
theorem p2_undo (G : Gc P F A) (S : SAm Fm Am) (hc : CY P F A Fm Am) : P2 (e_SleepWork_undo P F A J) (d_undo n Fm Am Jm) (fun a b => a.1 = b.1 ∧ SCx a.2.2.1 b.2.1 b.2.2.1) :=
  p2_of v_cUndo v_dUndo (fun a b h h' => by
    obtain ⟨e1, e2⟩ := h.1.eq h'.1 hc.2.2.1
    exact ⟨e1, h.2.1.trans (hc.2.1.trans h'.2.1.symm), e2, fun s hs => by rw [h.2.2, h'.2.2]; exact hc.2.2.2 s hs⟩)
/-- night: nothing is said of its answer -/
def NV (c0 c1 : Int32) : Prop := (c0.toInt = 20 ∧ c1 = c0) ∨ (c0.toInt ≠ 20 ∧ c1 = c0 + 1)
theorem NV.eq {c0 c1 d0 d1 : Int32} (h : NV c0 c1) (h' : NV d0 d1) (e0 : c0 = d0) : c1 = d1 := by
  subst e0
  rcases h with ⟨h, rfl⟩ | ⟨h, rfl⟩
  · rcases h' with ⟨h', rfl⟩ | ⟨h', rfl⟩
    · rfl
    · exact absurd h h'
  · rcases h' with ⟨h', rfl⟩ | ⟨h', rfl⟩
    · exact absurd h' h
    · rfl
theorem v_cPush {r1 : Nat} : po (e_Past_push P F A J r1) (fun r => NV (F 4 2) (r.2.2.1 4 2) ∧ r.2.2.1 25 2 = F 25 2 ∧ r.2.2.1 0 10 = F 0 10) := by
  have l20 : (20 : Int32).toInt = 20 := by decide
  unfold e_Past_push
  refine po_cond (fun c => ?_) (fun c => ?_)
  · rw [i_ne, l20] at c
    refine po_bl (fun F2 h2 => ?_)
    have u := gg_cpf h2
    refine po_bl (fun _ _ => po_bl (fun _ _ => ?_))
    refine po_call (ks_e_State_copy KS.rfl') ?_
    rintro ⟨_, P6, F7, A8, J9⟩ k
    exact po_some ⟨.inr ⟨c, k.2.1.trans u.1⟩, k.1.trans (u.2 25 2 (by simp)), k.2.2.trans (u.2 0 10 (by simp))⟩
  · rw [i_nne, l20] at c
    refine po_bl (fun _ _ => po_bl (fun F11 h11 => ?_))
    have u := gg_cpf h11
    exact po_mono (ks_e_Past_push_35 KS.rfl') (fun r k => ⟨.inl ⟨c, k.2.1.trans (u.2 4 2 (by simp))⟩, k.1.trans (u.2 25 2 (by simp)), k.2.2.trans (u.2 0 10 (by simp))⟩)
theorem v_cNight : po (e_SleepWork_night n P F A J) (fun r => NV (F 4 2) (r.2.2.1 4 2) ∧ r.2.2.1 25 2 = F 25 2 ∧ r.2.2.1 0 10 = F 0 10) := by
  unfold e_SleepWork_night
  refine po_call v_cPush ?_
  rintro ⟨_, P2, F3, A4, J5⟩ ⟨h1, h2, h3⟩
  dsimp only at h1 h2 h3 ⊢
  refine po_bl (fun _ _ => po_bl (fun _ _ => ?_))
  refine po_call (ks_e_Evening_goBy KS.rfl') ?_
  rintro ⟨_, P9, F10, A11, J12⟩ k
  refine po_bl (fun _ _ => po_bl (fun _ _ => po_some ⟨?_, k.1.trans h2, k.2.2.trans h3⟩))
  show NV (F 4 2) (F10 4 2)
  rw [show F10 4 2 = F3 4 2 from k.2.1]
  exact h1
theorem v_dNight_51 : ∀ {n : Nat} {Fm : Nat → Int32} {Am : Nat → Nat → Int32} {Jm : Nat → Nat → Int64} {x1 : Int32}, po (d_night_51 n Fm Am Jm x1) (fun r => r.2.1 74 = Fm 74 + 1 ∧ r.2.1 77 = Fm 77 ∧ r.2.2.1 61 = Am 61) := by
  intro n
  induction n with
  | zero => intro Fm Am Jm x1 r hr; cases hr
  | succ n ih =>
    intro Fm Am Jm x1
    unfold d_night_51
    refine po_cond (fun _ => po_bl (fun F7 h7 => ?_)) (fun _ => ?_)
    · have u := gg_pf h7
      refine po_call (km_d_takes KM.rfl') ?_
      rintro ⟨_, F9, A10, J11⟩ k1
      refine po_call (km_d_wholeNight KM.rfl') ?_
      rintro ⟨v12, F13, A14, J15⟩ k2
      refine po_mono (km_d_night_104 KM.rfl') (fun r k3 => ?_)
      have k := (KM.tr k1 k2).tr k3
      exact ⟨k.2.1.trans u.1, k.1.trans (u.2 77 (by decide)), k.2.2⟩
    · refine po_bl (fun v16 _ => po_bl (fun A17 h17 => ?_))
      exact po_mono ih (fun r h => ⟨h.1, h.2.1, h.2.2.trans ((gg_st h17).2.2.1 61 (by decide))⟩)
theorem v_dNight_11 : ∀ {n : Nat} {Fm : Nat → Int32} {Am : Nat → Nat → Int32} {Jm : Nat → Nat → Int64} {x1 : Int32}, po (d_night_11 n Fm Am Jm x1) (fun r => r.2.1 74 = Fm 74 - 1 + 1 ∧ r.2.1 77 = Fm 77 ∧ r.2.2.1 61 = Am 61) := by
  intro n
  induction n with
  | zero => intro Fm Am Jm x1 r hr; cases hr
  | succ n ih =>
    intro Fm Am Jm x1
    unfold d_night_11
    refine po_cond (fun _ => po_bl (fun F3 h3 => ?_)) (fun _ => ?_)
    · have u := gg_pf h3
      exact po_mono v_dNight_51 (fun r h => ⟨by rw [← u.1]; exact h.1, h.2.1.trans (u.2 77 (by decide)), h.2.2⟩)
    · refine po_bl (fun v4 _ => po_bl (fun A5 h5 => ?_))
      exact po_mono ih (fun r h => ⟨h.1, h.2.1, h.2.2.trans ((gg_st h5).2.2.1 61 (by decide))⟩)
theorem v_dNight : po (d_night n Fm Am Jm) (fun r => NV (Fm 74) (r.2.1 74) ∧ r.2.1 77 = Fm 77 ∧ r.2.2.1 61 = Am 61) := by
  have l20 : (20 : Int32).toInt = 20 := by decide
  unfold d_night d_night_49
  refine po_cond (fun c => ?_) (fun c => ?_)
  · rw [i_ne, l20] at c
    exact po_mono v_dNight_51 (fun r h => ⟨.inr ⟨c, h.1⟩, h.2⟩)
  · rw [i_nne, l20] at c
    have e : Fm 74 = 20 := i_ext (c.trans l20.symm)
    exact po_mono v_dNight_11 (fun r h => ⟨.inl ⟨c, h.1.trans (by rw [e] <;> decide)⟩, h.2⟩)
theorem p2_night (G : Gc P F A) (S : SAm Fm Am) (hc : CY P F A Fm Am) : P2 (e_SleepWork_night n2 P F A J) (d_night n Fm Am Jm) (fun a b => True ∧ SCx a.2.2.1 b.2.1 b.2.2.1) :=
  p2_of v_cNight v_dNight (fun a b h h' => ⟨trivial, h.2.1.trans (hc.2.1.trans h'.2.1.symm), h.1.eq h'.1 hc.2.2.1, fun s hs => by rw [h.2.2, h'.2.2]; exact hc.2.2.2 s hs⟩)
/-- read: a good text empties all three -/
theorem po_move2 : po (e_SleepWork_moveIn P F A J) (fun r => r.2.2.1 25 2 = 0 ∧ r.2.2.1 4 2 = 0 ∧ r.2.2.1 0 10 = 0) := by
  unfold e_SleepWork_moveIn
  refine po_bl (fun _ _ => po_bl (fun _ _ => po_bl (fun P3 _ => po_bl (fun P4 _ => ?_))))
  refine po_call (R := fun _ => True) (fun _ _ => trivial) ?_
  rintro ⟨_, P6, F7, A8, J9⟩ -
  refine po_bl (fun Fa ha => ?_)
  have ua := gg_cpf ha
  refine po_bl (fun Fb hb => ?_)
  have ub := gg_cpf hb
  refine po_bl (fun Fc hc => ?_)
  have uc := gg_cpf hc
  refine po_bl (fun _ _ => ?_)
  refine po_call (ks_e_Evening_enter KS.rfl') ?_
  rintro ⟨_, P15, F16, A17, J18⟩ k
  exact po_some ⟨k.1.trans ((uc.2 25 2 (by simp)).trans ub.1), k.2.1.trans ((uc.2 4 2 (by simp)).trans ((ub.2 4 2 (by simp)).trans ua.1)), k.2.2.trans uc.1⟩
/-- what a text, good or bad, leaves of the reference's scalars -/
def RDx (Fr : Nat → Int32) (Ar : Nat → Nat → Int32) (r : Int32 × (Nat → Int32) × (Nat → Nat → Int32) × (Nat → Nat → Int64)) : Prop := (r.1.toInt ≠ 0 ∧ KM Fr Ar r.2.1 r.2.2.1) ∨ (r.1.toInt = 0 ∧ r.2.1 77 = 0 ∧ r.2.1 74 = 0 ∧ ∀ s : Nat, s < 3 → r.2.2.1 61 s = 0)
theorem v_r322 : ∀ {n : Nat} {Fm : Nat → Int32} {Am : Nat → Nat → Int32} {Jm : Nat → Nat → Int64} {x1 : Int32}, 0 ≤ x1.toInt → Fm 77 = 0 → Fm 74 = 0 → (∀ s : Nat, (s : Int) < x1.toInt → Am 61 s = 0) → po (d_read_322 n Fm Am Jm x1) (RDx Fr Ar) := by
  have l3 : (3 : Int32).toInt = 3 := by decide
  intro n
  induction n with
  | zero => intro Fm Am Jm x1 _ _ _ _ r hr; cases hr
  | succ n ih =>
    intro Fm Am Jm x1 x0 e7 e4 hz
    unfold d_read_322
    refine po_cond (fun c => ?_) (fun c => ?_)
    · rw [i_ge, l3] at c
      exact po_some (.inr ⟨i_0, e7, e4, fun s hs => hz s (by omega)⟩)
    · rw [i_nge, l3] at c
      refine po_bl (fun A8 h8 => ?_)
      have u := gg_st h8
      have ea := i_add (x := x1) (y := 1) (by rw [i_1]; omega) (by rw [i_1]; omega)
      rw [i_1] at ea
      refine ih (by omega) e7 e4 (fun s hs => ?_)
      by_cases e : (s : Int) = x1.toInt
      · refine i_ext ?_
        have w := u.2.2.2.1
        unfold ai at w
        rw [← e, Int.toNat_natCast] at w
        rw [w] <;> decide
      · refine (i_ext ?_ : A8 61 s = Am 61 s).trans (hz s (by omega))
        have w := u.2.2.2.2 (s : Int) (by omega) e
        unfold ai at w
        rw [Int.toNat_natCast] at w
        exact w
theorem v_r271 {s1 : Int32} (h : KM Fr Ar Fm Am) : po (d_read_271 n Fm Am Jm s1) (RDx Fr Ar) := by
  unfold d_read_271
  refine km_pf h (by decide) (fun F7 h7 => ?_)
  refine po_cond (fun c => ?_) (fun c => ?_)
  · refine po_cond (fun c2 => ?_) (fun c2 => ?_)
    · refine po_bl (fun F0 _ => ?_)
      refine po_call (R := fun _ => True) (fun _ _ => trivial) ?_
      rintro ⟨_, F2, A3, J4⟩ -
      refine po_bl (fun F5 h5 => ?_)
      have u5 := gg_pf h5
      refine po_bl (fun F6 h6 => ?_)
      have u6 := gg_pf h6
      exact v_r322 (by decide) u6.1 ((u6.2 74 (by decide)).trans u5.1) (fun s hs => absurd hs (by rw [i_0]; omega))
    · rw [i_nle, i_0] at c2
      exact po_some (.inl ⟨by show (F7 15).toInt ≠ 0; omega, h7⟩)
  · rw [i_nle, i_0] at c
    exact po_some (.inl ⟨by show (F7 13).toInt ≠ 0; omega, h7⟩)
theorem v_r241 (h : KM Fr Ar Fm Am) : po (d_read_241 n Fm Am Jm) (RDx Fr Ar) := by
  unfold d_read_241
  exact po_cond (fun _ => po_cond (fun _ => v_r271 h) (fun _ => v_r271 h)) (fun _ => v_r271 h)
theorem v_r219 : ∀ {n : Nat} {Fm : Nat → Int32} {Am : Nat → Nat → Int32} {Jm : Nat → Nat → Int64}, KM Fr Ar Fm Am → po (d_read_219 n Fm Am Jm) (RDx Fr Ar) := by
  intro n
  induction n with
  | zero => intro Fm Am Jm _ r hr; cases hr
  | succ n ih =>
    intro Fm Am Jm h
    unfold d_read_219
    refine po_cond (fun _ => v_r241 h) (fun _ => po_bl (fun _ _ => po_cond (fun _ => v_r241 h) (fun _ => ?_)))
    refine po_call (km_d_tell0 h) ?_
    rintro ⟨_, F2, A3, J4⟩ k
    exact ih k
theorem v_r177 : ∀ {n : Nat} {Fm : Nat → Int32} {Am : Nat → Nat → Int32} {Jm : Nat → Nat → Int64} {x1 : Int32}, KM Fr Ar Fm Am → po (d_read_177 n Fm Am Jm x1) (RDx Fr Ar) := by
  intro n
  induction n with
  | zero => intro Fm Am Jm x1 _ r hr; cases hr
  | succ n ih =>
    intro Fm Am Jm x1 h
    unfold d_read_177
    refine po_cond (fun _ => v_r219 h) (fun _ => ?_)
    refine km_st h (by decide) (fun A6 h6 => ?_)
    refine km_st h6 (by decide) (fun A7 h7 => ?_)
    exact ih h7
theorem v_r10 : ∀ {n : Nat} {Fm : Nat → Int32} {Am : Nat → Nat → Int32} {Jm : Nat → Nat → Int64} {x1 : Int32}, KM Fr Ar Fm Am → po (d_read_10 n Fm Am Jm x1) (RDx Fr Ar) := by
  intro n
  induction n with
  | zero => intro Fm Am Jm x1 _ r hr; cases hr
  | succ n ih =>
    intro Fm Am Jm x1 h
    unfold d_read_10
    refine po_cond (fun _ => ?_) (fun _ => ?_)
    · refine km_pf h (by decide) (fun F3 h3 => ?_)
      refine po_call (km_d_cut h3) ?_
      rintro ⟨_, F5, A6, J7⟩ k
      refine km_pf k (by decide) (fun F8 h8 => ?_)
      refine km_pf h8 (by decide) (fun F9 h9 => ?_)
      refine km_pf h9 (by decide) (fun F10 h10 => ?_)
      refine km_pf h10 (by decide) (fun F11 h11 => ?_)
      refine km_pf h11 (by decide) (fun F12 h12 => ?_)
      refine km_pf h12 (by decide) (fun F13 h13 => ?_)
      refine km_st h13 (by decide) (fun A14 h14 => ?_)
      refine km_st h14 (by decide) (fun A15 h15 => ?_)
      refine km_st h15 (by decide) (fun A16 h16 => ?_)
      refine km_st h16 (by decide) (fun A17 h17 => ?_)
      refine km_st h17 (by decide) (fun A18 h18 => ?_)
      refine km_st h18 (by decide) (fun A19 h19 => ?_)
      refine km_st h19 (by decide) (fun A20 h20 => ?_)
      refine km_pf h20 (by decide) (fun F21 h21 => ?_)
      refine km_pf h21 (by decide) (fun F22 h22 => ?_)
      exact v_r177 h22
    · refine po_bl (fun v23 _ => ?_)
      refine km_st h (by decide) (fun A24 h24 => ?_)
      exact ih h24
theorem v_dRead6 : po (d_read n Fm Am Jm) (RDx Fm Am) := by
  unfold d_read
  exact km_pf KM.rfl' (by decide) (fun F1 h1 => v_r10 h1)
theorem v_cRead6 (G : Gc P F A) (hn : 6000 ≤ n) : po (e_SleepWork_read n P F A J) (fun r => (r.1.toInt ≠ 0 ∧ KS F r.2.2.1) ∨ (r.1.toInt = 0 ∧ r.2.2.1 25 2 = 0 ∧ r.2.2.1 4 2 = 0 ∧ r.2.2.1 0 10 = 0)) := by
  have hl := G.k09
  have q1 : ∀ {r : Nat}, c_kind r ≠ 6 → r ≠ P 0 9 := fun h e => h (by rw [e]; exact hl)
  unfold e_SleepWork_read
  refine po_bl (fun _ h1 => ?_)
  obtain ⟨hk, rfl⟩ := gg_chk h1
  refine po_call (s_rt (J := J) G hn).po ?_
  rintro ⟨v2, P3, F4, A5, J6⟩ ⟨oP, t1, t2, t3, t4, t5⟩
  dsimp only at t3 ⊢
  refine po_bl (fun v7 _ => ?_)
  refine po_bl (fun F8 h8 => ?_)
  have u8 := gg_cpf h8
  refine po_bl (fun F9 h9 => ?_)
  have u9 := gg_cpf h9
  refine po_cond (fun c => ?_) (fun c => ?_)
  · rw [i_ne, i_0] at c
    exact po_some (.inl ⟨c, (u9.2 25 2 (by simp)).trans ((u8.2 25 2 (by simp)).trans (t3 25 2 (by decide) (q1 (by decide)) (by decide))), (u9.2 4 2 (by simp)).trans ((u8.2 4 2 (by simp)).trans (t3 4 2 (by decide) (q1 (by decide)) (by decide))), (u9.2 0 10 (by simp)).trans ((u8.2 0 10 (by simp)).trans (t3 0 10 (by decide) (q1 (by decide)) (by decide)))⟩)
  · rw [i_nne, i_0] at c
    refine po_call po_move2 ?_
    rintro ⟨_, P12, F13, A14, J15⟩ k
    exact po_some (.inr ⟨c, k⟩)
theorem p2_cread6 {n m : Nat} {JW JK : Nat → Int64} (hW : WKx JW JK) (G : Gc P F A) (S : SAm Fm Am) (tp : TPx F A Fm Am) (hc : CY P F A Fm Am) (jw : J 37 6 = JW) (jk : Jm 7 = JK) (hn : 6000 ≤ n) (hm : 12100 ≤ m) : P2 (e_SleepWork_read n P F A J) (d_read m Fm Am Jm) (fun a b => (a.1 = b.1 ∧ JP JW a ∧ JQ JK b) ∧ CY a.2.1 a.2.2.1 a.2.2.2.1 b.2.1 b.2.2.1) := fun a b ha hb => by
  obtain ⟨h1, h2⟩ := p2_cread5 hW G S tp hc.1 jw jk hn hm a b ha hb
  refine ⟨h1, h2, ?_⟩
  have hc2 := v_cRead6 G hn a ha
  have hd := v_dRead6 b hb
  dsimp only at hc2
  rw [h1.1] at hc2
  rcases hc2 with ⟨e, k⟩ | ⟨e, k1, k2, k3⟩
  · rcases hd with ⟨-, k'⟩ | ⟨e', -⟩
    · exact (hc.2.c k).m k'
    · exact absurd e' e
  · rcases hd with ⟨e', -⟩ | ⟨-, d1, d2, d3⟩
    · exact absurd e e'
    · refine ⟨k1.trans d1.symm, k2.trans d2.symm, fun s hs => ?_⟩
      unfold HB
      rw [k3, d3 s hs]
      have := b_none ⟨s, hs⟩
      exact ⟨fun h => absurd this h, fun h => absurd rfl h⟩
end H9ex2
