section Qz161
/-! man and tool: the same answers -/
section H9fd
variable {n m : Nat} {P P' : Nat → Nat → Nat} {F F' : Nat → Nat → Int32} {A A' : Nat → Nat → Nat → Int32} {J : Nat → Nat → Nat → Int64} {Fm Fm' : Nat → Int32} {Am Am' : Nat → Nat → Int32} {Jm : Nat → Nat → Int64} {x1 x2 x3 : Int32}
theorem p2_dd {γ δ : Type} {p : Prop} [Decidable p] {x y : Option γ} {z w : Option δ} {Q : γ → δ → Prop} (h1 : p → P2 x z Q) (h2 : ¬ p → P2 y w Q) : P2 (cond (decide p) x y) (cond (decide p) z w) Q := by
  by_cases h : p
  · rw [decide_eq_true h]
    exact h1 h
  · rw [decide_eq_false h]
    exact h2 h
theorem v_none {x : Int32} : po (d_orNone x) (fun v => v.toInt = if 0 ≤ x.toInt then x.toInt else -2) := by
  unfold d_orNone
  refine po_cond (fun c => po_some ?_) (fun c => po_some ?_)
  · rw [i_ge, i_0] at c
    rw [if_pos c]
  · rw [i_nge, i_0] at c
    rw [if_neg (by omega)]
    decide
theorem p2_tool (X : XR P F A Fm Am) (S : SAm Fm Am) : P2 (e_SleepWork_tool P F A J x1) (d_tool Fm Am Jm x1) (fun a b => a = b) := by
  obtain ⟨N, -, Y, -, -⟩ := X
  have ct := N.ct
  unfold e_SleepWork_tool d_tool
  refine p2_call (R := fun v w => BV v (0 ≤ x1.toInt ∧ x1.toInt < (F (P 0 8) 15).toInt) ∧ v = w) (p2_of v_cTool (v_dTool S) (fun a b h h' => ⟨h, h.eq h' (by rw [CX.tools N.1])⟩)) ?_
  rintro v w ⟨b, rfl⟩
  rcases b with ⟨rfl, p⟩ | ⟨rfl, p⟩
  · refine p2_cl (fun c => absurd c (by decide)) (fun _ => p2_cr (fun c => absurd c (by decide)) (fun _ => ?_))
    refine p2_bl (fun v4 h4 => p2_br (fun v3 h3 => p2_some (i_ext ?_)))
    have e := i_72 (k := 72) (x := x1) (by decide) (by omega)
    rw [show (72 : Int32).toInt = 72 by decide] at e
    rw [(gl h4).2.2, (gm h3).2.2, e]
    exact Y.1.2.2.1 x1.toInt p.1 (by omega)
  · exact p2_cl (fun _ => p2_cr (fun _ => p2_some rfl) (fun c => absurd c (by decide))) (fun c => absurd c (by decide))
theorem p2_man (X : XR P F A Fm Am) (S : SAm Fm Am) : P2 (e_SleepWork_man P F A J x1 x2) (d_man Fm Am Jm x1 x2) (fun a b => a = b) := by
  obtain ⟨N, -, Y, -, -⟩ := X
  have ct := N.ct
  have hs := N.sd
  unfold e_SleepWork_man d_man
  refine p2_call (R := fun v w => BV v (0 ≤ x1.toInt ∧ x1.toInt < (F (P 0 8) 17).toInt) ∧ v = w) (p2_of v_cMan (v_dMan S) (fun a b h h' => ⟨h, h.eq h' (by rw [CX.men N.1])⟩)) ?_
  rintro v w ⟨b, rfl⟩
  rcases b with ⟨rfl, p⟩ | ⟨rfl, p⟩
  · refine p2_cl (fun _ => p2_cr (fun _ => ?_) (fun c => absurd c (by decide))) (fun c => absurd c (by decide))
    refine p2_bl (fun v3 h3 => ?_)
    have g3 := (gl h3).2.2
    obtain ⟨L, s5, s6, s7⟩ := Y.1.2.2.2.1 x1.toInt p.1 p.2
    have ix : ∀ {k : Int32} {c : Int}, k.toInt = c → 0 ≤ c → c ≤ 100 → (k + x1).toInt = c + x1.toInt := fun {k c} e c0 c1 => by
      have := i_72 (k := k) (x := x1) (by omega) (by omega)
      rw [this, e]
    have lq : (v3.toInt = -1 ∧ ai Am 47 (42 + x1.toInt) = -1 ∧ ai Am 47 (48 + x1.toInt) = -1) ∨ (0 ≤ v3.toInt ∧ 0 ≤ ai Am 47 (42 + x1.toInt) ∧ 0 ≤ ai Am 47 (48 + x1.toInt) ∧ v3.toInt / 6 = ai Am 47 (42 + x1.toInt) ∧ v3.toInt % 6 = ai Am 47 (48 + x1.toInt)) := by
      rw [g3]
      rcases L with ⟨a, b, c⟩ | ⟨a, b, c, d, e⟩
      · exact .inl ⟨a, b, c⟩
      · have s6 := (N.s6 a).2
        have e' : ci A 2 3 x1.toInt = ai Am 47 (42 + x1.toInt) * 6 + ai Am 47 (48 + x1.toInt) := e
        have a' : 0 ≤ ai Am 47 (42 + x1.toInt) := a
        have c' : 0 ≤ ai Am 47 (48 + x1.toInt) := c
        have d' : ai Am 47 (48 + x1.toInt) < ci A (P 0 8) 5 (ai Am 47 (42 + x1.toInt)) := d
        have s6' : ci A (P 0 8) 5 (ai Am 47 (42 + x1.toInt)) ≤ 6 := s6
        exact .inr ⟨by omega, a', c', by omega, by omega⟩
    refine p2_dd (fun _ => ?_) (fun _ => ?_)
    · refine p2_bl (fun _ hk => ?_)
      obtain ⟨-, rfl⟩ := gg_chk hk
      refine p2_bl (fun v6 h6 => p2_br (fun w6 k6 => p2_some (i_ext ?_)))
      rw [(gl h6).2.2, (gm k6).2.2, ix6 hs (by omega)]
      exact N.hm p.1 p.2
    refine p2_dd (fun _ => ?_) (fun _ => ?_)
    · refine p2_br (fun w5 k5 => ?_)
      have g5 := (gm k5).2.2
      rw [ix (c := 42) (by decide) (by decide) (by decide)] at g5
      refine p2_r v_none ?_
      intro w6 q6
      rw [g5] at q6
      refine p2_cl (fun c => ?_) (fun c => ?_)
      · rw [i_ge, i_0] at c
        refine p2_bl (fun v8 h8 => p2_some (i_ext ?_))
        rw [gg_div6 h8, i_div6 c, q6, if_pos (by omega)]
        omega
      · rw [i_nge, i_0] at c
        refine p2_some (i_ext ?_)
        rw [q6, if_neg (by omega)]
        decide
    refine p2_dd (fun _ => ?_) (fun _ => ?_)
    · refine p2_br (fun w5 k5 => ?_)
      have g5 := (gm k5).2.2
      rw [ix (c := 48) (by decide) (by decide) (by decide)] at g5
      refine p2_r v_none ?_
      intro w6 q6
      rw [g5] at q6
      refine p2_cl (fun c => ?_) (fun c => ?_)
      · rw [i_ge, i_0] at c
        refine p2_bl (fun v8 h8 => p2_some (i_ext ?_))
        rw [gg_rem6 h8, i_rem6 c, q6, if_pos (by omega)]
        omega
      · rw [i_nge, i_0] at c
        refine p2_some (i_ext ?_)
        rw [q6, if_neg (by omega)]
        decide
    refine p2_dd (fun _ => ?_) (fun _ => ?_)
    · refine p2_bl (fun v8 h8 => p2_br (fun w5 k5 => p2_some (i_ext ?_)))
      rw [(gl h8).2.2, (gm k5).2.2, ix (c := 54) (by decide) (by decide) (by decide)]
      exact s5
    refine p2_dd (fun _ => ?_) (fun _ => ?_)
    · refine p2_bl (fun v8 h8 => p2_br (fun w5 k5 => p2_some (i_ext ?_)))
      rw [(gl h8).2.2, (gm k5).2.2, ix (c := 60) (by decide) (by decide) (by decide)]
      exact s6
    refine p2_dd (fun _ => ?_) (fun _ => p2_some rfl)
    · refine p2_bl (fun v8 h8 => p2_br (fun w5 k5 => p2_some (i_ext ?_)))
      rw [(gl h8).2.2, (gm k5).2.2, ix (c := 66) (by decide) (by decide) (by decide)]
      exact s7
  · exact p2_cl (fun c => absurd c (by decide)) (fun _ => p2_cr (fun c => absurd c (by decide)) (fun _ => p2_some rfl))
end H9fd
end Qz161
section Qz162
/-! task: the same answers -/
section H9fe
variable {n m : Nat} {P P' : Nat → Nat → Nat} {F F' : Nat → Nat → Int32} {A A' : Nat → Nat → Nat → Int32} {J : Nat → Nat → Nat → Int64} {Fm Fm' : Nat → Int32} {Am Am' : Nat → Nat → Int32} {Jm : Nat → Nat → Int64} {x1 x2 x3 : Int32}
/-- now, after the reference has taken it -/
theorem XR.take (X : XR P F A Fm Am) (cp : CPm 47 48 0 0 0 Am Am') : NHx (P 0 8) F A Fm Am' ∧ SBx True (P 0 8) 2 F A Am' 48 0 ∧ (F 2 7).toInt = ai Am' 48 78 ∧ (F 2 8).toInt = ai Am' 48 79 ∧ B7 (F 2 7) := by
  obtain ⟨N, -, Y, -, -⟩ := X
  have ct := N.ct
  have t47 : ∀ i, 0 ≤ i → i < 100 → ai Am' 48 i = ai Am 47 i := fun i i0 i1 => by
    have := cp.2.1 i i0 i1
    rw [Int.zero_add] at this
    exact this
  obtain ⟨s1, s2, s3, s4, s5, s6, s7⟩ := Y.1
  refine ⟨N.fr (fun _ => rfl) (fun _ _ => rfl) rfl (fun q _ _ => cp.1 q (by omega)), SBx.mk0 (fun k k0 k1 => ?_) (fun k k0 k1 => ?_) (fun k k0 k1 => ?_) (fun k k0 k1 => ?_), ?_, ?_, s7.1⟩
  · rw [t47 (6 + k) (by omega) (by omega)]
    exact s1 k k0 k1
  · rw [t47 k (by omega) (by omega)]
    exact s2 k k0 k1
  · rw [t47 (72 + k) (by omega) (by omega)]
    exact s3 k k0 k1
  · rw [t47 (42 + k) (by omega) (by omega), t47 (48 + k) (by omega) (by omega), t47 (54 + k) (by omega) (by omega), t47 (60 + k) (by omega) (by omega), t47 (66 + k) (by omega) (by omega)]
    have w := s4 k k0 k1
    exact ⟨w.1, w.2.1, w.2.2.1, fun _ => w.2.2.2⟩
  · rw [t47 78 (by decide) (by decide)]
    exact s5
  · rw [t47 79 (by decide) (by decide)]
    exact s6
theorem p2_task (X : XR P F A Fm Am) (S : SAm Fm Am) : P2 (e_SleepWork_task n P F A J x1 x2) (d_task m Fm Am Jm x1 x2) (fun a b => a = b.1) := by
  have ct := X.1.ct
  have hs := X.1.sd
  have ek : F (P 0 8) 16 = Am 19 (Fm 18).toInt.toNat := CX.tasks X.1.1
  unfold e_SleepWork_task d_task
  refine p2_r (v_dTask S) ?_
  intro w b
  rw [← ek] at b
  rcases b with ⟨rfl, p⟩ | ⟨rfl, p⟩
  · refine p2_cr (fun _ => ?_) (fun c => absurd c (by decide))
    refine p2_cl (fun c => ?_) (fun _ => ?_)
    · rw [i_lt, i_0] at c
      omega
    refine p2_bl (fun _ hk => ?_)
    obtain ⟨-, rfl⟩ := gg_chk hk
    refine p2_cl (fun _ => ?_) (fun c => ?_)
    · refine p2_r r_takes ?_
      rintro ⟨u, F4, A5, J6⟩ ⟨rfl, cp⟩
      dsimp only at cp ⊢
      obtain ⟨N, B, -, -, -⟩ := X.take cp
      refine p2_dd (fun _ => ?_) (fun _ => ?_)
      · refine p2_bl (fun _ hk => ?_)
        obtain ⟨-, rfl⟩ := gg_chk hk
        refine p2_bl (fun v6 h6 => p2_br (fun w6 k6 => p2_some (i_ext ?_)))
        show v6.toInt = w6.toInt
        rw [(gl h6).2.2, (gm k6).2.2, ix6 hs (by omega)]
        exact N.rm p.1 p.2
      refine p2_dd (fun _ => ?_) (fun _ => ?_)
      · refine p2_bl (fun _ hk => ?_)
        obtain ⟨-, rfl⟩ := gg_chk hk
        refine p2_bl (fun v6 h6 => p2_r (v_steps hs (by omega)) (fun w6 k6 => p2_some (i_ext ?_)))
        show v6.toInt = w6.toInt
        rw [(gl h6).2.2, k6]
        exact N.stp p.1 p.2
      refine p2_dd (fun _ => ?_) (fun _ => ?_)
      · refine p2_bl (fun v6 h6 => p2_br (fun w6 k6 => p2_some (i_ext ?_)))
        show v6.toInt = w6.toInt
        rw [(gl h6).2.2, (gm k6).2.2]
        exact (B.sf p.1 (by omega)).1
      refine p2_dd (fun _ => ?_) (fun _ => ?_)
      · refine p2_bl (fun _ hk => ?_)
        obtain ⟨-, rfl⟩ := gg_chk hk
        refine p2_call (p2_worth N (fun k k0 k1 => B.dn k0 k1) p.1 p.2 rfl rfl) ?_
        rintro v w e
        exact p2_some e
      refine p2_dd (fun _ => ?_) (fun _ => p2_some rfl)
      · refine p2_bl (fun _ hk => ?_)
        obtain ⟨-, rfl⟩ := gg_chk hk
        refine p2_call (p2_ended N B p.1 p.2 rfl rfl) ?_
        rintro v w ⟨rfl, -⟩
        cases g_cnd .eq v 0 with
        | true => exact p2_some rfl
        | false => exact p2_some rfl
    · rw [i_nlt] at c
      omega
  · refine p2_cr (fun c => absurd c (by decide)) (fun _ => ?_)
    refine p2_cl (fun _ => p2_some rfl) (fun c => ?_)
    rw [i_nlt, i_0] at c
    refine p2_bl (fun _ hk => ?_)
    obtain ⟨-, rfl⟩ := gg_chk hk
    refine p2_cl (fun c2 => ?_) (fun _ => p2_some rfl)
    rw [i_lt] at c2
    exact absurd ⟨c, c2⟩ p
end H9fe
end Qz162
section Qz163
/-! the ways at night: the class's are the reference's row 49 -/
section H9ff
variable {n m h : Nat} {F F' : Nat → Nat → Int32} {A A' : Nat → Nat → Nat → Int32} {Fm : Nat → Int32} {Am Am' : Nat → Nat → Int32} {Jm : Nat → Nat → Int64} {b : mR Unit}
theorem NHx.dr (H : NHx h F A Fm Am) : DRx (F h 13).toInt (F h 14).toInt h F A Fm Am := by
  have hy := H.hy.1
  have w := H.2.1.1
  have e : F h 14 = Am 12 (Fm 18).toInt.toNat := H.1.2.1
  refine ⟨rfl, by rw [← e], H.sd.1, H.sd.2, fun k k0 k1 => ?_⟩
  obtain ⟨a, b, c1, c2⟩ := hy k k0 k1
  have d := w k k0 k1
  exact ⟨a, b, ⟨by omega, by omega⟩, d.1, d.2.1, d.2.2⟩
theorem DRx.cgF {r nd : Int} (D : DRx r nd h F A Fm Am) (hF : ∀ k, F' h k = F h k) (hA : ∀ o, o ≠ 17 → A' h o = A h o) : DRx r nd h F' A' Fm Am := by
  unfold DRx
  rw [hF, ci_fr (hA 1 (by decide)), ci_fr (hA 2 (by decide)), ci_fr (hA 3 (by decide))]
  exact D
theorem WD_of (H : NHx h F A Fm Am) (hb : d_fillsWays m Fm Am Jm = some b) : WDx h F A (Am 48 78) (mx b.2.2.1) := by
  intro n n' P F1 A1 J f a r hr
  have ct := H.ct
  have n36 : h ≠ 36 := fun e => absurd H.kd (by rw [e]; decide)
  have D := H.dr.cgF f a
  have w := p2_ways (r := (F h 13).toInt) (by omega) (by omega) (by omega) n36 (by rw [f 13]) D rfl r b hr hb
  exact fun x y x0 x1 y0 y1 => w.2 x y x0 x1 y0 y1
end H9ff
end Qz163
section Qz164
/-! the reference's ways: what they leave as it was (printed by wip/frames.py with wip/nt/rules.f) -/
section H9fg
variable {Fr : Nat → Int32} {Ar : Nat → Nat → Int32}
def FW (Fr : Nat → Int32) (Ar : Nat → Nat → Int32) (F : Nat → Int32) (A : Nat → Nat → Int32) : Prop := F = Fr ∧ ∀ q, q ≠ 49 → A q = Ar q
theorem FW.rfl' {F : Nat → Int32} {A : Nat → Nat → Int32} : FW F A F A := ⟨rfl, fun _ _ => rfl⟩
theorem fw_st {γ : Type} {j n : Nat} {i x : Int32} {F : Nat → Int32} {A : Nat → Nat → Int32} {g : (Nat → Nat → Int32) → Option γ} {Q : γ → Prop} (h : FW Fr Ar F A) (hj : j = 49) (kk : ∀ A', FW Fr Ar F A' → po (g A') Q) : po ((m_st A j n i x).bind g) Q :=
  po_bl (fun A' e => kk A' ⟨h.1, fun q hq => ((gg_st e).2.2.1 q (by omega)).trans (h.2 q hq)⟩)
theorem fw_d_fillsWays_263 {K170 : (Nat → Int32) → (Nat → Nat → Int32) → (Nat → Nat → Int64) → Int32 → Option (Unit × (Nat → Int32) × (Nat → Nat → Int32) × (Nat → Nat → Int64))} {K178 : (Nat → Int32) → (Nat → Nat → Int32) → (Nat → Nat → Int64) → Int32 → Int32 → Option (Unit × (Nat → Int32) × (Nat → Nat → Int32) × (Nat → Nat → Int64))} {K186 : (Nat → Int32) → (Nat → Nat → Int32) → (Nat → Nat → Int64) → Int32 → Int32 → Int32 → Option (Unit × (Nat → Int32) × (Nat → Nat → Int32) × (Nat → Nat → Int64))} {n : Nat} {F : Nat → Int32} {A : Nat → Nat → Int32} {J : Nat → Nat → Int64} {x1 : Int32} {x2 : Int32} {x3 : Int32} (hK170 : ∀ (a0 : Nat → Int32) (a1 : Nat → Nat → Int32) (a2 : Nat → Nat → Int64) (a3 : Int32), FW Fr Ar a0 a1 → po (K170 a0 a1 a2 a3) (fun r => FW Fr Ar r.2.1 r.2.2.1)) (hK178 : ∀ (a0 : Nat → Int32) (a1 : Nat → Nat → Int32) (a2 : Nat → Nat → Int64) (a3 : Int32) (a4 : Int32), FW Fr Ar a0 a1 → po (K178 a0 a1 a2 a3 a4) (fun r => FW Fr Ar r.2.1 r.2.2.1)) (hK186 : ∀ (a0 : Nat → Int32) (a1 : Nat → Nat → Int32) (a2 : Nat → Nat → Int64) (a3 : Int32) (a4 : Int32) (a5 : Int32), FW Fr Ar a0 a1 → po (K186 a0 a1 a2 a3 a4 a5) (fun r => FW Fr Ar r.2.1 r.2.2.1)) (h : FW Fr Ar F A) : po (d_fillsWays_263 K170 K178 K186 n F A J x1 x2 x3) (fun r => FW Fr Ar r.2.1 r.2.2.1) := by
  unfold d_fillsWays_263
  repeat' (first
    | with_reducible exact po_some (by assumption)
    | (with_reducible refine fw_st (by assumption) (by decide) ?_; intro _ _)
    | with_reducible exact hK170 _ _ _ _ (by assumption)
    | (intros; with_reducible exact hK170 _ _ _ _ (by assumption))
    | with_reducible exact hK178 _ _ _ _ _ (by assumption)
    | (intros; with_reducible exact hK178 _ _ _ _ _ (by assumption))
    | with_reducible exact hK186 _ _ _ _ _ _ (by assumption)
    | (intros; with_reducible exact hK186 _ _ _ _ _ _ (by assumption))
    | with_reducible refine po_cond (fun _ => ?_) (fun _ => ?_)
    | with_reducible refine po_bind_cond (fun _ => ?_) (fun _ => ?_)
    | with_reducible refine po_bl (fun _ _ => ?_))
theorem fw_d_fillsWays_186 {K170 : (Nat → Int32) → (Nat → Nat → Int32) → (Nat → Nat → Int64) → Int32 → Option (Unit × (Nat → Int32) × (Nat → Nat → Int32) × (Nat → Nat → Int64))} {K178 : (Nat → Int32) → (Nat → Nat → Int32) → (Nat → Nat → Int64) → Int32 → Int32 → Option (Unit × (Nat → Int32) × (Nat → Nat → Int32) × (Nat → Nat → Int64))} (hK170 : ∀ (a0 : Nat → Int32) (a1 : Nat → Nat → Int32) (a2 : Nat → Nat → Int64) (a3 : Int32), FW Fr Ar a0 a1 → po (K170 a0 a1 a2 a3) (fun r => FW Fr Ar r.2.1 r.2.2.1)) (hK178 : ∀ (a0 : Nat → Int32) (a1 : Nat → Nat → Int32) (a2 : Nat → Nat → Int64) (a3 : Int32) (a4 : Int32), FW Fr Ar a0 a1 → po (K178 a0 a1 a2 a3 a4) (fun r => FW Fr Ar r.2.1 r.2.2.1)) : ∀ {n : Nat} {F : Nat → Int32} {A : Nat → Nat → Int32} {J : Nat → Nat → Int64} {x1 : Int32} {x2 : Int32} {x3 : Int32}, FW Fr Ar F A → po (d_fillsWays_186 K170 K178 n F A J x1 x2 x3) (fun r => FW Fr Ar r.2.1 r.2.2.1) := by
  intro n
  induction n with
  | zero => intro F A J x1 x2 x3 _ r hr; cases hr
  | succ n ih =>
    intro F A J x1 x2 x3 h
    unfold d_fillsWays_186
    repeat' (first
      | with_reducible exact po_some (by assumption)
      | (with_reducible refine fw_st (by assumption) (by decide) ?_; intro _ _)
      | with_reducible refine fw_d_fillsWays_263 ?_ ?_ ?_ (by assumption)
      | (with_reducible refine po_call (fw_d_fillsWays_263 ?_ ?_ ?_ (by assumption)) ?_)
      | with_reducible exact hK170 _ _ _ _ (by assumption)
      | (intros; with_reducible exact hK170 _ _ _ _ (by assumption))
      | with_reducible exact hK178 _ _ _ _ _ (by assumption)
      | (intros; with_reducible exact hK178 _ _ _ _ _ (by assumption))
      | with_reducible exact ih (by assumption)
      | (with_reducible refine po_call (ih (by assumption)) ?_; rintro ⟨_, _, _, _⟩ _; try dsimp only)
      | (intros; with_reducible exact ih (by assumption))
      | with_reducible refine po_cond (fun _ => ?_) (fun _ => ?_)
      | with_reducible refine po_bind_cond (fun _ => ?_) (fun _ => ?_)
      | with_reducible refine po_bl (fun _ _ => ?_))
theorem fw_d_fillsWays_178 {K170 : (Nat → Int32) → (Nat → Nat → Int32) → (Nat → Nat → Int64) → Int32 → Option (Unit × (Nat → Int32) × (Nat → Nat → Int32) × (Nat → Nat → Int64))} (hK170 : ∀ (a0 : Nat → Int32) (a1 : Nat → Nat → Int32) (a2 : Nat → Nat → Int64) (a3 : Int32), FW Fr Ar a0 a1 → po (K170 a0 a1 a2 a3) (fun r => FW Fr Ar r.2.1 r.2.2.1)) : ∀ {n : Nat} {F : Nat → Int32} {A : Nat → Nat → Int32} {J : Nat → Nat → Int64} {x1 : Int32} {x2 : Int32}, FW Fr Ar F A → po (d_fillsWays_178 K170 n F A J x1 x2) (fun r => FW Fr Ar r.2.1 r.2.2.1) := by
  intro n
  induction n with
  | zero => intro F A J x1 x2 _ r hr; cases hr
  | succ n ih =>
    intro F A J x1 x2 h
    unfold d_fillsWays_178
    repeat' (first
      | with_reducible exact po_some (by assumption)
      | (with_reducible refine fw_st (by assumption) (by decide) ?_; intro _ _)
      | with_reducible refine fw_d_fillsWays_186 ?_ ?_ (by assumption)
      | (with_reducible refine po_call (fw_d_fillsWays_186 ?_ ?_ (by assumption)) ?_)
      | with_reducible exact hK170 _ _ _ _ (by assumption)
      | (intros; with_reducible exact hK170 _ _ _ _ (by assumption))
      | with_reducible exact ih (by assumption)
      | (with_reducible refine po_call (ih (by assumption)) ?_; rintro ⟨_, _, _, _⟩ _; try dsimp only)
      | (intros; with_reducible exact ih (by assumption))
      | with_reducible refine po_cond (fun _ => ?_) (fun _ => ?_)
      | with_reducible refine po_bind_cond (fun _ => ?_) (fun _ => ?_)
      | with_reducible refine po_bl (fun _ _ => ?_))
theorem fw_d_fillsWays_170   : ∀ {n : Nat} {F : Nat → Int32} {A : Nat → Nat → Int32} {J : Nat → Nat → Int64} {x1 : Int32}, FW Fr Ar F A → po (d_fillsWays_170  n F A J x1) (fun r => FW Fr Ar r.2.1 r.2.2.1) := by
  intro n
  induction n with
  | zero => intro F A J x1 _ r hr; cases hr
  | succ n ih =>
    intro F A J x1 h
    unfold d_fillsWays_170
    repeat' (first
      | with_reducible exact po_some (by assumption)
      | (with_reducible refine fw_st (by assumption) (by decide) ?_; intro _ _)
      | with_reducible refine fw_d_fillsWays_178 ?_ (by assumption)
      | (with_reducible refine po_call (fw_d_fillsWays_178 ?_ (by assumption)) ?_)
      | with_reducible exact ih (by assumption)
      | (with_reducible refine po_call (ih (by assumption)) ?_; rintro ⟨_, _, _, _⟩ _; try dsimp only)
      | (intros; with_reducible exact ih (by assumption))
      | with_reducible refine po_cond (fun _ => ?_) (fun _ => ?_)
      | with_reducible refine po_bind_cond (fun _ => ?_) (fun _ => ?_)
      | with_reducible refine po_bl (fun _ _ => ?_))
theorem fw_d_fillsWays_162 {K40 : (Nat → Int32) → (Nat → Nat → Int32) → (Nat → Nat → Int64) → Int32 → Option (Unit × (Nat → Int32) × (Nat → Nat → Int32) × (Nat → Nat → Int64))} {n : Nat} {F : Nat → Int32} {A : Nat → Nat → Int32} {J : Nat → Nat → Int64} {x1 : Int32} (hK40 : ∀ (a0 : Nat → Int32) (a1 : Nat → Nat → Int32) (a2 : Nat → Nat → Int64) (a3 : Int32), FW Fr Ar a0 a1 → po (K40 a0 a1 a2 a3) (fun r => FW Fr Ar r.2.1 r.2.2.1)) (h : FW Fr Ar F A) : po (d_fillsWays_162 K40 n F A J x1) (fun r => FW Fr Ar r.2.1 r.2.2.1) := by
  unfold d_fillsWays_162
  repeat' (first
    | with_reducible exact po_some (by assumption)
    | (with_reducible refine fw_st (by assumption) (by decide) ?_; intro _ _)
    | with_reducible exact hK40 _ _ _ _ (by assumption)
    | (intros; with_reducible exact hK40 _ _ _ _ (by assumption))
    | with_reducible refine po_cond (fun _ => ?_) (fun _ => ?_)
    | with_reducible refine po_bind_cond (fun _ => ?_) (fun _ => ?_)
    | with_reducible refine po_bl (fun _ _ => ?_))
theorem fw_d_fillsWays_40   : ∀ {n : Nat} {F : Nat → Int32} {A : Nat → Nat → Int32} {J : Nat → Nat → Int64} {x1 : Int32}, FW Fr Ar F A → po (d_fillsWays_40  n F A J x1) (fun r => FW Fr Ar r.2.1 r.2.2.1) := by
  intro n
  induction n with
  | zero => intro F A J x1 _ r hr; cases hr
  | succ n ih =>
    intro F A J x1 h
    unfold d_fillsWays_40
    repeat' (first
      | with_reducible exact po_some (by assumption)
      | (with_reducible refine fw_st (by assumption) (by decide) ?_; intro _ _)
      | with_reducible exact fw_d_fillsWays_170 (by assumption)
      | (with_reducible refine po_call (fw_d_fillsWays_170 (by assumption)) ?_; rintro ⟨_, _, _, _⟩ _; try dsimp only)
      | with_reducible refine fw_d_fillsWays_162 ?_ (by assumption)
      | (with_reducible refine po_call (fw_d_fillsWays_162 ?_ (by assumption)) ?_)
      | with_reducible exact ih (by assumption)
      | (with_reducible refine po_call (ih (by assumption)) ?_; rintro ⟨_, _, _, _⟩ _; try dsimp only)
      | (intros; with_reducible exact ih (by assumption))
      | with_reducible refine po_cond (fun _ => ?_) (fun _ => ?_)
      | with_reducible refine po_bind_cond (fun _ => ?_) (fun _ => ?_)
      | with_reducible refine po_bl (fun _ _ => ?_))
theorem fw_d_fillsWays_31 {K2 : (Nat → Int32) → (Nat → Nat → Int32) → (Nat → Nat → Int64) → Int32 → Option (Unit × (Nat → Int32) × (Nat → Nat → Int32) × (Nat → Nat → Int64))} {n : Nat} {F : Nat → Int32} {A : Nat → Nat → Int32} {J : Nat → Nat → Int64} {x1 : Int32} {s1 : Int32} {s2 : Int32} (hK2 : ∀ (a0 : Nat → Int32) (a1 : Nat → Nat → Int32) (a2 : Nat → Nat → Int64) (a3 : Int32), FW Fr Ar a0 a1 → po (K2 a0 a1 a2 a3) (fun r => FW Fr Ar r.2.1 r.2.2.1)) (h : FW Fr Ar F A) : po (d_fillsWays_31 K2 n F A J x1 s1 s2) (fun r => FW Fr Ar r.2.1 r.2.2.1) := by
  unfold d_fillsWays_31
  repeat' (first
    | with_reducible exact po_some (by assumption)
    | (with_reducible refine fw_st (by assumption) (by decide) ?_; intro _ _)
    | with_reducible exact hK2 _ _ _ _ (by assumption)
    | (intros; with_reducible exact hK2 _ _ _ _ (by assumption))
    | with_reducible refine po_cond (fun _ => ?_) (fun _ => ?_)
    | with_reducible refine po_bind_cond (fun _ => ?_) (fun _ => ?_)
    | with_reducible refine po_bl (fun _ _ => ?_))
theorem fw_d_fillsWays_2   : ∀ {n : Nat} {F : Nat → Int32} {A : Nat → Nat → Int32} {J : Nat → Nat → Int64} {x1 : Int32}, FW Fr Ar F A → po (d_fillsWays_2  n F A J x1) (fun r => FW Fr Ar r.2.1 r.2.2.1) := by
  intro n
  induction n with
  | zero => intro F A J x1 _ r hr; cases hr
  | succ n ih =>
    intro F A J x1 h
    unfold d_fillsWays_2
    repeat' (first
      | with_reducible exact po_some (by assumption)
      | (with_reducible refine fw_st (by assumption) (by decide) ?_; intro _ _)
      | with_reducible exact fw_d_fillsWays_40 (by assumption)
      | (with_reducible refine po_call (fw_d_fillsWays_40 (by assumption)) ?_; rintro ⟨_, _, _, _⟩ _; try dsimp only)
      | with_reducible refine fw_d_fillsWays_31 ?_ (by assumption)
      | (with_reducible refine po_call (fw_d_fillsWays_31 ?_ (by assumption)) ?_)
      | with_reducible exact ih (by assumption)
      | (with_reducible refine po_call (ih (by assumption)) ?_; rintro ⟨_, _, _, _⟩ _; try dsimp only)
      | (intros; with_reducible exact ih (by assumption))
      | with_reducible refine po_cond (fun _ => ?_) (fun _ => ?_)
      | with_reducible refine po_bind_cond (fun _ => ?_) (fun _ => ?_)
      | with_reducible refine po_bl (fun _ _ => ?_))
theorem fw_d_fillsWays {n : Nat} {F : Nat → Int32} {A : Nat → Nat → Int32} {J : Nat → Nat → Int64}  (h : FW Fr Ar F A) : po (d_fillsWays n F A J) (fun r => FW Fr Ar r.2.1 r.2.2.1) := by
  unfold d_fillsWays
  repeat' (first
    | with_reducible exact po_some (by assumption)
    | (with_reducible refine fw_st (by assumption) (by decide) ?_; intro _ _)
    | with_reducible exact fw_d_fillsWays_2 (by assumption)
    | (with_reducible refine po_call (fw_d_fillsWays_2 (by assumption)) ?_; rintro ⟨_, _, _, _⟩ _; try dsimp only)
    | with_reducible refine po_cond (fun _ => ?_) (fun _ => ?_)
    | with_reducible refine po_bind_cond (fun _ => ?_) (fun _ => ?_)
    | with_reducible refine po_bl (fun _ _ => ?_))
end H9fg
end Qz164
section Qz165
/-! a whole night on both sides, and the call night -/
section H9fh
variable {n m : Nat} {h q : Nat} {N : Int} {ex : Prop} {P P' : Nat → Nat → Nat} {F F' : Nat → Nat → Int32} {A A' : Nat → Nat → Nat → Int32} {J : Nat → Nat → Nat → Int64} {Fm Fm' : Nat → Int32} {Am Am' : Nat → Nat → Int32} {Jm : Nat → Nat → Int64} {x1 : Int32}
theorem w_run {sh : Int32} (hk : c_kind h = 6) (R : Rc F A) (H : HVc F A h) : ok (wrun 80 80 P F A J h sh) (fun _ => True) := by
  have l0 : (0 : Int32).toInt = 0 := by decide
  have rd : 0 ≤ (F h 13).toInt ∧ (F h 13).toInt ≤ 8 := by have := R.1 h 13; rw [hk] at this; exact this
  unfold wrun
  refine ok_call (s_takeDoors hk R H (by decide)) ?_
  rintro ⟨u, P2, F2, A2, J2⟩ ⟨e1, e2, w⟩
  dsimp only at e1 e2 w ⊢
  subst e1
  subst e2
  unfold e_Ways_joinWays
  exact ok_mono (s_join_2 (A0 := A2) rd.2 (fun _ _ _ => rfl) (by decide) (by omega)) (fun _ _ => trivial)
/-- the reference's ways are in their ranges -/
theorem WIx_of (H : NHx h F A Fm Am) (R : Rc F A) (V : HVc F A h) : po (d_fillsWays m Fm Am Jm) (fun b => WIx (F h 13).toInt b.2.2.1) := by
  intro b hb
  have ct := H.ct
  have n36 : h ≠ 36 := k6ne H.kd
  obtain ⟨r, hr, -⟩ := w_run (P := fun _ _ => 0) (J := fun _ _ _ => 0) (sh := Am 48 78) H.kd R V
  exact (p2_ways (r := (F h 13).toInt) (by omega) (by omega) (by omega) n36 rfl H.dr rfl r b hr hb).1
theorem AR_of (H : NHx h F A Fm Am) (S : SBx ex h q F A Am 48 0) (I : WIx (F h 13).toInt Am) : ARx True h N F A Am (mx Am) := by
  intro m m0 m1 t0
  have ct := H.ct
  have y12 := H.hy.2.2.2.1 m m0 m1
  have L := (S.mn m0 m1).1
  have tk : ai Am 48 (42 + m) < (F h 16).toInt := by
    rcases L with ⟨-, b, -⟩ | ⟨-, b, -⟩
    · omega
    · exact b
  have y4 := H.hy.2.1 _ t0 tk
  have i := (I (ci A h 12 m) (ci A h 4 (ai Am 48 (42 + m))) y12.1 (by omega) y4.1 (by omega)).1
  exact ⟨i, i, .inl rfl⟩
/-- the ways are the same on both sides, if the same doors are shut -/
theorem AR_exact {b : mR Unit} (H : NHx h F A Fm Am) (R : Rc F A) (V : HVc F A h) (S : SBx ex h q F A Am 48 0) (e7 : (F q 7).toInt = ai Am 48 78) (hb : d_fillsWays m Fm Am Jm = some b) : ∃ D, WDx h F A (F q 7) D ∧ ARx True h N F A b.2.2.1 D := by
  obtain ⟨f, a⟩ := fw_d_fillsWays FW.rfl' b hb
  refine ⟨mx b.2.2.1, ?_, ?_⟩
  · have e : F q 7 = Am 48 78 := i_ext e7
    rw [e]
    exact WD_of H hb
  · exact AR_of (Fm := Fm) (H.fr (fun _ => rfl) (fun _ _ => rfl) rfl (fun j _ _ => a j (by omega))) (S.cg rfl rfl rfl (fun _ _ _ => rfl) (a 48 (by decide))) (WIx_of H R V b hb)
/-- what both have behind a whole night -/
def NTx (ex : Prop) (h q : Nat) (Fm : Nat → Int32) (Am : Nat → Nat → Int32) (a : cR Unit) (b : mR Int32) : Prop := (∃ (m0 m1 : Nat) (J0 J1 : Nat → Nat → Int64) (v0 v1 : Int32), d_worthNow m0 Fm Am J0 = some v0 ∧ d_worthNow m1 b.2.1 b.2.2.1 J1 = some v1 ∧ b.1 = v1 - v0) ∧ NHx h a.2.2.1 a.2.2.2.1 b.2.1 b.2.2.1 ∧ SBx ex h q a.2.2.1 a.2.2.2.1 b.2.2.1 48 0 ∧ WCx h a.2.2.1 a.2.2.2.1 ∧ (ex → (a.2.2.1 q 7).toInt = ai b.2.2.1 48 78 ∧ (a.2.2.1 q 8 + 1).toInt = ai b.2.2.1 48 79)
theorem p2_wn (H : NHx h F A Fm Am) (hq : c_kind q = 2) (S : SBx ex h q F A Am 48 0) (W : WCx h F A) (SH : SHx ex q F Am) (hsh : F q 7 ≠ -1) (AR : ∀ (m : Nat) (b : mR Unit), d_fillsWays m Fm Am Jm = some b → ∃ D, WDx h F A (F q 7) D ∧ ARx ex h (F h 18).toInt F A b.2.2.1 D) (ex1 : x1.toInt = (F h 18).toInt) : P2 (e_Sleep_goTill n P F A J x1 h q) (d_wholeNight m Fm Am Jm) (NTx ex h q Fm Am) := by
  intro a b ha hb
  have y18 := H.hy.2.2.2.2
  have nn := H.nn
  unfold d_wholeNight at hb
  obtain ⟨v1, h1, hb⟩ := Option.bind_eq_some_iff.mp hb
  obtain ⟨v2, h2, hb⟩ := Option.bind_eq_some_iff.mp hb
  obtain ⟨b', hb', hb⟩ := Option.bind_eq_some_iff.mp hb
  unfold d_goesTill at hb'
  obtain ⟨⟨u, F3, A3, J3⟩, hf, h6⟩ := Option.bind_eq_some_iff.mp hb'
  obtain ⟨f3, a3⟩ := fw_d_fillsWays FW.rfl' _ hf
  obtain ⟨D, WD, ar⟩ := AR _ _ hf
  have g2 := (gm h2).2.2
  dsimp only at f3 a3 ar h6
  obtain rfl : Fm = F3 := f3.symm
  have H3 : NHx h F A Fm A3 := H.fr (fun _ => rfl) (fun _ _ => rfl) rfl (fun j _ _ => a3 j (by omega))
  have S3 : SBx ex h q F A A3 48 0 := S.cg rfl rfl rfl (fun _ _ _ => rfl) (a3 48 (by decide))
  have SH3 : SHx ex q F A3 := SH.cg rfl rfl (by rw [ai_fr (a3 48 (by decide))]) (by rw [ai_fr (a3 48 (by decide))])
  obtain ⟨P', F', hF', Q⟩ := p2_goTill (E := (F h 18).toInt) (N := (F h 18).toInt) H3 hq S3 W SH3 WD hsh ar (Int.le_refl _) y18.2 rfl ex1 (g2.trans nn.symm) a b' ha h6
  obtain ⟨⟨q1, q2⟩, q5, q6⟩ := Q
  obtain ⟨HN, WC, WE⟩ := q6 rfl
  obtain ⟨ub, Fb, Ab, Jb⟩ := b'
  obtain ⟨ua, Pa, Fa, Aa, Ja⟩ := a
  dsimp only at q1 q2 q5 HN WC WE hb
  obtain rfl : Fa = F' := q2
  obtain ⟨w1, w2, w3, w4, w5⟩ := WE
  refine p2_wn20 (ex := ex) (h := h) (q := q) (z := some (ua, Pa, Fa, Aa, Ja)) (Q := NTx ex h q Fm Am) (Am := Ab) (s78 := ai Ab 48 78) (s79 := ai Ab 48 79) (fun {m2 Am2} N2 S2 o2 e78 e79 => ?_) HN ⟨w2, w3, w4, fun k k0 k1 => ⟨fun k2 => absurd k2 (by rw [i_0]; omega), fun _ => ?_⟩⟩ (fun _ _ => rfl) rfl rfl (by decide) _ _ rfl hb
  · refine p2_br (fun v11 h11 => p2_some ⟨⟨_, _, _, _, _, _, h1, h11, rfl⟩, N2, S2, WC, fun hx => ?_⟩)
    obtain ⟨z, z1, z2⟩ := e79
    have w := w1 hx
    have ez : z = Fa q 8 := i_ext (z1.trans w.2.symm)
    refine ⟨w.1.trans e78.symm, ?_⟩
    show (Fa q 8 + 1).toInt = ai Am2 48 79
    rw [z2, ez]
  · obtain ⟨a1, a2, a4⟩ := w5 k k0 k1
    exact ⟨q5 k k0 k1, a1, a2, a4⟩
/-- the evening of now has gone on; what is kept stays -/
theorem XR.gone (X : XR P F A Fm Am) (G : Gc P F A) (e8 : P' 0 8 = P 0 8) (hF : ∀ r k, r ≠ 2 → ¬ (r = 36 ∧ k = 101) → ¬ (r = 32 ∧ k = 6) → F' r k = F r k) (hA : ∀ r o, r ≠ 2 → r ≠ 36 → (r = P 0 8 → o ≠ 17) → A' r o = A r o) (W' : WCx (P 0 8) F' A') (e : ∀ k, k ≠ 63 → k ≠ 76 → Fm' k = Fm k) (hm : ∀ q, q < 45 ∨ 57 ≤ q → Am' q = Am q) (S : SS (P 0 8) F A (F' 2) (A' 2) (fun i => ai Am' 47 i)) : XR P' F' A' Fm' Am' := by
  obtain ⟨N, C, Y, W, T⟩ := X
  have n2 : P 0 8 ≠ 2 := G.n2
  have n32 : P 0 8 ≠ 32 := fun e => absurd G.k08 (by rw [e]; decide)
  have n36 : P 0 8 ≠ 36 := k6ne G.k08
  have n25 : P 0 8 ≠ 25 := fun e => absurd G.k08 (by rw [e]; decide)
  have lv := G.live
  have hF8 : ∀ k, F' (P 0 8) k = F (P 0 8) k := fun k => hF _ k n2 (fun e => n36 e.1) (fun e => n32 e.1)
  have hA8 : ∀ o, o ≠ 17 → A' (P 0 8) o = A (P 0 8) o := fun o ho => hA _ o n2 n36 (fun _ => ho)
  have hS : SOK (SS (P 0 8) F A) := SS.ok N.ct.2.2.2.2.2
  have sr : ∀ r : Nat, r ≠ 2 → r ≠ 32 → r ≠ 36 → r ≠ P 0 8 → SE (F r) (F' r) (A r) (A' r) := fun r h1 h2 h3 h4 => .of (fun k => hF r k h1 (fun e => h3 e.1) (fun e => h2 e.1)) (fun o => hA r o h1 h3 (fun e => absurd e h4))
  have Y' : YS (SS (P 0 8) F A) F' A' Fm' Am' := by
    refine ⟨S, ?_, Y.2.2.cg hS (fun r r0 r1 => sr r (by omega) (by omega) (by omega) (by omega)) (hm 61 (by decide)) (hm 62 (by decide))⟩
    rw [e 74 (by decide) (by decide)]
    exact Y.2.1.cg hS (by rw [hF 4 1 (by decide) (by decide) (by decide)]) (fun r r0 r1 => sr r (by omega) (by omega) (by omega) (by omega)) (hm 57 (by decide))
  have T' : TLx F' A' Am' := by
    intro i i0 i1
    rw [hF 25 2 (by decide) (by decide) (by decide)] at i1
    rw [ci_fr (hA 25 1 (by decide) (by decide) (fun e => absurd e.symm n25)), ci_fr (hA 25 2 (by decide) (by decide) (fun e => absurd e.symm n25)), ai_fr (hm 58 (by decide)), ai_fr (hm 59 (by decide)), ai_fr (hm 60 (by decide))]
    exact T i i0 i1
  have C' : SCx F' Fm' Am' := ⟨by rw [hF 25 2 (by decide) (by decide) (by decide), e 77 (by decide) (by decide)]; exact C.1, by rw [hF 4 2 (by decide) (by decide) (by decide), e 74 (by decide) (by decide)]; exact C.2.1, fun s hs => by rw [hF 0 10 (by decide) (by decide) (by decide), hm 61 (by decide)]; exact C.2.2 s hs⟩
  unfold XR
  rw [e8]
  exact ⟨N.fr hF8 hA8 (e 18 (by decide) (by decide)) (fun q a b => hm q (by omega)), C', Y'.map (fun f a g s => s.hs (hF8 17) (hF8 16) (hA8 5 (by decide))), W', T'⟩
/-- the evening of now is kept, too -/
theorem XR.push {d : Int} {z : cR Unit} (X : XR P F A Fm Am) (G : Gc P F A) (hd : d = 0 ∨ d = 1) (pu : PUv d P F A z) (e7 : (Fm' 74).toInt = (Fm 74).toInt + 1 - d) (f7 : ∀ q, q ≠ 74 → Fm' q = Fm q) (hs : HSm d (Fm 74).toInt Am Am') : XR z.2.1 z.2.2.1 z.2.2.2.1 Fm' Am' := by
  obtain ⟨N, C, Y, W, T⟩ := X
  have hS : SOK (SS (P 0 8) F A) := SS.ok N.ct.2.2.2.2.2
  have yp := YS.push hS Y C.2.1 hd pu hs
  obtain ⟨p1, p2, p3, p4, -, -⟩ := pu
  have lv := G.live
  have hm : ∀ q, q ≠ 57 → Am' q = Am q := hs.1
  have hF8 : ∀ k, z.2.2.1 (P 0 8) k = F (P 0 8) k := fun k => p2 _ k (by omega) (by omega)
  have hA8 : ∀ o, z.2.2.2.1 (P 0 8) o = A (P 0 8) o := fun o => p3 _ o (by omega)
  have Y' : YS (SS (P 0 8) F A) z.2.2.1 z.2.2.2.1 Fm' Am' := ⟨yp.1, by rw [e7]; exact yp.2.1, yp.2.2⟩
  have C' : SCx z.2.2.1 Fm' Am' := ⟨by rw [p2 25 2 (by decide) (by decide), f7 77 (by decide)]; exact C.1, i_ext (by rw [p4, e7, C.2.1]), fun s hs' => by rw [p2 0 10 (by decide) (by decide), hm 61 (by decide)]; exact C.2.2 s hs'⟩
  have T' : TLx z.2.2.1 z.2.2.2.1 Am' := by
    intro i i0 i1
    rw [p2 25 2 (by decide) (by decide)] at i1
    rw [ci_fr (p3 25 1 (by decide)), ci_fr (p3 25 2 (by decide)), ai_fr (hm 58 (by decide)), ai_fr (hm 59 (by decide)), ai_fr (hm 60 (by decide))]
    exact T i i0 i1
  unfold XR
  rw [p1]
  exact ⟨N.fr hF8 (fun o _ => hA8 o) (f7 18 (by decide)) (fun q a b => hm q (by omega)), C', Y'.map (fun f a g s => s.hs (hF8 17) (hF8 16) (hA8 5)), W.cg hF8 (fun o _ => hA8 o) (p2 36 101 (by decide) (by decide)) (p3 36 2 (by decide)), T'⟩
theorem v_goBy : po (e_Evening_goBy n P F A J) (fun r => ∃ g : cR Unit, e_Sleep_goTill n P F A J (F (P 32 4) 18) (P 32 4) 2 = some g ∧ r.2.1 = g.2.1 ∧ (∀ q k, ¬ (q = 2 ∧ k = 8) → ¬ (q = 32 ∧ k = 6) → r.2.2.1 q k = g.2.2.1 q k) ∧ r.2.2.1 2 8 = g.2.2.1 2 8 + 1 ∧ r.2.2.2.1 = g.2.2.2.1) := by
  unfold e_Evening_goBy
  refine po_bl (fun _ c1 => ?_)
  obtain rfl := (gg_chk c1).2.symm
  refine po_bl (fun _ c2 => ?_)
  obtain rfl := (gg_chk c2).2.symm
  refine po_bl (fun g hg => ?_)
  obtain ⟨u, P4, F5, A6, J7⟩ := g
  dsimp only
  refine po_bl (fun F8 h8 => ?_)
  have U8 := gg_cpf h8
  refine po_call w_stale ?_
  rintro ⟨u9, P9, F9, A9, J9⟩ ⟨w1, w2, w3⟩
  dsimp only at w1 w2 w3 ⊢
  exact po_some ⟨_, hg, w1, fun q k a b => (w2.2 q k b).trans (U8.2 q k a), (w2.2 2 8 (by decide)).trans U8.1, w3⟩
/-- a night, the evening ahead of it being kept -/
theorem p2_nrest (X : XR P F A Fm Am) (G : Gc P F A) (hn : 1500 ≤ n) : P2 ((c_chk 6 (P 0 8)).bind fun q6 => (e_House_worthOfAll n P F A J q6 2).bind fun v7 => (e_Evening_goBy n P F A J).bind fun (_, P9, F10, A11, J12) => (c_chk 6 (P9 0 8)).bind fun q13 => (e_House_worthOfAll n P9 F10 A11 J12 q13 2).bind fun v14 => some (v14 - v7, P9, F10, A11, J12)) (nrest2 m Fm Am Jm) (fun a b => a.1 = b.1 ∧ XR a.2.1 a.2.2.1 a.2.2.2.1 b.2.1 b.2.2.1) := by
  refine p2_bl (fun _ c6 => ?_)
  obtain rfl := (gg_chk c6).2.symm
  refine p2_bl (fun v7 h7 => ?_)
  intro a b ha hb
  obtain ⟨r, hr, ha⟩ := Option.bind_eq_some_iff.mp ha
  obtain ⟨g, hg, p1, p2, p3, p4⟩ := v_goBy r hr
  unfold nrest2 at hb
  obtain ⟨⟨u, F9, A10, J11⟩, ht, hb⟩ := Option.bind_eq_some_iff.mp hb
  obtain ⟨t1, cp⟩ := r_takes _ ht
  dsimp only at t1 cp hb
  obtain rfl : Fm = F9 := t1.symm
  obtain ⟨⟨v12, F13, A14, J15⟩, hw, hb⟩ := Option.bind_eq_some_iff.mp hb
  dsimp only at hb
  obtain ⟨N, B, s7, s8, s0⟩ := X.take cp
  rw [G.2.2.1] at hg
  obtain ⟨o1, -, m2, m3, m4, m5⟩ := (s_goTill G.k08 (by decide) G.1 G.2.2.2.1 G.2.2.2.2.1 G.2.2.2.1.2.2.2.2.2.2 (by omega)).po g hg
  have hsh : F 2 7 ≠ -1 := fun e => by rw [e] at s0; exact b7_m1 s0
  obtain ⟨⟨m0, m1, J0, J1, v0, v1, hv0, hv1, eb⟩, N2, B2, W2, D2⟩ := p2_wn (ex := True) N (by decide : c_kind 2 = 2) B X.2.2.2.1 (fun _ => ⟨s7, s8⟩) hsh (fun m' b' hb' => AR_exact N G.1 G.2.2.2.1 B s7 hb') rfl g _ hg hw
  dsimp only at hv1 eb N2 B2 D2
  have kt := kt_d_wholeNight KT.rfl' _ hw
  obtain ⟨k1, k2⟩ := kt
  dsimp only at k1 k2
  have e0 : v7 = v0 := p2_worthAll N (fun k k0 k1 => B.dn k0 k1) v7 v0 h7 hv0
  obtain ⟨u9, P9, F10, A11, J12⟩ := r
  dsimp only at p1 p2 p3 p4 ha
  have e98 : P9 0 8 = P 0 8 := by rw [p1]; exact o1 0 8 (by decide)
  have n2 : P 0 8 ≠ 2 := G.n2
  have n32 : P 0 8 ≠ 32 := fun e => absurd G.k08 (by rw [e]; decide)
  have f8 : ∀ k, F10 (P 0 8) k = g.2.2.1 (P 0 8) k := fun k => p2 _ k (fun e => n2 e.1) (fun e => n32 e.1)
  have N3 : NHx (P 0 8) F10 A11 F13 A14 := N2.fr f8 (fun o _ => by rw [p4]) rfl (fun _ _ _ => rfl)
  have B3 : SBx True (P 0 8) 2 F10 A11 A14 48 0 := B2.cg (f8 17) (f8 16) (by rw [p4]) (fun o _ _ => by rw [p4]) rfl
  obtain ⟨q13, c13, ha⟩ := Option.bind_eq_some_iff.mp ha
  obtain rfl := (gg_chk c13).2.symm
  obtain ⟨v14, h14, ha⟩ := Option.bind_eq_some_iff.mp ha
  rw [e98] at h14
  have e14 : v14 = v1 := p2_worthAll N3 (fun k k0 k1 => B3.dn k0 k1) v14 v1 h14 hv1
  obtain ⟨b1, b2, bc⟩ := r_night_104 (x2 := 0) (by decide) b hb
  obtain rfl := Option.some.inj ha
  have t47 : ∀ i, 0 ≤ i → i < 100 → ai b.2.2.1 47 i = ai A14 48 i := fun i i0 i1 => by
    have w := bc.2.1 i (by rw [i_0]; exact i0) i1
    rw [Int.zero_add] at w
    exact w
  refine ⟨?_, ?_⟩
  · show v14 - v7 = b.1
    rw [b1, eb, e0, e14]
  · refine X.gone (P' := P9) (F' := F10) (A' := A11) G e98 (fun r k h1 h2 h3 => (p2 r k (fun e => h1 e.1) h3).trans (m4 r k h2)) (fun r o h1 h2 h3 => by rw [p4]; exact m3 r o h2 h1 h3) (W2.cg f8 (fun o _ => by rw [p4]) (p2 36 101 (by decide) (by decide)) (by rw [p4])) (fun k a b' => by rw [b2]; exact k1 k a b') (fun q hq => (bc.1 q (by omega)).trans ((k2 q (by omega)).trans (cp.1 q (by omega)))) ?_
    refine ⟨fun k k0 k1 => ?_, fun k k0 k1 => ?_, fun k k0 k1 => ?_, fun k k0 k1 => ?_, ?_, ?_, ?_, ?_⟩
    · show ci A11 2 1 k = ai b.2.2.1 47 (6 + k)
      rw [t47 _ (by omega) (by omega)]
      exact B3.dn k0 k1
    · show ci A11 2 2 k = ai b.2.2.1 47 k ∧ 0 ≤ ci A11 2 2 k
      rw [t47 _ (by omega) (by omega)]
      exact B3.sf k0 k1
    · show ci A11 2 4 k = ai b.2.2.1 47 (72 + k)
      rw [t47 _ (by omega) (by omega)]
      exact B3.tl k0 k1
    · have c6 := N.ct.2.2.2.2.2
      show LQx (P 0 8) F A (ci A11 2 3 k) (ai b.2.2.1 47 (42 + k)) (ai b.2.2.1 47 (48 + k)) ∧ ci A11 2 5 k = ai b.2.2.1 47 (54 + k) ∧ ci A11 2 6 k = ai b.2.2.1 47 (60 + k) ∧ ci A11 2 7 k = ai b.2.2.1 47 (66 + k)
      rw [t47 _ (by omega) (by omega), t47 _ (by omega) (by omega), t47 _ (by omega) (by omega), t47 _ (by omega) (by omega), t47 _ (by omega) (by omega)]
      have f17 : ∀ k, F (P 0 8) k = F10 (P 0 8) k := fun k => ((f8 k).trans (m4 _ k (fun e => (k6ne G.k08) e.1))).symm
      have w := B3.mn k0 (by rw [← f17]; exact k1)
      exact ⟨w.1.cg (f17 16) (by rw [p4]; exact (m3 _ 5 (k6ne G.k08) n2 (fun _ => by decide)).symm), w.2.1, w.2.2.1, w.2.2.2 trivial⟩
    · show (F10 2 7).toInt = ai b.2.2.1 47 78
      rw [t47 _ (by decide) (by decide), p2 2 7 (by decide) (by decide)]
      exact (D2 trivial).1
    · show (F10 2 8).toInt = ai b.2.2.1 47 79
      rw [t47 _ (by decide) (by decide), p3]
      exact (D2 trivial).2
    · show B7 (F10 2 7)
      rw [p2 2 7 (by decide) (by decide), m4 2 7 (by decide)]
      exact s0
    · rw [p4]
      exact b_goTill (q := 2) (by decide) (by decide) (X.2.2.1.1.2.2.2.2.2.2.2.s) g hg
theorem p2_nightX (X : XR P F A Fm Am) (G : Gc P F A) (S : SAm Fm Am) (hn : 1500 ≤ n) : P2 (e_SleepWork_night n P F A J) (d_night m Fm Am Jm) (fun a b => a.1 = b.1 ∧ XR a.2.1 a.2.2.1 a.2.2.2.1 b.2.1 b.2.2.1) := by
  intro a b ha hb
  unfold e_SleepWork_night at ha
  obtain ⟨z, hz, ha⟩ := Option.bind_eq_some_iff.mp ha
  refine r_night (Q := fun b => a.1 = b.1 ∧ XR a.2.1 a.2.2.1 a.2.2.2.1 b.2.1 b.2.2.1) (SCx.r74 S) (fun n' F7 A' d hd e7 f7 hs => ?_) b hb
  obtain ⟨d', hd', pu⟩ := v_push G.1 z hz
  obtain ⟨-, G2, -⟩ := (s_push G).po z hz
  have e4 : F 4 2 = Fm 74 := X.2.1.2.1
  rw [e4] at hd'
  obtain rfl : d' = d := by omega
  have X2 := X.push G (by omega) pu e7 f7 hs
  obtain ⟨u, P2, F2, A2, J2⟩ := z
  intro b hb
  exact p2_nrest (J := J2) X2 G2 hn a b ha hb
end H9fh
end Qz165
section Qz166
/-! read, on both sides, with all that is shared -/
section H9fi
variable {n m : Nat} {h d : Nat} {l p q b e C B last : Int} {P P' : Nat → Nat → Nat} {F F' : Nat → Nat → Int32} {A A' : Nat → Nat → Nat → Int32} {J : Nat → Nat → Nat → Int64} {Fm Fm' : Nat → Int32} {Am Am' : Nat → Nat → Int32} {Jm : Nat → Nat → Int64}
/-- a live side that stays: its laws -/
theorem LSm.b5 (L : LSm l Am Am') (b0 : 50 * l ≤ b) (b1 : b < 50 * l + 50) : ai Am' 36 b = ai Am 36 b ∧ ai Am' 37 b = ai Am 37 b ∧ ai Am' 38 b = ai Am 38 b ∧ ai Am' 39 b = ai Am 39 b ∧ ai Am' 40 b = ai Am 40 b := ⟨L 36 b b0 b1, L 37 b b0 b1, L 38 b b0 b1, L 39 b b0 b1, L 40 b b0 b1⟩
theorem LSm.c2 (L : LSm l Am Am') : ∀ i, 420 * l ≤ i → i < 420 * l + 420 → ai Am' 42 i = ai Am 42 i ∧ ai Am' 43 i = ai Am 43 i := fun i a b => ⟨L 42 i a b, L 43 i a b⟩
theorem BRx.ls (h : BRx C d A Am p b q) (L : LSm l Am Am') (b0 : 50 * l ≤ b) (b1 : b < 50 * l + 50) (c0 : 420 * l ≤ ai Am 37 b) (c1 : ai Am 40 b ≤ 420 * l + 420) : BRx C d A Am' p b q := by
  obtain ⟨l1, l2, l3, t, z, s1, e1, s2, e2, k1, k2, s3, e3, hC, k3, e⟩ := h
  obtain ⟨r36, r37, r38, r39, r40⟩ := L.b5 b0 b1
  have fm := L.c2
  have g1 := s1.1.1
  have g2 := s2.1.1
  have g3 := s3.1.1
  unfold BRx
  rw [r36, r37, r38, r39, r40]
  exact ⟨l1, l2, l3, t, z, s1.fr (fun _ _ _ => ⟨rfl, rfl⟩) (fun i a b => fm i (by omega) (by omega)), e1, s2.fr (fun _ _ _ => ⟨rfl, rfl⟩) (fun i a b => fm i (by omega) (by omega)), e2, k1, k2, s3.fr (fun _ _ _ => ⟨rfl, rfl⟩) (fun i a b => fm i (by omega) (by omega)), e3, hC, k3, e⟩
theorem FNx.ls (h : FNx C d A Am p b e) (L : LSm l Am Am') (b0 : 50 * l ≤ b) (b1 : b < 50 * l + 50) (c0 : 420 * l ≤ ai Am 39 b) (c1 : ai Am 40 b ≤ 420 * l + 420) : FNx C d A Am' p b e := by
  obtain ⟨l1, t, z, s1, e1, hC, k3, e⟩ := h
  obtain ⟨r36, -, -, r39, r40⟩ := L.b5 b0 b1
  have fm := L.c2
  have g1 := s1.1.1
  unfold FNx
  rw [r36, r39, r40]
  exact ⟨l1, t, z, s1.fr (fun _ _ _ => ⟨rfl, rfl⟩) (fun i a b => fm i (by omega) (by omega)), e1, hC, k3, e⟩
theorem LPx.ls (L : LSm l Am Am') : ∀ {n : Nat} {p b q : Int}, LPx C d A Am n p b q → (∀ b', b ≤ b' → b' < b + n → 50 * l ≤ b' ∧ b' < 50 * l + 50 ∧ ai Am 40 b' ≤ 420 * l + 420 ∧ (ai Am 36 b' = 1 → 420 * l ≤ ai Am 37 b')) → LPx C d A Am' n p b q
  | 0, p, b, q, h, _ => h
  | n + 1, p, b, q, h, g => by
    obtain ⟨p1, h1, h2⟩ := h
    obtain ⟨g1, g2, g3, g4⟩ := g b (Int.le_refl _) (by omega)
    have z : ai Am 36 b = 1 := by
      obtain ⟨-, -, -, t, -⟩ := h1
      exact t
    exact ⟨p1, h1.ls L g1 g2 (g4 z) g3, LPx.ls L h2 (fun b' a c => g b' (by omega) (by omega))⟩
theorem LWx.ls (h : LWx C B d A Am p b last e) (L : LSm l Am Am') (g : ∀ b', b ≤ b' → b' < last → 50 * l ≤ b' ∧ b' < 50 * l + 50 ∧ 420 * l ≤ ai Am 39 b' ∧ ai Am 40 b' ≤ 420 * l + 420 ∧ (ai Am 36 b' = 1 → 420 * l ≤ ai Am 37 b')) : LWx C B d A Am' p b last e := by
  obtain ⟨p0, b0, hb, n, q, h1, h2, e1⟩ := h
  obtain ⟨g1, g2, g3, g4, -⟩ := g (b + n) (by omega) (by omega)
  exact ⟨p0, b0, hb, n, q, h1.ls L (fun b' a c => by
    obtain ⟨w1, w2, -, w4, w5⟩ := g b' a (by omega)
    exact ⟨w1, w2, w4, w5⟩), h2.ls L g1 g2 g3 g4, e1⟩
/-- the house in use, when the reference's other side alone has changed -/
theorem NHx.ls (H : NHx h F A Fm Am) (S : SAm Fm Am) (e18 : Fm' 18 = Fm 18) (L : LSm (Fm 18).toInt Am Am') (h40 : ∀ b, 0 ≤ b → ai Am' 40 b ≤ 840) : NHx h F A Fm' Am' := by
  obtain ⟨h1, h2, h3, h4, h5, h6, h7, h8, h10, h9⟩ := H
  have hm : (F h 17).toInt = ai Am 29 (Fm 18).toInt := by
    have e : F h 17 = Am 29 (Fm 18).toInt.toNat := h1.1 3 (by decide)
    rw [e]
    rfl
  have one : ∀ {j : Nat}, sgm j = 1 → ai Am' j (Fm 18).toInt = ai Am j (Fm 18).toInt := fun {j} hj => L j (Fm 18).toInt (by rw [hj]; omega) (by rw [hj]; omega)
  have six : ∀ {j : Nat} {k : Int}, sgm j = 6 → 0 ≤ k → k < 6 → ai Am' j (6 * (Fm 18).toInt + k) = ai Am j (6 * (Fm 18).toInt + k) := fun {j k} hj k0 k1 => L j _ (by rw [hj]; omega) (by rw [hj]; omega)
  have twl : ∀ {j : Nat} {k : Int}, sgm j = 12 → 0 ≤ k → k < 12 → ai Am' j (12 * (Fm 18).toInt + k) = ai Am j (12 * (Fm 18).toInt + k) := fun {j k} hj k0 k1 => L j _ (by rw [hj]; omega) (by rw [hj]; omega)
  have stp : ∀ {j : Nat} {t u : Int}, sgm j = 36 → 0 ≤ t → t < 6 → 0 ≤ u → u < 6 → ai Am' j (6 * (6 * (Fm 18).toInt + t) + u) = ai Am j (6 * (6 * (Fm 18).toInt + t) + u) := fun {j t u} hj t0 t1 u0 u1 => L j _ (by rw [hj]; omega) (by rw [hj]; omega)
  refine ⟨h1.ls S e18 L h7.2.2.2.1.2, ?_, ?_, h4, by rw [e18]; exact h5, h6, h7, h8, h40, h9⟩
  · obtain ⟨d1, t1, r1, m1, n1⟩ := h2
    unfold HWx RWs RWn
    rw [e18]
    refine ⟨fun k k0 k1 => ?_, fun k k0 k1 => ?_, fun t u t0 t1' u0 u1 => ?_, fun k k0 k1 => ?_, ?_⟩
    · rw [twl (j := 13) rfl k0 (by omega), twl (j := 14) rfl k0 (by omega), twl (j := 15) rfl k0 (by omega)]
      exact d1 k k0 k1
    · rw [six (j := 20) rfl k0 (by omega)]
      exact t1 k k0 k1
    · have u6 := (h6 t t0).2.1
      rw [stp (j := 23) rfl t0 (by omega) u0 (by omega), stp (j := 24) rfl t0 (by omega) u0 (by omega), stp (j := 25) rfl t0 (by omega) u0 (by omega), stp (j := 26) rfl t0 (by omega) u0 (by omega), stp (j := 27) rfl t0 (by omega) u0 (by omega), stp (j := 28) rfl t0 (by omega) u0 (by omega)]
      exact r1 t u t0 t1' u0 u1
    · rw [six (j := 30) rfl k0 (by omega)]
      exact m1 k k0 k1
    · unfold RWn at n1
      rw [n1]
      exact i_ext (one (j := 41) rfl).symm
  · intro k k0 k1
    rw [e18, six (j := 34) rfl k0 (by omega), six (j := 35) rfl k0 (by omega)]
    rcases h3 k k0 k1 with w | ⟨C, B, e, w, le⟩
    · exact .inl w
    · exact .inr ⟨C, B, e, w.ls L (fun b' a c => S.2.2.2.1 k k0 (by rw [← hm]; exact k1) b' a c), le⟩
theorem v_enter {r1 : Nat} : po (e_Evening_enter P F A J r1) (fun z => z.2.1 0 8 = P 0 8 ∧ (∀ r k, ¬ (r = 36 ∧ k = 101) → ¬ (r = 32 ∧ k = 6) → z.2.2.1 r k = F r k) ∧ z.2.2.1 36 101 = -1 ∧ z.2.2.2.1 = A) := by
  unfold e_Evening_enter
  refine po_bl (fun P1 h1 => ?_)
  have u1 := gg_cpp h1
  have dr : po (e_Ways_drop P1 F A J) (fun z => z.2.1 = P1 ∧ FUm F z.2.2.1 36 101 (-1) ∧ z.2.2.2.1 = A) := by
    unfold e_Ways_drop
    exact po_bl (fun F1 h1 => po_some ⟨rfl, gg_cpf h1, rfl⟩)
  refine po_call dr ?_
  rintro ⟨_, P3, F4, A5, J6⟩ ⟨d1, d2, d3⟩
  dsimp only at d1 d2 d3 ⊢
  refine po_call w_stale ?_
  rintro ⟨_, P8, F9, A10, J11⟩ ⟨w1, w2, w3⟩
  dsimp only at w1 w2 w3 ⊢
  exact po_some ⟨by show P8 0 8 = P 0 8; rw [w1, d1]; exact u1.2 0 8 (by decide), fun r k a b => (w2.2 r k b).trans (d2.2 r k a), (w2.2 36 101 (by decide)).trans d2.1, w3.trans d3⟩
/-- the house that was read comes into use -/
theorem v_move : po (e_SleepWork_moveIn P F A J) (fun z => z.2.1 0 8 = P 0 9 ∧ (∀ r k, r ≠ 2 → ¬ (r = 4 ∧ k = 2) → ¬ (r = 25 ∧ k = 2) → ¬ (r = 0 ∧ k = 10) → ¬ (r = 36 ∧ k = 101) → ¬ (r = 32 ∧ k = 6) → z.2.2.1 r k = F r k) ∧ (∀ r o, r ≠ 2 → z.2.2.2.1 r o = A r o) ∧ (z.2.2.1 25 2 = 0 ∧ z.2.2.1 36 101 = -1) ∧ SE (F 3) (z.2.2.1 2) (A 3) (z.2.2.2.1 2)) := by
  unfold e_SleepWork_moveIn
  refine po_bl (fun q1 c1 => ?_)
  obtain rfl := (gg_chk c1).2.symm
  refine po_bl (fun q2 c2 => ?_)
  obtain rfl := (gg_chk c2).2.symm
  refine po_bl (fun P3 h3 => po_bl (fun P4 h4 => ?_))
  have u3 := gg_cpp h3
  have u4 := gg_cpp h4
  refine po_call (v_copy (r0 := 2) (r1 := 3) (by decide)) ?_
  rintro ⟨_, P6, F7, A8, J9⟩ ⟨g1, g2, g3, g4⟩
  dsimp only at g1 g2 g3 g4 ⊢
  refine po_bl (fun Fa ha => po_bl (fun Fb hb => po_bl (fun Fc hc => po_bl (fun q13 c13 => ?_))))
  have ua := gg_cpf ha
  have ub := gg_cpf hb
  have uc := gg_cpf hc
  refine po_call v_enter ?_
  rintro ⟨_, P15, F16, A17, J18⟩ ⟨e1, e2, e3, e4⟩
  dsimp only at e1 e2 e3 e4 ⊢
  have f2 : ∀ k, F16 2 k = F7 2 k := fun k => (e2 2 k (by simp) (by simp)).trans ((uc.2 2 k (by simp)).trans ((ub.2 2 k (by simp)).trans (ua.2 2 k (by simp))))
  refine po_some ⟨?_, fun r k h2 h4 h25 h0 h36 h32 => (e2 r k h36 h32).trans ((uc.2 r k h0).trans ((ub.2 r k h25).trans ((ua.2 r k h4).trans (g2 r k h2)))), fun r o h2 => by rw [e4]; exact g3 r o h2, ⟨(e2 25 2 (by decide) (by decide)).trans ((uc.2 25 2 (by decide)).trans ub.1), e3⟩, g4.tr (.of f2 (fun o => by rw [e4]))⟩
  show P15 0 8 = P 0 9
  rw [e1, g1, u4.2 0 8 (by decide)]
  exact u3.1
theorem t_readText (hk : c_kind d = 6) (R : Rc F A) (hn : 6000 ≤ n) : ok (e_Reader_readText n P F A J d 3) (fun r => (∀ r' k, r' ≠ 37 → r.2.1 r' k = P r' k) ∧ RTc r.2.1 d F A r) := by
  unfold e_Reader_readText
  refine ok_call (s_open hk R (by omega)) ?_
  rintro ⟨u, P2, F2, A2, J2⟩ ⟨oP, x5, x6, V⟩
  dsimp only at oP x5 x6 V ⊢
  refine ok_mono (s_readText_10 x5 x6 hk V (by decide) (by rw [i_0]; omega)) (fun r hr => ?_)
  have e := hr.1
  rw [e]
  exact ⟨oP, hr⟩
theorem p2_readX {JW JK : Nat → Int64} (hW : WKx JW JK) (X : XR P F A Fm Am) (G : Gc P F A) (S : SAm Fm Am) (tp : TPx F A Fm Am) (jw : J 37 6 = JW) (jk : Jm 7 = JK) (hn : 6000 ≤ n) (hm : 12100 ≤ m) : P2 (e_SleepWork_read n P F A J) (d_read m Fm Am Jm) (fun a b => XR a.2.1 a.2.2.1 a.2.2.2.1 b.2.1 b.2.2.1) := by
  intro a b ha hb
  have cy := (p2_cread6 hW G S tp ⟨X.1.1, X.2.1⟩ jw jk hn hm a b ha hb).2
  have Ga := ((s_cRead G hn).po a ha).1.1
  have xb := (x_read S hm).po b hb
  have Sb : SAm b.2.1 b.2.2.1 := xb.1.1
  have xl := xb.2
  have hk := G.k09
  have q9 : ∀ {r : Nat}, c_kind r ≠ 6 → r ≠ P 0 9 := fun h e => h (by rw [e]; exact hk)
  have hne : P 0 8 ≠ P 0 9 := by rcases G.2.1 with h | h <;> (rw [h.1, h.2]; decide)
  have lv := G.live
  have dr : P 0 9 = 27 ∨ P 0 9 = 28 := by rcases G.2.1 with h | h <;> omega
  unfold e_SleepWork_read at ha
  obtain ⟨q1, c1, ha⟩ := Option.bind_eq_some_iff.mp ha
  obtain rfl := (gg_chk c1).2.symm
  obtain ⟨z, hz, ha⟩ := Option.bind_eq_some_iff.mp ha
  obtain ⟨r1, -, -, r4, r5⟩ := p2_read hW hk G.1 S tp jw jk hn hm z b hz hb
  obtain ⟨oP, -, t2, t3, t4, t5⟩ := (t_readText hk G.1 hn).po z hz
  have yy := y_readText G.1 hk hn z hz
  obtain ⟨v2, P3, F4, A5, J6⟩ := z
  dsimp only at r1 r4 r5 oP t2 t3 t4 t5 yy ha
  obtain ⟨v7, h7, ha⟩ := Option.bind_eq_some_iff.mp ha
  obtain ⟨F8, h8, ha⟩ := Option.bind_eq_some_iff.mp ha
  obtain ⟨F9, h9, ha⟩ := Option.bind_eq_some_iff.mp ha
  have u8 := gg_cpf h8
  have u9 := gg_cpf h9
  have f9 : ∀ r k, ¬ (r = 0 ∧ k = 11) → ¬ (r = 1 ∧ k = 1) → F9 r k = F4 r k := fun r k a b => (u9.2 r k b).trans (u8.2 r k a)
  cases hc : g_cnd .ne v2 0 with
  | true =>
    rw [hc] at ha
    obtain rfl := Option.some.inj ha
    rw [i_ne, i_0] at hc
    obtain ⟨e18, e74, e77, L, q45⟩ := r5 hc
    have e8 : P3 0 8 = P 0 8 := oP 0 8 (by decide)
    have fF : ∀ r k, r ≠ 37 → r ≠ P 0 9 → r ≠ 3 → r ≠ 0 → r ≠ 1 → F9 r k = F r k := fun r k a b c d e => (f9 r k (fun h => d h.1) (fun h => e h.1)).trans (t3 r k a b c)
    have hF8 : ∀ k, F9 (P 0 8) k = F (P 0 8) k := fun k => fF _ k (by omega) hne (by omega) (by omega) (by omega)
    have hA8 : ∀ o, A5 (P 0 8) o = A (P 0 8) o := fun o => t4 _ o (by omega) hne (by omega)
    have hS : SOK (SS (P 0 8) F A) := SS.ok X.1.ct.2.2.2.2.2
    have sr : ∀ r : Nat, r ≠ 37 → r ≠ P 0 9 → r ≠ 3 → r ≠ 0 → r ≠ 1 → SE (F r) (F9 r) (A r) (A5 r) := fun r a b c d e => .of (fun k => fF r k a b c d e) (fun o => t4 r o a b c)
    have h40 : ∀ b', 0 ≤ b' → ai b.2.2.1 40 b' ≤ 840 := fun b' b0 => by
      have w : 0 ≤ ai b.2.2.1 40 b' ∧ ai b.2.2.1 40 b' ≤ 840 := Sb.2.1 40 b' b0
      exact w.2
    have Y := X.2.2.1
    have Y' : YS (SS (P 0 8) F A) F9 A5 b.2.1 b.2.2.1 := by
      refine ⟨Y.1.cg hS (sr 2 (by decide) (by omega) (by decide) (by decide) (by decide)) (fun i _ _ => by unfold ai; rw [q45 47 (by decide)]), ?_, Y.2.2.cg hS (fun r r0 r1 => sr r (by omega) (by omega) (by omega) (by omega) (by omega)) (q45 61 (by decide)) (q45 62 (by decide))⟩
      rw [e74]
      exact Y.2.1.cg hS (by rw [fF 4 1 (by decide) (by omega) (by decide) (by decide) (by decide)]) (fun r r0 r1 => sr r (by omega) (by omega) (by omega) (by omega) (by omega)) (q45 57 (by decide))
    show XR P3 F9 A5 b.2.1 b.2.2.1
    unfold XR
    rw [e8]
    refine ⟨(X.1.ls S e18 L h40).fr hF8 (fun o _ => hA8 o) rfl (fun _ _ _ => rfl), cy.2, Y'.map (fun f a g s => s.hs (hF8 17) (hF8 16) (hA8 5)), X.2.2.2.1.cg hF8 (fun o _ => hA8 o) (fF 36 101 (by decide) (by omega) (by decide) (by decide) (by decide)) (t4 36 2 (by decide) (by omega) (by decide)), fun i i0 i1 => ?_⟩
    rw [fF 25 2 (by decide) (by omega) (by decide) (by decide) (by decide)] at i1
    rw [ci_fr (t4 25 1 (by decide) (by omega) (by decide)), ci_fr (t4 25 2 (by decide) (by omega) (by decide)), ai_fr (q45 58 (by decide)), ai_fr (q45 59 (by decide)), ai_fr (q45 60 (by decide))]
    exact X.2.2.2.2 i i0 i1
  | false =>
    rw [hc] at ha
    rw [i_nne, i_0] at hc
    obtain ⟨w, hw, ha⟩ := Option.bind_eq_some_iff.mp ha
    obtain ⟨m1, m2, m3, ⟨m4, m5⟩, m6⟩ := v_move w hw
    obtain ⟨uw, P12, F13, A14, J15⟩ := w
    dsimp only at m1 m2 m3 m4 m5 m6
    obtain rfl := Option.some.inj ha
    obtain ⟨h1, ⟨h2, h3, sv⟩, e74, e77, e61⟩ := r4 hc
    have EY := yy.resolve_left (fun h => h hc)
    have xl7 := xl.resolve_left (fun h => h (by rw [← r1]; exact hc))
    have hP : P12 0 8 = P 0 9 := m1.trans (oP 0 9 (by decide))
    dsimp only at cy Ga ⊢
    have hF13 : ∀ k, F13 (P 0 9) k = F4 (P 0 9) k := fun k => (m2 _ k (by omega) (by omega) (by omega) (by omega) (by omega) (by omega)).trans (f9 _ k (by omega) (by omega))
    have hA14 : ∀ o, A14 (P 0 9) o = A5 (P 0 9) o := fun o => m3 _ o (by omega)
    have R : Rc F13 A14 := Ga.1
    have HV : HVc F13 A14 (P 0 9) := by have := Ga.2.2.2.1; rw [hP] at this; exact this
    have LV : LVc A14 (P 0 9) 2 := by have := Ga.2.2.2.2.1; rw [hP] at this; exact this
    have k13 : 0 ≤ (F13 (P 0 9) 13).toInt ∧ (F13 (P 0 9) 13).toInt ≤ 8 := by have := R.1 (P 0 9) 13; rw [hk] at this; exact this
    have k14 : 0 ≤ (F13 (P 0 9) 14).toInt ∧ (F13 (P 0 9) 14).toInt ≤ 12 := by have := R.1 (P 0 9) 14; rw [hk] at this; exact this
    have k15 : 0 ≤ (F13 (P 0 9) 15).toInt ∧ (F13 (P 0 9) 15).toInt ≤ 6 := by have := R.1 (P 0 9) 15; rw [hk] at this; exact this
    have k16 : 0 ≤ (F13 (P 0 9) 16).toInt ∧ (F13 (P 0 9) 16).toInt ≤ 6 := by have := R.1 (P 0 9) 16; rw [hk] at this; exact this
    have k17 : 0 ≤ (F13 (P 0 9) 17).toInt ∧ (F13 (P 0 9) 17).toInt ≤ 6 := by have := R.1 (P 0 9) 17; rw [hk] at this; exact this
    have k1304 : 0 ≤ (F13 (P 0 9) 1304).toInt ∧ (F13 (P 0 9) 1304).toInt ≤ 400 := by have := R.1 (P 0 9) 1304; rw [hk] at this; exact this
    have s5 : ∀ t, 0 ≤ t → 0 ≤ ci A14 (P 0 9) 5 t ∧ ci A14 (P 0 9) 5 t ≤ 6 ∧ ((F13 (P 0 9) 16).toInt ≤ t → t < 6 → ci A14 (P 0 9) 5 t = 0) := fun t t0 => by
      have w := R.2 (P 0 9) 5 t t0
      rw [hk] at w
      have w : 0 ≤ ci A14 (P 0 9) 5 t ∧ ci A14 (P 0 9) 5 t ≤ 6 := w
      refine ⟨w.1, w.2, fun a b => ?_⟩
      rw [ci_fr (hA14 5)]
      rw [hF13 16] at a
      exact (t5.resolve_left (fun h => h hc)).2 t a b
    have HY : HYc F4 A5 (P 0 9) := ⟨EY.1, fun t t0 t1 => (EY.2.1 t t0 t1).1, fun t u t0 t1 u0 u1 => EY.2.2.1 t u t0 (by rw [← hF13 16] at t1; omega) u0 u1, EY.2.2.2.1, by rw [← hF13]; exact HV.2.2.2.2.2⟩
    have h40 : ∀ b', 0 ≤ b' → ai b.2.2.1 40 b' ≤ 840 := fun b' b0 => by
      have w : 0 ≤ ai b.2.2.1 40 b' ∧ ai b.2.2.1 40 b' ≤ 840 := Sb.2.1 40 b' b0
      exact w.2
    have N : NHx (P 0 9) F13 A14 b.2.1 b.2.2.1 := ⟨h1.fr hF13 (hA14 5) rfl (fun _ _ _ => rfl), h2.fr hF13 (fun o _ => hA14 o) rfl (fun _ _ _ => rfl), h3.fr hF13 (fun o _ => hA14 o) rfl (fun _ _ _ => rfl), HY.cg hF13 (fun o _ => hA14 o), Sb.1 18, s5, ⟨k13, k14, k15, k16, k17⟩, k1304.2, h40, hk⟩
    have f3 : ∀ k, F9 3 k = F4 3 k := fun k => f9 3 k (by simp) (by simp)
    have s3 : SS (P 0 9) F13 A14 (F9 3) (A5 3) (fun i => ai b.2.2.1 47 i) := by
      obtain ⟨w1, w2, w3, w4, w5, w6⟩ := sv
      simp only [Int.zero_add] at w1 w2 w3 w4 w5 w6
      refine ⟨w1, fun k k0 k1 => ⟨w2 k k0 k1, EY.2.2.2.2.1 k k0 k1⟩, w3, fun m m0 m1 => ?_, by rw [f3]; exact w5, by rw [f3]; exact w6, by rw [f3]; exact EY.2.2.2.2.2, BDa.z (fun i i0 i1 => (w1 i i0 i1).trans (xl7.2.1 i i0 i1)) (fun i i0 i1 => by
        by_cases z : i < (F4 (P 0 9) 16).toInt
        · exact (EY.2.1 i i0 z).2
        · have e := (w2 i i0 i1).trans (xl7.2.2 i i0 i1 (by
            have := N.tks
            rw [hF13 16] at this
            omega))
          rw [show (A5 3 2 i.toNat).toInt = 0 from e]
          decide)⟩
      obtain ⟨lf, w5', w6', w7'⟩ := w4 m m0 (by rw [← hF13]; exact m1)
      refine ⟨?_, w5', w6', w7'⟩
      show LQx (P 0 9) F13 A14 (A5 3 3 m.toNat).toInt (ai b.2.2.1 47 (42 + m)) (ai b.2.2.1 47 (48 + m))
      have hm17 := N.men
      have ht16 := N.tks
      have xm := xl7.1 m m0 (by omega)
      rcases lf with ⟨a1, a2, a3⟩ | a1
      · exact .inl ⟨by rw [a1]; decide, by unfold ai; rw [a2]; decide, by unfold ai; rw [a3]; decide⟩
      · have l2 := LV m m0 (by omega)
        have e3 : ci A14 2 3 m = (A5 3 3 m.toNat).toInt := by
          unfold ci
          rw [m6.2.2.2 3 m.toNat (by decide) (by decide) (by omega)]
        rw [e3] at l2
        rcases xm with x0 | ⟨x0, x1⟩
        · obtain ⟨v1, v2, v3, v4⟩ := Sb.2.2.2.2.1 m m0 (by omega) x0
          have t1 : ai b.2.2.1 47 (42 + m) < (F13 (P 0 9) 16).toInt := by omega
          have es := N.stp x0 t1
          have s6 := N.s6 x0
          have hx : -1 ≤ ai b.2.2.1 47 (42 + m) ∧ ai b.2.2.1 47 (42 + m) ≤ 1000 := by omega
          have hy : -1 ≤ ai b.2.2.1 47 (48 + m) ∧ ai b.2.2.1 47 (48 + m) ≤ 1000 := by omega
          refine .inr ⟨x0, t1, v3, by omega, ?_⟩
          rw [a1]
          exact cx6 hx hy
        · have hx : -1 ≤ ai b.2.2.1 47 (42 + m) ∧ ai b.2.2.1 47 (42 + m) ≤ 1000 := by omega
          have hy : -1 ≤ ai b.2.2.1 47 (48 + m) ∧ ai b.2.2.1 47 (48 + m) ≤ 1000 := by omega
          have aT : (A5 3 3 m.toNat).toInt = ai b.2.2.1 47 (42 + m) * 6 + ai b.2.2.1 47 (48 + m) := by
            rw [a1]
            exact cx6 hx hy
          rcases l2 with l2 | ⟨l2, -, -⟩
          · omega
          · omega
    have Y : YS (SS (P 0 9) F13 A14) F13 A14 b.2.1 b.2.2.1 := by
      refine ⟨SS.ok k17.2 _ _ _ _ _ _ m6 (fun _ _ _ => rfl) s3, fun u u0 u1 => absurd u1 (by omega), fun s hs hb' => ?_⟩
      have w := e61 (s : Int) (by omega) (by omega)
      unfold ai at w
      rw [Int.toNat_natCast] at w
      exact absurd (i_ext (w.trans i_0.symm)) hb'
    show XR P12 F13 A14 b.2.1 b.2.2.1
    unfold XR
    rw [hP]
    exact ⟨N, cy.2, Y, .inl m5, fun i i0 i1 => absurd i1 (by rw [m4, i_0]; omega)⟩
end H9fi
end Qz166
section Qz167
/-! what the tape's calls and bars leave of all that is shared (frames printed by wip/frames.py with wip/nt/rules.g) -/
section H9fj
variable {P0 P P' : Nat → Nat → Nat} {F0 F F' : Nat → Nat → Int32} {A0 A A' : Nat → Nat → Nat → Int32} {Fm Fm' : Nat → Int32} {Am Am' : Nat → Nat → Int32}
/-- the tape alone has changed -/
def TGx (P0 : Nat → Nat → Nat) (F0 : Nat → Nat → Int32) (A0 : Nat → Nat → Nat → Int32) (P : Nat → Nat → Nat) (F : Nat → Nat → Int32) (A : Nat → Nat → Nat → Int32) : Prop := P = P0 ∧ (∀ r k, r ≠ 1 → F r k = F0 r k) ∧ ∀ r o, r ≠ 1 → A r o = A0 r o
theorem TGx.rfl' : TGx P F A P F A := ⟨rfl, fun _ _ _ => rfl, fun _ _ _ => rfl⟩
theorem tg_pf {γ : Type} {k : Nat} {x : Int32} {g : (Nat → Nat → Int32) → Option γ} {Q : γ → Prop} (h : TGx P0 F0 A0 P F A) (kk : ∀ F', TGx P0 F0 A0 P F' A → po (g F') Q) : po ((c_pf F 1 k x).bind g) Q :=
  po_bl (fun F' e => kk F' ⟨h.1, fun r k hr => ((gg_cpf e).2 r k (fun e => hr e.1)).trans (h.2.1 r k hr), h.2.2⟩)
theorem tg_st {γ : Type} {o n : Nat} {i x : Int32} {g : (Nat → Nat → Nat → Int32) → Option γ} {Q : γ → Prop} (h : TGx P0 F0 A0 P F A) (kk : ∀ A', TGx P0 F0 A0 P F A' → po (g A') Q) : po ((c_st A 1 o n i x).bind g) Q :=
  po_bl (fun A' e => kk A' ⟨h.1, h.2.1, fun r o hr => ((gg_cst e).2.2.2.2 r o (fun e => hr e.1)).trans (h.2.2 r o hr)⟩)
theorem tg_e_Tape_addWord_3   : ∀ {n : Nat} {P : Nat → Nat → Nat} {F : Nat → Nat → Int32} {A : Nat → Nat → Nat → Int32} {J : Nat → Nat → Nat → Int64} {x1 : Int32} {x2 : Int32}, TGx P0 F0 A0 P F A → po (e_Tape_addWord_3  n P F A J x1 x2) (fun r => TGx P0 F0 A0 r.2.1 r.2.2.1 r.2.2.2.1) := by
  intro n
  induction n with
  | zero => intro P F A J x1 x2 _ r hr; cases hr
  | succ n ih =>
    intro P F A J x1 x2 h
    unfold e_Tape_addWord_3
    repeat' (first
      | with_reducible exact po_some (by assumption)
      | (with_reducible refine tg_pf (by assumption) ?_; intro _ _)
      | (with_reducible refine tg_st (by assumption) ?_; intro _ _)
      | with_reducible exact ih (by assumption)
      | (with_reducible refine po_call (ih (by assumption)) ?_; rintro ⟨_, _, _, _, _⟩ _; try dsimp only)
      | (intros; with_reducible exact ih (by assumption))
      | with_reducible refine po_cond (fun _ => ?_) (fun _ => ?_)
      | with_reducible refine po_bind_cond (fun _ => ?_) (fun _ => ?_)
      | with_reducible refine po_bl (fun _ _ => ?_))
theorem tg_e_Tape_addWord {n : Nat} {P : Nat → Nat → Nat} {F : Nat → Nat → Int32} {A : Nat → Nat → Nat → Int32} {J : Nat → Nat → Nat → Int64} {x1 : Int32}  (h : TGx P0 F0 A0 P F A) : po (e_Tape_addWord n P F A J x1) (fun r => TGx P0 F0 A0 r.2.1 r.2.2.1 r.2.2.2.1) := by
  unfold e_Tape_addWord
  repeat' (first
    | with_reducible exact po_some (by assumption)
    | (with_reducible refine tg_pf (by assumption) ?_; intro _ _)
    | (with_reducible refine tg_st (by assumption) ?_; intro _ _)
    | with_reducible exact tg_e_Tape_addWord_3 (by assumption)
    | (with_reducible refine po_call (tg_e_Tape_addWord_3 (by assumption)) ?_; rintro ⟨_, _, _, _, _⟩ _; try dsimp only)
    | with_reducible refine po_cond (fun _ => ?_) (fun _ => ?_)
    | with_reducible refine po_bind_cond (fun _ => ?_) (fun _ => ?_)
    | with_reducible refine po_bl (fun _ _ => ?_))
theorem tg_e_SleepWork_feed {n : Nat} {P : Nat → Nat → Nat} {F : Nat → Nat → Int32} {A : Nat → Nat → Nat → Int32} {J : Nat → Nat → Nat → Int64} {x1 : Int32} {x2 : Int32} {x3 : Int32} {x4 : Int32} {x5 : Int32}  (h : TGx P0 F0 A0 P F A) : po (e_SleepWork_feed n P F A J x1 x2 x3 x4 x5) (fun r => TGx P0 F0 A0 r.2.1 r.2.2.1 r.2.2.2.1) := by
  unfold e_SleepWork_feed
  repeat' (first
    | with_reducible exact po_some (by assumption)
    | (with_reducible refine tg_pf (by assumption) ?_; intro _ _)
    | (with_reducible refine tg_st (by assumption) ?_; intro _ _)
    | with_reducible exact tg_e_Tape_addWord (by assumption)
    | (with_reducible refine po_call (tg_e_Tape_addWord (by assumption)) ?_; rintro ⟨_, _, _, _, _⟩ _; try dsimp only)
    | with_reducible refine po_cond (fun _ => ?_) (fun _ => ?_)
    | with_reducible refine po_bind_cond (fun _ => ?_) (fun _ => ?_)
    | with_reducible refine po_bl (fun _ _ => ?_))
theorem tg_e_SleepWork_back {P : Nat → Nat → Nat} {F : Nat → Nat → Int32} {A : Nat → Nat → Nat → Int32} {J : Nat → Nat → Nat → Int64} {x1 : Int32}  (h : TGx P0 F0 A0 P F A) : po (e_SleepWork_back P F A J x1) (fun r => TGx P0 F0 A0 r.2.1 r.2.2.1 r.2.2.2.1) := by
  unfold e_SleepWork_back
  repeat' (first
    | with_reducible exact po_some (by assumption)
    | (with_reducible refine tg_pf (by assumption) ?_; intro _ _)
    | (with_reducible refine tg_st (by assumption) ?_; intro _ _)
    | with_reducible refine po_cond (fun _ => ?_) (fun _ => ?_)
    | with_reducible refine po_bind_cond (fun _ => ?_) (fun _ => ?_)
    | with_reducible refine po_bl (fun _ _ => ?_))
/-- all that is shared stays, whatever comes onto the tapes -/
theorem XR.tape (X : XR P F A Fm Am) (G : Gc P F A) (g : TGx P F A P' F' A') (e : ∀ q, q ≠ 2 → Fm' q = Fm q) (m : ∀ q, q ≠ 1 → Am' q = Am q) : XR P' F' A' Fm' Am' := by
  obtain ⟨N, C, Y, W, T⟩ := X
  obtain ⟨rfl, hF, hA⟩ := g
  have n1 : P' 0 8 ≠ 1 := fun e => absurd G.k08 (by rw [e]; decide)
  have hF8 : ∀ k, F' (P' 0 8) k = F (P' 0 8) k := fun k => hF _ k n1
  have hA8 : ∀ o, A' (P' 0 8) o = A (P' 0 8) o := fun o => hA _ o n1
  have hS : SOK (SS (P' 0 8) F A) := SS.ok N.ct.2.2.2.2.2
  have sr : ∀ r : Nat, r ≠ 1 → SE (F r) (F' r) (A r) (A' r) := fun r h1 => .of (fun k => hF r k h1) (fun o => hA r o h1)
  have Y' : YS (SS (P' 0 8) F A) F' A' Fm' Am' := by
    refine ⟨Y.1.cg hS (sr 2 (by decide)) (fun i _ _ => by unfold ai; rw [m 47 (by decide)]), ?_, Y.2.2.cg hS (fun r r0 r1 => sr r (by omega)) (m 61 (by decide)) (m 62 (by decide))⟩
    rw [e 74 (by decide)]
    exact Y.2.1.cg hS (by rw [hF 4 1 (by decide)]) (fun r r0 r1 => sr r (by omega)) (m 57 (by decide))
  refine ⟨N.fr hF8 (fun o _ => hA8 o) (e 18 (by decide)) (fun q a b => m q (by omega)), ⟨by rw [hF 25 2 (by decide), e 77 (by decide)]; exact C.1, by rw [hF 4 2 (by decide), e 74 (by decide)]; exact C.2.1, fun s hs => by rw [hF 0 10 (by decide), m 61 (by decide)]; exact C.2.2 s hs⟩, Y'.map (fun f a g s => s.hs (hF8 17) (hF8 16) (hA8 5)), W.cg hF8 (fun o _ => hA8 o) (hF 36 101 (by decide)) (hA 36 2 (by decide)), fun i i0 i1 => ?_⟩
  rw [hF 25 2 (by decide)] at i1
  rw [ci_fr (hA 25 1 (by decide)), ci_fr (hA 25 2 (by decide)), ai_fr (m 58 (by decide)), ai_fr (m 59 (by decide)), ai_fr (m 60 (by decide))]
  exact T i i0 i1
/-- what a try of the reference leaves, from the lists of what it writes -/
theorem KT.of {Lf La : List Nat} (fF : ∀ q, q ∉ Lf → Fm' q = Fm q) (fA : ∀ q, q ∉ La → Am' q = Am q) (cF : Lf.all (fun q => decide (q = 63 ∨ q = 76)) = true) (cA : La.all (fun q => decide (45 ≤ q ∧ q ≠ 47 ∧ q < 57)) = true) : KT Fm Am Fm' Am' := by
  refine ⟨fun q h1 h2 => fF q (fun h => ?_), fun q hq => fA q (fun h => ?_)⟩
  · have := of_decide_eq_true (List.all_eq_true.mp cF q h)
    omega
  · have := of_decide_eq_true (List.all_eq_true.mp cA q h)
    omega
/-- what bars leaves of the class, but for its row of seen arrivals -/
def BW (P0 : Nat → Nat → Nat) (F0 : Nat → Nat → Int32) (A0 : Nat → Nat → Nat → Int32) (F : Nat → Nat → Int32) (A : Nat → Nat → Nat → Int32) : Prop := SFr F0 F A0 A ∧ (∀ k, F 4 k = F0 4 k) ∧ F 0 10 = F0 0 10 ∧ (c_kind (P0 0 8) = 6 → WCx (P0 0 8) F0 A0 → WCx (P0 0 8) F A)
theorem BW.rfl' : BW P F A F A := ⟨SFr.rfl', fun _ => rfl, rfl, fun _ w => w⟩
theorem BW.q (b : BW P0 F0 A0 F A) (e8 : P 0 8 = P0 0 8) (q : QFc P P' F F' A A') : BW P0 F0 A0 F' A' := ⟨b.1.tr q.2.1, fun k => (q.1.2.2.2.2.1 k).trans (b.2.1 k), q.1.2.2.2.2.2.1.trans b.2.2.1, fun hk w => by
  have z := q.2.2
  rw [e8] at z
  exact z hk (b.2.2.2 hk w)⟩
theorem XR.bars (X : XR P F A Fm Am) (G : Gc P F A) (hk : HK P F A P' F' A') (b : BW P F A F' A') : XR P' F' A' Fm Am := by
  obtain ⟨N, C, Y, W, T⟩ := X
  have e8 : P' 0 8 = P 0 8 := hk.1
  have hF := (hk.2 _ G.live).1
  have hA := (hk.2 _ G.live).2
  have hS : SOK (SS (P 0 8) F A) := SS.ok N.ct.2.2.2.2.2
  have st := b.1.1
  have sr : ∀ r : Nat, r < 32 → (r = 2 ∨ (5 ≤ r ∧ r ≤ 24) ∨ 29 ≤ r) → SE (F r) (F' r) (A r) (A' r) := fun r h1 h2 => .of (st r (kd_st r h1 h2) (by omega) (by omega)).2 (st r (kd_st r h1 h2) (by omega) (by omega)).1
  have Y' : YS (SS (P 0 8) F A) F' A' Fm Am := ⟨Y.1.cg hS (sr 2 (by decide) (by decide)) (fun _ _ _ => rfl), Y.2.1.cg hS (by rw [b.2.1 1]) (fun r r0 r1 => sr r (by omega) (by omega)) rfl, Y.2.2.cg hS (fun r r0 r1 => sr r (by omega) (by omega)) rfl rfl⟩
  unfold XR
  rw [e8]
  refine ⟨N.fr hF hA rfl (fun _ _ _ => rfl), ⟨by rw [b.1.2.2 2]; exact C.1, by rw [b.2.1 2]; exact C.2.1, fun s hs => by rw [b.2.2.1]; exact C.2.2 s hs⟩, Y'.map (fun f a g s => s.hs (hF 17) (hF 16) (hA 5 (by decide))), b.2.2.2 N.kd W, fun i i0 i1 => ?_⟩
  rw [b.1.2.2 2] at i1
  rw [ci_fr (b.1.2.1 1), ci_fr (b.1.2.1 2)]
  exact T i i0 i1
end H9fj
end Qz167
section Qz168
/-! quiet calls: the same answers (step, way, where, strokes, gain) -/
section H9fk
variable {n m h : Nat} {P P' : Nat → Nat → Nat} {F F' F1 : Nat → Nat → Int32} {A A' : Nat → Nat → Nat → Int32} {J : Nat → Nat → Nat → Int64} {Fm Fm' : Nat → Int32} {Am Am' A7 : Nat → Nat → Int32} {Jm : Nat → Nat → Int64} {x1 x2 x3 y1 : Int32} {D : Int → Int → Int}
theorem p2_step (X : XR P F A Fm Am) (S : SAm Fm Am) : P2 (e_SleepWork_step P F A J x1 x2 x3) (d_step Fm Am Jm x1 x2 x3) (fun a b => a = b) := by
  obtain ⟨N, -, Y, -, -⟩ := X
  have ct := N.ct
  have hs := N.sd
  unfold e_SleepWork_step d_step
  refine p2_bl (fun _ hk => ?_)
  obtain rfl := (gg_chk hk).2.symm
  refine p2_call (R := fun v w => BV v (0 ≤ x1.toInt ∧ x1.toInt < (F (P 0 8) 16).toInt ∧ 0 ≤ x2.toInt ∧ x2.toInt < ci A (P 0 8) 5 x1.toInt) ∧ v = w) (p2_of v_cStep (v_dStep S) (fun a b h h' => ⟨h, h.eq h' (CX.stp N.1)⟩)) ?_
  rintro v w ⟨b, rfl⟩
  rcases b with ⟨rfl, p⟩ | ⟨rfl, p⟩
  · refine p2_cl (fun _ => p2_cr (fun _ => ?_) (fun c => absurd c (by decide))) (fun c => absurd c (by decide))
    obtain ⟨t0, t1, u0, u1⟩ := p
    have s6 := N.s6 t0
    have r := N.row t0 t1 u0 u1
    have hy := N.hy.2.2.1 _ _ t0 t1 u0 u1
    have ic := cx6 (x := x1) (y := x2) (by omega) (by omega)
    refine p2_r (v_stepAt hs (by omega) (by omega)) ?_
    intro w3 q3
    refine p2_dd (fun _ => ?_) (fun _ => ?_)
    · refine p2_bl (fun v5 h5 => p2_br (fun w5 k5 => p2_some (i_ext ?_)))
      rw [(gl h5).2.2, (gm k5).2.2, ic, rx6 (by omega) (by omega)]
      have e := Y.1.1 (x1.toInt * 6 + x2.toInt) (by omega) (by omega)
      have z : 6 + 6 * x1.toInt + x2.toInt = 6 + (x1.toInt * 6 + x2.toInt) := by omega
      rw [z]
      exact e
    refine p2_dd (fun _ => ?_) (fun _ => ?_)
    · refine p2_bl (fun _ hk => ?_)
      obtain rfl := (gg_chk hk).2.symm
      refine p2_bl (fun v5 h5 => p2_br (fun w5 k5 => p2_some (i_ext ?_)))
      rw [(gl h5).2.2, (gm k5).2.2, ic, q3]
      exact r.1
    refine p2_dd (fun _ => ?_) (fun _ => ?_)
    · refine p2_bl (fun _ hk => ?_)
      obtain rfl := (gg_chk hk).2.symm
      refine p2_bl (fun v5 h5 => p2_br (fun w5 k5 => p2_some (i_ext ?_)))
      rw [(gl h5).2.2, (gm k5).2.2, ic, q3]
      exact r.2.1
    refine p2_dd (fun _ => ?_) (fun _ => ?_)
    · refine p2_bl (fun _ hk => ?_)
      obtain rfl := (gg_chk hk).2.symm
      refine p2_bl (fun v5 h5 => p2_br (fun w5 k5 => p2_some (i_ext ?_)))
      rw [(gl h5).2.2, (gm k5).2.2, ic, q3]
      exact r.2.2.1
    refine p2_dd (fun _ => ?_) (fun _ => ?_)
    · refine p2_bl (fun _ hk => ?_)
      obtain rfl := (gg_chk hk).2.symm
      refine p2_bl (fun v5 h5 => p2_br (fun w5 k5 => p2_some (i_ext ?_)))
      rw [(gl h5).2.2, (gm k5).2.2, ic, q3]
      exact r.2.2.2.1
    have nn : ∀ {a b : Int}, NNx a b → (a = -2 ∨ 0 ≤ a) → a = if 0 ≤ b then b else -2 := fun {a b} h k => by
      rcases h with e | ⟨e1, e2⟩
      · rw [← e]
        rcases k with z | z
        · rw [z, if_neg (by decide)]
        · rw [if_pos z]
      · rw [e1, e2, if_neg (by decide)]
    refine p2_dd (fun _ => ?_) (fun _ => ?_)
    · refine p2_bl (fun _ hk => ?_)
      obtain rfl := (gg_chk hk).2.symm
      refine p2_bl (fun v5 h5 => p2_br (fun w5 k5 => p2_r v_none (fun w6 q6 => p2_some (i_ext ?_))))
      rw [(gl h5).2.2, q6, (gm k5).2.2, ic, q3]
      exact nn r.2.2.2.2.1 hy.2.2.2.2.2.2.1
    refine p2_dd (fun _ => ?_) (fun _ => p2_some rfl)
    · refine p2_bl (fun _ hk => ?_)
      obtain rfl := (gg_chk hk).2.symm
      refine p2_bl (fun v5 h5 => p2_br (fun w5 k5 => p2_r v_none (fun w6 q6 => p2_some (i_ext ?_))))
      rw [(gl h5).2.2, q6, (gm k5).2.2, ic, q3]
      exact nn r.2.2.2.2.2 hy.2.2.2.2.2.2.2
  · exact p2_cl (fun c => absurd c (by decide)) (fun _ => p2_cr (fun c => absurd c (by decide)) (fun _ => p2_some rfl))
/-- the ways of now, on both sides -/
theorem XR.ways {b : mR Unit} (X : XR P F A Fm Am) (G : Gc P F A) (cp : CPm 47 48 0 0 0 Am A7) (hb : d_fillsWays m Fm A7 Jm = some b) : FW Fm A7 b.2.1 b.2.2.1 ∧ WIx (F (P 0 8) 13).toInt b.2.2.1 ∧ ∀ {n : Nat} {J : Nat → Nat → Nat → Int64} {x1 x2 : Int32}, 0 ≤ x1.toInt ∧ x1.toInt < (F (P 0 8) 13).toInt → 0 ≤ x2.toInt ∧ x2.toInt < (F (P 0 8) 13).toInt → po (e_Evening_minutesBetween n P F A J x1 x2) (fun r => r.1.toInt = mx b.2.2.1 x1.toInt x2.toInt) := by
  obtain ⟨N7, B7, s7, -, s0⟩ := X.take cp
  have ct := N7.ct
  refine ⟨fw_d_fillsWays FW.rfl' b hb, WIx_of N7 G.1 G.2.2.2.1 b hb, fun {n J x1 x2} h1 h2 => ?_⟩
  have hsh : F 2 7 ≠ -1 := fun e => by rw [e] at s0; exact b7_m1 s0
  have e : F 2 7 = A7 48 78 := i_ext s7
  have WD := WD_of N7 hb
  rw [← e] at WD
  unfold e_Evening_minutesBetween
  refine po_bl (fun _ hk => ?_)
  obtain rfl := (gg_chk hk).2.symm
  rw [G.2.2.1]
  refine po_call (v_between X.2.2.2.1 WD hsh h1 h2 ct.1.2 (k6ne G.k08)) ?_
  rintro ⟨v, P3, F4, A5, J6⟩ ⟨q, -⟩
  exact po_some q
theorem i_8 {x y : Int32} (hx : 0 ≤ x.toInt ∧ x.toInt ≤ 8) (hy : 0 ≤ y.toInt ∧ y.toInt ≤ 8) : (8 * x + y).toInt = 8 * x.toInt + y.toInt := by
  have m := i_mulL (c := 8) (k := 8) (x := x) (by decide) (by omega) (by omega)
  rw [i_add (by rw [m]; omega) (by rw [m]; omega), m]
theorem p2_way (X : XR P F A Fm Am) (G : Gc P F A) (S : SAm Fm Am) : P2 (e_SleepWork_way n P F A J x1 x2) (d_way m Fm Am Jm x1 x2) (fun a b => a.1 = b.1) := by
  have N := X.1
  have ct := N.ct
  have lF : (1000000 : Int32).toInt = 1000000 := by decide
  unfold e_SleepWork_way d_way
  refine p2_call (R := fun v w => BV v (0 ≤ x1.toInt ∧ x1.toInt < (F (P 0 8) 13).toInt) ∧ v = w) (p2_of v_cRoom (v_dRoom S) (fun a b h h' => ⟨h, h.eq h' (by rw [CX.rooms N.1])⟩)) ?_
  rintro v w ⟨b, rfl⟩
  rcases b with ⟨rfl, p⟩ | ⟨rfl, p⟩
  · refine p2_cl (fun c => absurd c (by decide)) (fun _ => p2_cr (fun c => absurd c (by decide)) (fun _ => ?_))
    refine p2_call (R := fun v w => BV v (0 ≤ x2.toInt ∧ x2.toInt < (F (P 0 8) 13).toInt) ∧ v = w) (p2_of v_cRoom (v_dRoom S) (fun a b h h' => ⟨h, h.eq h' (by rw [CX.rooms N.1])⟩)) ?_
    rintro v w ⟨b, rfl⟩
    rcases b with ⟨rfl, q⟩ | ⟨rfl, q⟩
    · refine p2_cl (fun _ => p2_cr (fun _ => ?_) (fun c => absurd c (by decide))) (fun c => absurd c (by decide))
      refine p2_r r_takes ?_
      rintro ⟨u, F6, A7, J8⟩ ⟨t1, cp⟩
      dsimp only at t1 cp ⊢
      obtain rfl : Fm = F6 := t1.symm
      refine p2_br (fun b hb => ?_)
      obtain ⟨-, wi, mb⟩ := X.ways G cp hb
      obtain ⟨u2, F10, A11, J12⟩ := b
      dsimp only at wi mb ⊢
      refine p2_l (mb p q) ?_
      rintro ⟨v5, P6, F7, A8, J9⟩ e5
      dsimp only at e5 ⊢
      refine p2_br (fun v13 h13 => ?_)
      have g13 := (gm h13).2.2
      rw [i_8 (by omega) (by omega)] at g13
      have w1 := (wi x1.toInt x2.toInt p.1 (by omega) q.1 (by omega)).1
      have e13 : v5.toInt = v13.toInt := e5.trans g13.symm
      have le : v13.toInt ≤ 1000000 := by
        have w2 : mx A11 x1.toInt x2.toInt ≤ 1000000 := w1.2
        omega
      refine p2_cl (fun c => ?_) (fun c => ?_)
      · rw [i_lt, lF] at c
        refine p2_cr (fun _ => p2_br (fun v15 h15 => p2_some (i_ext ?_))) (fun c2 => ?_)
        · have g15 := (gm h15).2.2
          rw [i_8 (by omega) (by omega)] at g15
          show v5.toInt = v15.toInt
          omega
        · rw [i_nne, lF] at c2
          omega
      · rw [i_nlt, lF] at c
        refine p2_cr (fun c2 => ?_) (fun _ => p2_some rfl)
        rw [i_ne, lF] at c2
        omega
    · exact p2_cl (fun c => absurd c (by decide)) (fun _ => p2_cr (fun c => absurd c (by decide)) (fun _ => p2_some rfl))
  · exact p2_cl (fun _ => p2_cr (fun _ => p2_some rfl) (fun c => absurd c (by decide))) (fun c => absurd c (by decide))
theorem v_dIn : po (d_in x1 x2 x3) (fun v => BV v (x2.toInt ≤ x1.toInt ∧ x1.toInt ≤ x3.toInt)) := by
  unfold d_in
  refine po_cond (fun c => po_some (.inr ⟨rfl, ?_⟩)) (fun c => ?_)
  · rw [i_lt] at c
    omega
  · rw [i_nlt] at c
    refine po_cond (fun c2 => po_some (.inr ⟨rfl, ?_⟩)) (fun c2 => po_some (.inl ⟨rfl, ?_⟩))
    · rw [i_gt] at c2
      omega
    · rw [i_ngt] at c2
      omega
theorem p2_where (X : XR P F A Fm Am) (G : Gc P F A) (S : SAm Fm Am) : P2 (e_SleepWork_where n P F A J x1 x2) (d_where m Fm Am Jm x1 x2) (fun a b => a.1 = b.1) := by
  have N := X.1
  have ct := N.ct
  have hs := N.sd
  have nn := N.nn
  unfold e_SleepWork_where d_where
  refine p2_call (R := fun v w => BV v (0 ≤ x1.toInt ∧ x1.toInt < (F (P 0 8) 17).toInt) ∧ v = w) (p2_of v_cMan (v_dMan S) (fun a b h h' => ⟨h, h.eq h' (by rw [CX.men N.1])⟩)) ?_
  rintro v w ⟨b, rfl⟩
  rcases b with ⟨rfl, p⟩ | ⟨rfl, p⟩
  · refine p2_cl (fun c => absurd c (by decide)) (fun _ => p2_cr (fun c => absurd c (by decide)) (fun _ => ?_))
    refine p2_br (fun v3 h3 => p2_r v_dIn (fun v4 b4 => ?_))
    have g3 := (gm h3).2.2
    rw [i_0] at b4
    rcases b4 with ⟨rfl, q⟩ | ⟨rfl, q⟩
    · refine p2_cr (fun _ => ?_) (fun c => absurd c (by decide))
      refine p2_cl (fun c => ?_) (fun _ => ?_)
      · rw [i_lt, i_0] at c
        omega
      refine p2_bl (fun _ hk => ?_)
      obtain rfl := (gg_chk hk).2.symm
      refine p2_cl (fun _ => ?_) (fun c => ?_)
      · refine p2_bl (fun _ hk => ?_)
        obtain rfl := (gg_chk hk).2.symm
        refine p2_bl (fun v7 h7 => p2_bl (fun v8 h8 => ?_))
        have g7 := (gl h7).2.2
        have g8 := (gl h8).2.2
        refine p2_r r_takes ?_
        rintro ⟨u, F7, A8, J9⟩ ⟨t1, cp⟩
        dsimp only at t1 cp ⊢
        obtain rfl : Fm = F7 := t1.symm
        refine p2_br (fun b hb => ?_)
        obtain ⟨⟨fF, fA⟩, -, mb⟩ := X.ways G cp hb
        obtain ⟨N7, B7, -, -, -⟩ := X.take cp
        obtain ⟨u2, F11, A12, J13⟩ := b
        dsimp only at fF fA mb ⊢
        obtain rfl : Fm = F11 := fF.symm
        refine p2_br (fun v14 h14 => p2_br (fun v15 h15 => ?_))
        have g14 := (gm h14).2.2
        have g15 := (gm h15).2.2
        rw [ix6 hs (by omega), ai_fr (fA 30 (by decide)), ← N7.hm p.1 p.2] at g14
        rw [kx1 (k := 42) (by decide) (by decide) (by omega), ai_fr (fA 48 (by decide))] at g15
        have y12 := N.hy.2.2.2.1 _ p.1 p.2
        have e7 : v7 = v14 := i_ext (by omega)
        obtain ⟨L, -⟩ := B7.mn p.1 p.2
        rw [← g8, ← g15] at L
        refine p2_cl (fun c => ?_) (fun c => ?_)
        · rw [i_ge, i_0] at c
          rcases L with ⟨a, -, -⟩ | ⟨t0, t1, u0, u1, ae⟩
          · omega
          have s6 := N.s6 t0
          have y4 := N.hy.2.1 _ t0 t1
          refine p2_bl (fun _ hk => ?_)
          obtain rfl := (gg_chk hk).2.symm
          refine p2_bl (fun v11 h11 => p2_bl (fun v12 h12 => ?_))
          have g11 : v11.toInt = v15.toInt := by
            rw [gg_div6 h11, i_div6 c]
            omega
          have g12 := (gl h12).2.2
          rw [g11] at g12
          refine p2_l (mb (x1 := v7) (x2 := v12) (by omega) (by omega)) ?_
          rintro ⟨v13, P14, F15, A16, J17⟩ e13
          dsimp only at e13 ⊢
          refine p2_cr (fun _ => ?_) (fun c2 => ?_)
          · refine p2_br (fun v17 h17 => p2_br (fun v18 h18 => p2_br (fun v19 h19 => ?_)))
            have g17 := (gm h17).2.2
            rw [kx1 (k := 42) (by decide) (by decide) (by omega), ai_fr (fA 48 (by decide)), ← g15] at g17
            have g18 := (gm h18).2.2
            rw [ix6 hs (by omega), ai_fr (fA 20 (by decide)), g17, ← N7.rm t0 t1] at g18
            have e12 : v12 = v18 := i_ext (by omega)
            have g19 := (gm h19).2.2
            rw [i_8 (by omega) (by omega), ← e12, ← e7] at g19
            have e19 : v13 = v19 := i_ext (e13.trans g19.symm)
            rw [← e19]
            refine p2_cl (fun c3 => p2_cr (fun _ => p2_some e7) (fun c4 => ?_)) (fun c3 => p2_cr (fun c4 => ?_) (fun _ => p2_some e12))
            · rw [c3] at c4
              cases c4
            · rw [c3] at c4
              cases c4
          · rw [i_nge, i_0] at c2
            omega
        · rw [i_nge, i_0] at c
          refine p2_cr (fun c2 => ?_) (fun _ => p2_some e7)
          rw [i_ge, i_0] at c2
          rcases L with ⟨-, a, -⟩ | ⟨t0, t1, u0, u1, ae⟩
          · omega
          · omega
      · rw [i_nle] at c
        omega
    · refine p2_cr (fun c => absurd c (by decide)) (fun _ => ?_)
      refine p2_cl (fun _ => p2_some rfl) (fun c => ?_)
      rw [i_nlt, i_0] at c
      refine p2_bl (fun _ hk => ?_)
      obtain rfl := (gg_chk hk).2.symm
      refine p2_cl (fun c2 => ?_) (fun _ => p2_some rfl)
      rw [i_le] at c2
      exact absurd ⟨c, by omega⟩ q
  · exact p2_cl (fun _ => p2_cr (fun _ => p2_some rfl) (fun c => absurd c (by decide))) (fun c => absurd c (by decide))
/-- the trial, on both sides: a copy of now -/
theorem XR.trial {z : cR Unit} (X : XR P F A Fm Am) (G : Gc P F A) (cp : CPm 47 48 0 0 0 Am A7) (h1 : ∀ r k, r ≠ 32 → F1 r k = F r k) (cv : CVv P F1 A 33 2 z) : NHx (P 0 8) z.2.2.1 z.2.2.2.1 Fm A7 ∧ SBx True (P 0 8) 33 z.2.2.1 z.2.2.2.1 A7 48 0 ∧ (z.2.2.1 33 7).toInt = ai A7 48 78 ∧ (z.2.2.1 33 8).toInt = ai A7 48 79 ∧ B7 (z.2.2.1 33 7) ∧ WCx (P 0 8) z.2.2.1 z.2.2.2.1 := by
  obtain ⟨N7, -, -, -, -⟩ := X.take cp
  obtain ⟨-, c2, c3, c4⟩ := cv
  have lv := G.live
  have hF8 : ∀ k, z.2.2.1 (P 0 8) k = F (P 0 8) k := fun k => (c2 _ k (by omega)).trans (h1 _ k (by omega))
  have hA8 : ∀ o, z.2.2.2.1 (P 0 8) o = A (P 0 8) o := fun o => c3 _ o (by omega)
  have t48 : ∀ i, 0 ≤ i → i < 100 → ai A7 48 i = ai Am 47 i := fun i i0 i1 => by
    have w := cp.2.1 i i0 i1
    rw [Int.zero_add] at w
    exact w
  have hS : SOK (SS (P 0 8) F A) := SS.ok X.1.ct.2.2.2.2.2
  have s : SS (P 0 8) F A (z.2.2.1 33) (z.2.2.2.1 33) (fun i => ai A7 48 i) := hS _ _ _ _ _ _ ((SE.of (fun k => h1 2 k (by decide)) (fun _ => rfl)).tr c4) t48 X.2.2.1.1
  obtain ⟨s1, s2, s3, s4, s5, s6, s7⟩ := s.hs (hF8 17) (hF8 16) (hA8 5)
  exact ⟨N7.fr hF8 (fun o _ => hA8 o) rfl (fun _ _ _ => rfl), SBx.mk0 s1 s2 s3 (fun m m0 m1 => ⟨(s4 m m0 m1).1, (s4 m m0 m1).2.1, (s4 m m0 m1).2.2.1, fun _ => (s4 m m0 m1).2.2.2⟩), s5, s6, s7.1, X.2.2.2.1.cg hF8 (fun o _ => hA8 o) ((c2 36 101 (by decide)).trans (h1 36 101 (by decide))) (c3 36 2 (by decide))⟩
/-- a night till a minute, on both sides -/
theorem p2_till {q : Nat} {E : Int} {ex : Prop} (H : NHx h F A Fm Am) (hq : c_kind q = 2) (S : SBx ex h q F A Am 48 0) (W : WCx h F A) (SH : SHx ex q F Am) (hsh : F q 7 ≠ -1) (AR : ∀ (m : Nat) (b : mR Unit), d_fillsWays m Fm Am Jm = some b → ∃ D, WDx h F A (F q 7) D ∧ ARx ex h (F h 18).toInt F A b.2.2.1 D) (ex1 : x1.toInt = E) (ey1 : y1.toInt = E) (EN : E ≤ (F h 18).toInt) : P2 (e_Sleep_goTill n P F A J x1 h q) (d_goesTill m Fm Am Jm y1) (fun a b => ∀ m : Int, 0 ≤ m → m < (F h 17).toInt → ci a.2.2.2.1 q 5 m = ai b.2.2.1 55 m) := by
  intro a b ha hb
  have y18 := H.hy.2.2.2.2
  have h36 : h ≠ 36 := k6ne H.kd
  unfold d_goesTill at hb
  obtain ⟨⟨u, F3, A3, J3⟩, hf, h6⟩ := Option.bind_eq_some_iff.mp hb
  obtain ⟨f3, a3⟩ := fw_d_fillsWays FW.rfl' _ hf
  obtain ⟨D, WD, ar⟩ := AR _ _ hf
  dsimp only at f3 a3 ar h6
  obtain rfl : Fm = F3 := f3.symm
  have H3 : NHx h F A Fm A3 := H.fr (fun _ => rfl) (fun _ _ => rfl) rfl (fun j _ _ => a3 j (by omega))
  have S3 : SBx ex h q F A A3 48 0 := S.cg rfl rfl rfl (fun _ _ _ => rfl) (a3 48 (by decide))
  have SH3 : SHx ex q F A3 := SH.cg rfl rfl (by rw [ai_fr (a3 48 (by decide))]) (by rw [ai_fr (a3 48 (by decide))])
  obtain ⟨P', F', hF', Q⟩ := p2_goTill (E := E) (N := (F h 18).toInt) H3 hq S3 W SH3 WD hsh ar EN y18.2 rfl ex1 ey1 a b ha h6
  obtain ⟨-, q5, -⟩ := Q
  rw [hF' h 17 (fun e => h36 e.1)] at q5
  exact q5
theorem p2_strokes (X : XR P F A Fm Am) (G : Gc P F A) (S : SAm Fm Am) (hn : 1500 ≤ n) : P2 (e_SleepWork_strokes n P F A J x1 x2) (d_strokes m Fm Am Jm x1 x2) (fun a b => a.1 = b.1) := by
  have N := X.1
  have ct := N.ct
  have nn := N.nn
  unfold e_SleepWork_strokes d_strokes
  refine p2_call (R := fun v w => BV v (0 ≤ x1.toInt ∧ x1.toInt < (F (P 0 8) 17).toInt) ∧ v = w) (p2_of v_cMan (v_dMan S) (fun a b h h' => ⟨h, h.eq h' (by rw [CX.men N.1])⟩)) ?_
  rintro v w ⟨b, rfl⟩
  rcases b with ⟨rfl, p⟩ | ⟨rfl, p⟩
  · refine p2_cl (fun c => absurd c (by decide)) (fun _ => p2_cr (fun c => absurd c (by decide)) (fun _ => ?_))
    refine p2_br (fun v3 h3 => p2_r v_dIn (fun v4 b4 => ?_))
    have g3 := (gm h3).2.2
    rw [i_0] at b4
    rcases b4 with ⟨rfl, q⟩ | ⟨rfl, q⟩
    · refine p2_cr (fun _ => ?_) (fun c => absurd c (by decide))
      refine p2_cl (fun c => ?_) (fun _ => ?_)
      · rw [i_lt, i_0] at c
        omega
      refine p2_bl (fun _ hk => ?_)
      obtain rfl := (gg_chk hk).2.symm
      refine p2_cl (fun _ => ?_) (fun c => ?_)
      · unfold e_Evening_strokesTill
        intro a b ha0 hb0
        obtain ⟨r, hr0, ha⟩ := Option.bind_eq_some_iff.mp ha0
        obtain ⟨z, hz, hr⟩ := Option.bind_eq_some_iff.mp hr0
        obtain ⟨⟨u, F7, A8, J9⟩, ht, hb⟩ := Option.bind_eq_some_iff.mp hb0
        obtain ⟨t1, cp⟩ := r_takes _ ht
        dsimp only at t1 cp hb
        obtain rfl : Fm = F7 := t1.symm
        have cv := v_copy (r0 := 33) (r1 := 2) (by decide) z hz
        obtain ⟨N8, B8, s7, s8, s0, W8⟩ := X.trial G cp (fun _ _ _ => rfl) cv
        obtain ⟨e1, q8, -, -⟩ := (q_trial G).po z hz
        have G8 := q8.g G
        have hF8 : ∀ k, z.2.2.1 (P 0 8) k = F (P 0 8) k := fun k => cv.2.1 _ k (fun e => absurd G.k08 (by rw [e]; decide))
        obtain ⟨uz, Pz, Fz, Az, Jz⟩ := z
        dsimp only at e1 s7 s8 s0 N8 B8 W8 G8 hF8 hr
        subst e1
        obtain ⟨q6, c6, hr⟩ := Option.bind_eq_some_iff.mp hr
        obtain rfl := (gg_chk c6).2.symm
        obtain ⟨w, hw, hr⟩ := Option.bind_eq_some_iff.mp hr
        obtain ⟨w2, hw2, hb⟩ := Option.bind_eq_some_iff.mp hb
        rw [G8.2.2.1] at hw
        have hsh : Fz 33 7 ≠ -1 := fun e => by rw [e] at s0; exact b7_m1 s0
        have e5 := p2_till (ex := True) (E := x2.toInt) N8 (by decide : c_kind 33 = 2) B8 W8 (fun _ => ⟨s7, s8⟩) hsh (fun m' b' hb' => AR_exact N8 G8.1 G8.2.2.2.1 B8 s7 hb') rfl rfl (by rw [hF8]; omega) w w2 hw hw2 x1.toInt p.1 (by rw [hF8]; exact p.2)
        obtain ⟨uw, Pw, Fw, Aw, Jw⟩ := w
        obtain ⟨uw2, Fw2, Aw2, Jw2⟩ := w2
        dsimp only at e5 hr hb
        obtain ⟨v12, h12, hr⟩ := Option.bind_eq_some_iff.mp hr
        obtain ⟨v14, h14, hb⟩ := Option.bind_eq_some_iff.mp hb
        obtain rfl := Option.some.inj hb
        obtain rfl := Option.some.inj hr
        obtain rfl := Option.some.inj ha
        show v12 = v14
        exact i_ext (by rw [(gl h12).2.2, (gm h14).2.2]; exact e5)
      · rw [i_nle] at c
        omega
    · refine p2_cr (fun c => absurd c (by decide)) (fun _ => ?_)
      refine p2_cl (fun _ => p2_some rfl) (fun c => ?_)
      rw [i_nlt, i_0] at c
      refine p2_bl (fun _ hk => ?_)
      obtain rfl := (gg_chk hk).2.symm
      refine p2_cl (fun c2 => ?_) (fun _ => p2_some rfl)
      rw [i_le] at c2
      exact absurd ⟨c, by omega⟩ q
  · exact p2_cl (fun _ => p2_cr (fun _ => p2_some rfl) (fun c => absurd c (by decide))) (fun c => absurd c (by decide))
/-- what a try wins, on both sides -/
theorem p2_trialGain (G : Gc P F A) (L : LVc A (P 0 8) 33) (H : NHx (P 0 8) F A Fm Am) (B : SBx True (P 0 8) 33 F A Am 48 0) (W : WCx (P 0 8) F A) (s7 : (F 33 7).toInt = ai Am 48 78) (s8 : (F 33 8).toInt = ai Am 48 79) (s0 : B7 (F 33 7)) (wv : ∀ (m0 : Nat) (J0 : Nat → Nat → Int64) (v0 : Int32), d_worthNow m0 Fm Am J0 = some v0 → v0 = F 32 5) (hn : 1400 ≤ n) : P2 (e_Evening_gainOfTrial n P F A J) (d_wholeNight m Fm Am Jm) (fun a b => a.1 = b.1) := by
  have hsh : F 33 7 ≠ -1 := fun e => by rw [e] at s0; exact b7_m1 s0
  unfold e_Evening_gainOfTrial
  refine p2_bl (fun _ hk => ?_)
  obtain rfl := (gg_chk hk).2.symm
  refine p2_bl (fun _ hk => ?_)
  obtain rfl := (gg_chk hk).2.symm
  intro a b ha hb
  obtain ⟨w, hw, ha⟩ := Option.bind_eq_some_iff.mp ha
  have y18 : (F (P 0 8) 18).toInt ≤ 600 := H.hy.2.2.2.2.2
  obtain ⟨qw, fw⟩ := (fq_goTill (n := n) (J := J) (x1 := F (P 32 4) 18) G L (by rw [G.2.2.1]; exact y18) hn).po w hw
  rw [G.2.2.1] at hw
  obtain ⟨⟨m0, m1, J0, J1, v0, v1, hv0, hv1, eb⟩, N2, B2, -, -⟩ := p2_wn (ex := True) H (by decide : c_kind 33 = 2) B W (fun _ => ⟨s7, s8⟩) hsh (fun m' b' hb' => AR_exact H G.1 G.2.2.2.1 B s7 hb') rfl w b hw hb
  have e0 := wv m0 J0 v0 hv0
  obtain ⟨u, P4, F5, A6, J7⟩ := w
  dsimp only at qw fw hv1 eb N2 B2 ha
  have e4 : P4 32 4 = P 0 8 := (qw.1.1 32 4 (by decide)).trans G.2.2.1
  obtain ⟨q8, c8, ha⟩ := Option.bind_eq_some_iff.mp ha
  obtain rfl := (gg_chk c8).2.symm
  obtain ⟨v9, h9, ha⟩ := Option.bind_eq_some_iff.mp ha
  rw [e4] at h9
  have e9 : v9 = v1 := p2_worthAll N2 (fun k k0 k1 => B2.dn k0 k1) v9 v1 h9 hv1
  obtain rfl := Option.some.inj ha
  show v9 - F5 32 5 = b.1
  rw [eb, e9, fw 5, e0]
theorem p2_gain (X : XR P F A Fm Am) (G : Gc P F A) (S : SAm Fm Am) (hn : 1500 ≤ n) : P2 (e_SleepWork_gain n P F A J) (d_gain m Fm Am Jm) (fun a b => a.1 = b.1) := by
  unfold e_SleepWork_gain d_gain
  intro a b ha hb
  obtain ⟨r, hr, ha⟩ := Option.bind_eq_some_iff.mp ha
  obtain ⟨⟨u, F2, A3, J4⟩, ht, hb⟩ := Option.bind_eq_some_iff.mp hb
  obtain ⟨t1, cp⟩ := r_takes _ ht
  dsimp only at t1 cp hb
  obtain rfl : Fm = F2 := t1.symm
  obtain ⟨w, hw, hb⟩ := Option.bind_eq_some_iff.mp hb
  unfold e_Evening_gainAsItIs at hr
  obtain ⟨q1, c1, hr⟩ := Option.bind_eq_some_iff.mp hr
  obtain rfl := (gg_chk c1).2.symm
  obtain ⟨v2, h2, hr⟩ := Option.bind_eq_some_iff.mp hr
  obtain ⟨F3, h3, hr⟩ := Option.bind_eq_some_iff.mp hr
  obtain ⟨z, hz, hr⟩ := Option.bind_eq_some_iff.mp hr
  obtain ⟨g, hg, hr⟩ := Option.bind_eq_some_iff.mp hr
  have U3 := gg_cpf h3
  have q3 := (QKc.rfl' (P := P) G.1).pf U3 trivial (by decide)
  have G3 := q3.g G
  have h1 : ∀ r k, r ≠ 32 → F3 r k = F r k := fun r k hr => U3.2 r k (fun e => hr e.1)
  have cv := v_copy (r0 := 33) (r1 := 2) (by decide) z hz
  obtain ⟨N8, B8, s7, s8, s0, W8⟩ := X.trial G cp h1 cv
  obtain ⟨e1, q8, L8, -⟩ := (q_trial G3).po z hz
  have G8 := q8.g G3
  have e5 : z.2.2.1 32 5 = v2 := (cv.2.1 32 5 (by decide)).trans U3.1
  obtain ⟨N, B, -, -, -⟩ := X.take cp
  obtain ⟨uz, Pz, Fz, Az, Jz⟩ := z
  dsimp only at e1 s7 s8 s0 N8 B8 W8 G8 L8 e5 hg
  subst e1
  rw [G.2.2.1] at h2
  have ev := p2_trialGain G8 L8 N8 B8 W8 s7 s8 s0 (fun m0 J0 v0 hv0 => by
    rw [e5]
    exact (p2_worthAll N (fun k k0 k1 => B.dn k0 k1) v2 v0 h2 hv0).symm) (by omega) g w hg hw
  obtain ⟨vg, Pg, Fg, Ag, Jg⟩ := g
  obtain ⟨vw, Fw, Aw, Jw⟩ := w
  obtain rfl := Option.some.inj hr
  obtain rfl := Option.some.inj ha
  obtain rfl := Option.some.inj hb
  exact ev
end H9fk
end Qz168
section Qz169
/-! count: the same answers -/
section H9fl
variable {n m : Nat} {P : Nat → Nat → Nat} {F : Nat → Nat → Int32} {A : Nat → Nat → Nat → Int32} {J : Nat → Nat → Nat → Int64} {Fm : Nat → Int32} {Am : Nat → Nat → Int32} {Jm : Nat → Nat → Int64} {x x1 : Int32}
/-- the bits that are set, as the library counts them -/
def bcx (x : Int32) : Int32 := (e_Integer_bitCount (fun _ _ => 0) (fun _ _ => 0) (fun _ _ _ => 0) (fun _ _ _ => 0) x).getD 0
/-- .. and one by one -/
def btk (x : Int32) : Nat → Int32
  | 0 => 0
  | k + 1 => btk x k + ((x >>> (Int32.ofNat k &&& 31)) &&& 1)
theorem v_bcx : po (e_Integer_bitCount P F A J x) (fun v => v = bcx x) := fun v h => (Option.some.inj h).symm
theorem b_cnt0 : (List.range 64).all (fun i => (List.range 64).all (fun j => decide (bcx (Int32.ofNat (64 * i + j)) = btk (Int32.ofNat (64 * i + j)) 12))) = true := by decide +kernel
theorem b_cnt (h : B7 x) : bcx x = btk x 12 := by
  obtain ⟨k, hk, rfl⟩ := b7_nat h
  have z := of_decide_eq_true (List.all_eq_true.mp (List.all_eq_true.mp b_cnt0 (k / 64) (List.mem_range.mpr (by omega))) (k % 64) (List.mem_range.mpr (by omega)))
  rw [show 64 * (k / 64) + k % 64 = k by omega] at z
  exact z
theorem v_bits4 : ∀ {n k : Nat} {x1 x2 : Int32}, x1 = btk x k → x2 = Int32.ofNat k → k ≤ 12 → po (d_bits_4 n Fm Am Jm x x1 x2) (fun v => v = btk x 12) := by
  have l12 : (12 : Int32).toInt = 12 := by decide
  intro n
  induction n with
  | zero => intro k x1 x2 _ _ _ v hv; cases hv
  | succ n ih =>
    intro k x1 x2 e1 e2 hk
    have t2 : x2.toInt = (k : Int) := by rw [e2]; exact Int32.toInt_ofNat_of_lt (by omega)
    unfold d_bits_4
    refine po_cond (fun c => po_some ?_) (fun c => ?_)
    · rw [i_ge, l12] at c
      rw [e1, show k = 12 by omega]
    · rw [i_nge, l12] at c
      have e21 := i_p1 (x := x2) (by omega)
      refine ih (k := k + 1) ?_ (i_ext ?_) (by omega)
      · rw [e1, e2]
        rfl
      · rw [e21, t2, Int32.toInt_ofNat_of_lt (by omega)]
        omega
theorem v_bits : po (d_bits n Fm Am Jm x) (fun v => v = btk x 12) := by
  unfold d_bits
  exact v_bits4 (k := 0) rfl rfl (by decide)
theorem if01 {p q : Prop} [Decidable p] [Decidable q] (h : p ↔ q) : (if p then (0 : Int32) else 1) = if q then 0 else 1 := by
  by_cases c : p
  · rw [if_pos c, if_pos (h.mp c)]
  · rw [if_neg c, if_neg (fun e => c (h.mpr e))]
theorem b_held : ∀ n : Fin 8, bcx (Int32.ofNat n.val) = (if (Int32.ofNat n.val &&& (1 <<< (Int32.ofNat 0 &&& 31))) = 0 then 0 else 1) + (if (Int32.ofNat n.val &&& (1 <<< (Int32.ofNat 1 &&& 31))) = 0 then 0 else 1) + (if (Int32.ofNat n.val &&& (1 <<< (Int32.ofNat 2 &&& 31))) = 0 then 0 else 1) := by decide +kernel
theorem r_189 {s0 s1 : Int32} : po (d_count_189 n Fm Am Jm s0 s1) (fun b => b.1 = s0 + s1 + (if Am 61 2 = 0 then 0 else 1)) := by
  unfold d_count_189
  refine po_bl (fun v h => ?_)
  have e : v = Am 61 2 := (gg_ld h).2.2
  refine po_cond (fun c => po_some ?_) (fun c => po_some ?_)
  · rw [i_eq] at c
    rw [if_pos (e.symm.trans (i_ext c))]
  · rw [i_neq] at c
    rw [if_neg (fun z => c (by rw [e, z]))]
theorem r_175 {s0 : Int32} : po (d_count_175 n Fm Am Jm s0) (fun b => b.1 = s0 + (if Am 61 1 = 0 then 0 else 1) + (if Am 61 2 = 0 then 0 else 1)) := by
  unfold d_count_175
  refine po_bl (fun v h => ?_)
  have e : v = Am 61 1 := (gg_ld h).2.2
  refine po_cond (fun c => po_mono r_189 (fun b hb => ?_)) (fun c => po_mono r_189 (fun b hb => ?_))
  · rw [i_eq] at c
    rw [if_pos (e.symm.trans (i_ext c)), hb]
  · rw [i_neq] at c
    rw [if_neg (show ¬ Am 61 1 = 0 from fun z => c (by rw [e, z])), hb]
theorem p2_count (X : XR P F A Fm Am) (G : Gc P F A) (tp : TPx F A Fm Am) : P2 (e_SleepWork_count n P F A J x1) (d_count m Fm Am Jm x1) (fun a b => a = b.1) := by
  have N := X.1
  have C := X.2.1
  obtain ⟨y1, y2, y3, y4, y5, y6, y7⟩ := X.2.2.1.1
  unfold e_SleepWork_count d_count
  refine p2_dd (fun _ => ?_) (fun _ => ?_)
  · refine p2_bl (fun _ hk => ?_)
    obtain rfl := (gg_chk hk).2.symm
    refine p2_br (fun v h => p2_some ?_)
    exact (CX.rooms N.1).trans (gg_ld h).2.2.symm
  refine p2_dd (fun _ => ?_) (fun _ => ?_)
  · refine p2_bl (fun _ hk => ?_)
    obtain rfl := (gg_chk hk).2.symm
    refine p2_br (fun v h => p2_some ?_)
    exact N.1.2.1.trans (gg_ld h).2.2.symm
  refine p2_dd (fun _ => ?_) (fun _ => ?_)
  · refine p2_bl (fun _ hk => ?_)
    obtain rfl := (gg_chk hk).2.symm
    refine p2_br (fun v h => p2_some ?_)
    exact (CX.tools N.1).trans (gg_ld h).2.2.symm
  refine p2_dd (fun _ => ?_) (fun _ => ?_)
  · refine p2_bl (fun _ hk => ?_)
    obtain rfl := (gg_chk hk).2.symm
    exact p2_r v_tasksNow (fun v q => p2_some (i_ext (N.tks.trans q.symm)))
  refine p2_dd (fun _ => ?_) (fun _ => ?_)
  · refine p2_bl (fun _ hk => ?_)
    obtain rfl := (gg_chk hk).2.symm
    exact p2_r v_menNow (fun v q => p2_some (i_ext (N.men.trans q.symm)))
  refine p2_dd (fun _ => ?_) (fun _ => ?_)
  · refine p2_bl (fun _ hk => ?_)
    obtain rfl := (gg_chk hk).2.symm
    exact p2_br (fun v h => p2_some (i_ext (N.nn.trans (gm h).2.2.symm)))
  refine p2_dd (fun _ => ?_) (fun _ => ?_)
  · exact p2_br (fun v h => p2_some (i_ext (y6.trans (gm h).2.2.symm)))
  refine p2_dd (fun _ => ?_) (fun _ => ?_)
  · refine p2_l v_bcx (fun v8 q8 => p2_br (fun v9 h9 => p2_r v_bits (fun v10 q10 => p2_some ?_)))
    have e9 : v9 = F 2 7 := i_ext ((gm h9).2.2.trans y5.symm)
    show v8 = v10
    rw [q8, q10, e9]
    exact b_cnt y7.1
  refine p2_dd (fun _ => ?_) (fun _ => ?_)
  · refine p2_bl (fun _ hk => ?_)
    obtain rfl := (gg_chk hk).2.symm
    refine p2_r r_takes ?_
    rintro ⟨u, F4, A5, J6⟩ ⟨t1, cp⟩
    dsimp only at t1 cp ⊢
    obtain rfl : Fm = F4 := t1.symm
    obtain ⟨N5, B5, -, -, -⟩ := X.take cp
    refine p2_call (p2_worthAll N5 (fun k k0 k1 => B5.dn k0 k1)) ?_
    rintro v w e
    exact p2_some e
  refine p2_dd (fun _ => p2_some tp.1) (fun _ => ?_)
  refine p2_dd (fun _ => p2_some C.2.1) (fun _ => ?_)
  refine p2_dd (fun _ => p2_some C.1) (fun _ => ?_)
  refine p2_dd (fun _ => ?_) (fun _ => p2_some rfl)
  have r0 : 0 ≤ (F 0 10).toInt ∧ (F 0 10).toInt ≤ 7 := by
    have := G.1.1 0 10
    rw [show c_kind 0 = 0 by decide] at this
    exact this
  have cs : ∀ s : Nat, s < 3 → ((F 0 10 &&& (1 <<< (Int32.ofNat s &&& 31))) = 0 ↔ Am 61 s = 0) := fun s hs => by
    have c := C.2.2 s hs
    unfold HB at c
    exact ⟨fun e => Classical.byContradiction (fun hn => c.mpr hn e), fun e => Classical.byContradiction (fun hn => c.mp hn e)⟩
  refine p2_l v_bcx (fun v8 q8 => p2_br (fun v16 h16 => ?_))
  have e16 : v16 = Am 61 0 := (gg_ld h16).2.2
  have bh := b_held ⟨(F 0 10).toInt.toNat, by omega⟩
  have ex : F 0 10 = Int32.ofNat (F 0 10).toInt.toNat := i_nat r0.1
  dsimp only at bh
  rw [← ex, if01 (cs 0 (by decide)), if01 (cs 1 (by decide)), if01 (cs 2 (by decide))] at bh
  have fin : ∀ {s0 : Int32}, s0 = (if Am 61 0 = 0 then 0 else 1) → P2 (some v8) (d_count_175 m Fm Am Jm s0) (fun a b => a = b.1) := fun {s0} hs => p2_of (po_some (R := fun a => a = v8) rfl) r_175 (fun a b ha hb => by rw [ha, hb, q8, bh, hs])
  refine p2_cr (fun c => fin ?_) (fun c => fin ?_)
  · rw [i_eq] at c
    rw [if_pos (e16.symm.trans (i_ext c))]
  · rw [i_neq] at c
    rw [if_neg (fun z => c (by rw [e16, z]))]
end H9fl
end Qz169
section Qz170
/-! what may be left, counted; a trial with what is left; what is known, on both sides -/
section H9fm
variable {n m h : Nat} {t u k : Int} {c : Int → Int} {P P' : Nat → Nat → Nat} {F F' F1 : Nat → Nat → Int32} {A A' : Nat → Nat → Nat → Int32} {J : Nat → Nat → Nat → Int64} {Fm Fm' : Nat → Int32} {Am Am' A7 : Nat → Nat → Int32} {Jm : Nat → Nat → Int64} {x1 x2 x3 x4 y1 y2 y3 : Int32}
/-- how many lefts there are below k, and nothing -/
def rk (c : Int → Int) : Nat → Int
  | 0 => 1
  | k + 1 => rk c k + (if (k : Int) % 6 < c ((k : Int) / 6) then 1 else 0)
/-- how many steps the tasks below t have -/
def sp (c : Int → Int) : Nat → Int
  | 0 => 0
  | t + 1 => sp c t + c (t : Int)
theorem rk_s (c : Int → Int) (k : Nat) : rk c (k + 1) = rk c k + (if (k : Int) % 6 < c ((k : Int) / 6) then 1 else 0) := rfl
theorem sp_s (c : Int → Int) (t : Nat) : sp c (t + 1) = sp c t + c (t : Int) := rfl
theorem rk_pos {c : Int → Int} : ∀ {k : Nat}, 1 ≤ rk c k
  | 0 => Int.le_refl _
  | k + 1 => by
    have := rk_pos (c := c) (k := k)
    rw [rk_s]
    split <;> omega
theorem rk_mono {c : Int → Int} {k : Nat} : ∀ {l : Nat}, k ≤ l → rk c k ≤ rk c l
  | 0, h => by
    obtain rfl : k = 0 := by omega
    exact Int.le_refl _
  | l + 1, h => by
    by_cases e : k = l + 1
    · rw [e]
      exact Int.le_refl _
    · have := rk_mono (c := c) (k := k) (l := l) (by omega)
      rw [rk_s]
      split <;> omega
theorem rk_in {c : Int → Int} (hc : ∀ t, 0 ≤ t → 0 ≤ c t ∧ c t ≤ 6) (t : Nat) : ∀ {u : Nat}, u ≤ 6 → rk c (6 * t + u) = rk c (6 * t) + (if (u : Int) ≤ c t then (u : Int) else c t)
  | 0, _ => by
    have := hc t (by omega)
    rw [if_pos (by omega)]
    show rk c (6 * t) = rk c (6 * t) + ((0 : Nat) : Int)
    omega
  | u + 1, h => by
    have := hc t (by omega)
    have ih := rk_in hc t (u := u) (by omega)
    have e : 6 * t + (u + 1) = (6 * t + u) + 1 := by omega
    rw [e, rk_s, ih]
    have a : ((6 * t + u : Nat) : Int) % 6 = (u : Int) := by omega
    have b : ((6 * t + u : Nat) : Int) / 6 = (t : Int) := by omega
    rw [a, b]
    by_cases z : (u : Int) < c t
    · rw [if_pos (by omega), if_pos z, if_pos (by omega)]
      omega
    · rw [if_neg z]
      by_cases z2 : (u : Int) ≤ c t
      · rw [if_pos z2, if_neg (by omega)]
        omega
      · rw [if_neg z2, if_neg (by omega)]
        omega
theorem rk_sp {c : Int → Int} (hc : ∀ t, 0 ≤ t → 0 ≤ c t ∧ c t ≤ 6) : ∀ {t : Nat}, rk c (6 * t) = 1 + sp c t
  | 0 => rfl
  | t + 1 => by
    have := hc t (by omega)
    have ih := rk_sp hc (t := t)
    have w := rk_in hc t (u := 6) (by omega)
    have e : 6 * (t + 1) = 6 * t + 6 := by omega
    rw [e, w, ih, sp_s]
    by_cases z : ((6 : Nat) : Int) ≤ c t
    · rw [if_pos z]
      omega
    · rw [if_neg z]
      omega
theorem sp_mono {c : Int → Int} (hc : ∀ t, 0 ≤ t → 0 ≤ c t ∧ c t ≤ 6) {t : Nat} : ∀ {s : Nat}, t ≤ s → sp c t ≤ sp c s
  | 0, h => by
    obtain rfl : t = 0 := by omega
    exact Int.le_refl _
  | s + 1, h => by
    by_cases e : t = s + 1
    · rw [e]
      exact Int.le_refl _
    · have := sp_mono hc (t := t) (s := s) (by omega)
      have := hc s (by omega)
      rw [sp_s]
      omega
theorem sp_0 {c : Int → Int} {t : Nat} (hz : ∀ j : Nat, t ≤ j → j < 6 → c j = 0) : ∀ {s : Nat}, t ≤ s → s ≤ 6 → sp c s = sp c t
  | 0, h, _ => by
    obtain rfl : t = 0 := by omega
    rfl
  | s + 1, h, h6 => by
    by_cases e : t = s + 1
    · rw [e]
    · rw [sp_s, hz s (by omega) (by omega), sp_0 hz (s := s) (by omega) (by omega)]
      omega
/-- the reference has put down what a man leaves -/
def LVd (Fm : Nat → Int32) (Am : Nat → Nat → Int32) (m t u : Int) (r : mR Int32) : Prop := (r.1 = 1 ∧ r.2.1 = Fm) ∧ (∀ q, q ≠ 48 → r.2.2.1 q = Am q) ∧ (ai r.2.2.1 48 (42 + m) = t ∧ ai r.2.2.1 48 (48 + m) = u) ∧ ∀ i, 0 ≤ i → i ≠ 42 + m → i ≠ 48 + m → ai r.2.2.1 48 i = ai Am 48 i
theorem r_leaves60 (hm : 0 ≤ x1.toInt ∧ x1.toInt < 6) : po (d_leaves_60 n Fm Am Jm x1 x3 x4) (LVd Fm Am x1.toInt (if 0 ≤ x3.toInt then x4.toInt else -1) (if 0 ≤ x3.toInt then x3.toInt else -1)) := by
  have i42 := kx1 (c := 42) (x := x1) (k := 42) (by decide) (by decide) (by omega)
  have i48 := kx1 (c := 48) (x := x1) (k := 48) (by decide) (by decide) (by omega)
  have lm : (-1 : Int32).toInt = -1 := by decide
  have f : ∀ {s2 : Int32}, po (d_leaves_78 n Fm Am Jm x1 x3 (42 + x1) s2) (LVd Fm Am x1.toInt s2.toInt (if 0 ≤ x3.toInt then x3.toInt else -1)) := by
    intro s2
    have g : ∀ {A11 : Nat → Nat → Int32} {s3 : Int32}, (∀ q, q ≠ 48 → A11 q = Am q) → ai A11 48 (42 + x1.toInt) = s2.toInt → (∀ i, 0 ≤ i → i ≠ 42 + x1.toInt → ai A11 48 i = ai Am 48 i) → po (d_leaves_96 n Fm A11 Jm (48 + x1) s3) (LVd Fm Am x1.toInt s2.toInt s3.toInt) := by
      intro A11 s3 a1 a2 a3
      unfold d_leaves_96
      refine po_bl (fun A13 h13 => po_some ?_)
      have M := gg_st h13
      rw [i48] at M
      exact ⟨⟨rfl, rfl⟩, fun q hq => (M.2.2.1 q hq).trans (a1 q hq), ⟨(M.2.2.2.2 _ (by omega) (by omega)).trans a2, M.2.2.2.1⟩, fun i i0 h1 h2 => (M.2.2.2.2 i i0 h2).trans (a3 i i0 h1)⟩
    unfold d_leaves_78
    refine po_bl (fun A11 h11 => ?_)
    have M := gg_st h11
    rw [i42] at M
    refine po_cond (fun c => ?_) (fun c => ?_)
    · rw [i_ge, i_0] at c
      rw [if_pos c]
      exact g M.2.2.1 M.2.2.2.1 M.2.2.2.2
    · rw [i_nge, i_0] at c
      rw [if_neg (by omega), ← lm]
      exact g M.2.2.1 M.2.2.2.1 M.2.2.2.2
  unfold d_leaves_60
  refine po_cond (fun c => ?_) (fun c => ?_)
  · rw [i_ge, i_0] at c
    have z := f (s2 := x4)
    rw [if_pos c] at z ⊢
    rw [if_pos c]
    exact z
  · rw [i_nge, i_0] at c
    have z := f (s2 := -1)
    rw [if_neg (by omega), lm] at z
    rw [if_neg (by omega), if_neg (by omega)]
    exact z
theorem r_leaves7 (H : NHx h F A Fm Am) (hm : 0 ≤ x1.toInt ∧ x1.toInt < 6) (t0 : 0 ≤ t) (t1 : t < (F h 16).toInt) (u0 : 0 ≤ u) (u1 : u < ci A h 5 t) : ∀ {n : Nat} {x3 x4 : Int32}, 0 ≤ x4.toInt → x4.toInt ≤ t → x3.toInt = sp (ci A h 5) t.toNat - sp (ci A h 5) x4.toInt.toNat + u → po (d_leaves_7 n Fm Am Jm x1 x3 x4) (LVd Fm Am x1.toInt t u) := by
  have ct := H.ct
  have hs := H.sd
  have hk := H.tks
  have hc : ∀ t, 0 ≤ t → 0 ≤ ci A h 5 t ∧ ci A h 5 t ≤ 6 := fun t t0 => H.s6 t0
  intro n
  induction n with
  | zero => intro x3 x4 _ _ _ a ha; cases ha
  | succ n ih =>
    intro x3 x4 a0 a1 e3
    have e4 : ((x4.toInt.toNat : Nat) : Int) = x4.toInt := by omega
    have et : ((t.toNat : Nat) : Int) = t := by omega
    have mono := sp_mono hc (t := x4.toInt.toNat) (s := t.toNat) (by omega)
    have end45 : x4.toInt = t → po (d_leaves_45 n Fm Am Jm x1 x3 x4) (LVd Fm Am x1.toInt t u) := fun e => by
      rw [e] at e3
      have e3' : x3.toInt = u := by omega
      unfold d_leaves_45
      refine po_call v_tasksNow (fun v7 q7 => ?_)
      refine po_cond (fun _ => ?_) (fun c => ?_)
      · have z := r_leaves60 (n := n) (Fm := Fm) (Am := Am) (Jm := Jm) (x3 := x3) (x4 := x4) hm
        rw [if_pos (by omega), if_pos (by omega), e, e3'] at z
        exact z
      · rw [i_nne] at c
        omega
    unfold d_leaves_7
    refine po_cond (fun c => ?_) (fun c => ?_)
    · rw [i_lt, i_0] at c
      omega
    refine po_call v_tasksNow (fun v2 q2 => ?_)
    refine po_cond (fun c2 => ?_) (fun c2 => ?_)
    · rw [i_ge] at c2
      omega
    refine po_call (v_steps hs (by omega)) (fun v4 q4 => ?_)
    rw [← H.stp a0 (by omega)] at q4
    have c4 := hc x4.toInt a0
    by_cases e : x4.toInt = t
    · refine po_cond (fun _ => end45 e) (fun c3 => ?_)
      rw [i_nlt] at c3
      rw [e] at e3 q4
      omega
    · have step := sp_s (ci A h 5) x4.toInt.toNat
      rw [e4] at step
      have mono2 := sp_mono hc (t := x4.toInt.toNat + 1) (s := t.toNat) (by omega)
      have e41 := i_p1 (x := x4) (by omega)
      refine po_cond (fun c3 => ?_) (fun c3 => ?_)
      · rw [i_lt] at c3
        omega
      refine po_call (v_steps hs (by omega)) (fun v6 q6 => ?_)
      rw [← H.stp a0 (by omega)] at q6
      rw [i_nlt] at c3
      have r3 := i_rng x3
      have e36 : (x3 - v6).toInt = x3.toInt - v6.toInt := i_sub (by omega) (by omega)
      refine ih (by omega) (by omega) ?_
      rw [e36, e41, show (x4.toInt + 1).toNat = x4.toInt.toNat + 1 by omega, step]
      omega
/-- the reference's options are the class's lefts, in their order -/
theorem r_leaves (H : NHx h F A Fm Am) (hm : 0 ≤ x1.toInt ∧ x1.toInt < 6) {k : Nat} (k1 : k < 36) (hv : (k : Int) % 6 < ci A h 5 ((k : Int) / 6)) (e : y3.toInt = rk (ci A h 5) k) : po (d_leaves n Fm Am Jm x1 y3) (LVd Fm Am x1.toInt ((k : Int) / 6) ((k : Int) % 6)) := by
  have ct := H.ct
  have hc : ∀ t, 0 ≤ t → 0 ≤ ci A h 5 t ∧ ci A h 5 t ≤ 6 := fun t t0 => H.s6 t0
  have t1 : (k : Int) / 6 < (F h 16).toInt := by
    by_cases z : (k : Int) / 6 < (F h 16).toInt
    · exact z
    · have := H.z6 (t := (k : Int) / 6) (by omega) (by omega) (by omega)
      omega
  have ek : k = 6 * (k / 6) + k % 6 := by omega
  have w := rk_in hc (k / 6) (u := k % 6) (by omega)
  rw [← ek, rk_sp hc] at w
  have e6 : ((k / 6 : Nat) : Int) = (k : Int) / 6 := by omega
  have e7 : ((k % 6 : Nat) : Int) = (k : Int) % 6 := by omega
  rw [e6, e7, if_pos (by omega)] at w
  have r3 := i_rng y3
  have p := rk_pos (c := ci A h 5) (k := k)
  have em : (y3 - 1).toInt = y3.toInt - 1 := by rw [i_sub (by rw [i_1]; omega) (by rw [i_1]; omega), i_1]
  unfold d_leaves
  refine r_leaves7 H hm (by omega) t1 (by omega) hv (by decide) (by rw [i_0]; omega) ?_
  rw [em, e, w, i_0, show ((k : Int) / 6).toNat = k / 6 by omega]
  show 1 + sp (ci A h 5) (k / 6) + (k : Int) % 6 - 1 = sp (ci A h 5) (k / 6) - 0 + (k : Int) % 6
  omega
theorem r_leaves0 (H : NHx h F A Fm Am) (hm : 0 ≤ x1.toInt ∧ x1.toInt < 6) (e : y3.toInt = 0) : po (d_leaves n Fm Am Jm x1 y3) (LVd Fm Am x1.toInt (-1) (-1)) := by
  have em : (y3 - 1).toInt = -1 := by rw [i_sub (by rw [i_1]; omega) (by rw [i_1]; omega), i_1]; omega
  have f45 : po (d_leaves_45 0 Fm Am Jm x1 (y3 - 1) 0) (LVd Fm Am x1.toInt (-1) (-1)) ∧ ∀ n, po (d_leaves_45 n Fm Am Jm x1 (y3 - 1) 0) (LVd Fm Am x1.toInt (-1) (-1)) := by
    have f : ∀ n, po (d_leaves_45 n Fm Am Jm x1 (y3 - 1) 0) (LVd Fm Am x1.toInt (-1) (-1)) := fun n => by
      have z := r_leaves60 (n := n) (Fm := Fm) (Am := Am) (Jm := Jm) (x3 := y3 - 1) (x4 := 0) hm
      rw [if_neg (by omega), if_neg (by omega)] at z
      unfold d_leaves_45
      refine po_call v_tasksNow (fun v7 q7 => ?_)
      refine po_cond (fun _ => z) (fun _ => po_cond (fun _ => z) (fun c => ?_))
      rw [i_nlt, i_0] at c
      omega
    exact ⟨f 0, f⟩
  unfold d_leaves
  cases n with
  | zero => intro a ha; cases ha
  | succ n =>
    unfold d_leaves_7
    refine po_cond (fun _ => f45.2 n) (fun c => ?_)
    rw [i_nlt, i_0] at c
    omega
theorem r_options4 (H : NHx h F A Fm Am) : ∀ {n : Nat} {x1 x2 : Int32}, 0 ≤ x2.toInt → x2.toInt ≤ (F h 16).toInt → x1.toInt = 1 + sp (ci A h 5) x2.toInt.toNat → po (d_options_4 n Fm Am Jm x1 x2) (fun v => v.toInt = 1 + sp (ci A h 5) (F h 16).toInt.toNat) := by
  have ct := H.ct
  have hs := H.sd
  have hk := H.tks
  have hc : ∀ t, 0 ≤ t → 0 ≤ ci A h 5 t ∧ ci A h 5 t ≤ 6 := fun t t0 => H.s6 t0
  intro n
  induction n with
  | zero => intro x1 x2 _ _ _ a ha; cases ha
  | succ n ih =>
    intro x1 x2 a0 a1 e1
    unfold d_options_4
    refine po_call v_tasksNow (fun v2 q2 => ?_)
    refine po_cond (fun c => po_some ?_) (fun c => ?_)
    · rw [i_ge] at c
      rw [e1, show x2.toInt = (F h 16).toInt by omega]
    · rw [i_nge] at c
      refine po_call (v_steps hs (by omega)) (fun v3 q3 => ?_)
      rw [← H.stp a0 (by omega)] at q3
      have c4 := hc x2.toInt a0
      have step := sp_s (ci A h 5) x2.toInt.toNat
      rw [show ((x2.toInt.toNat : Nat) : Int) = x2.toInt by omega] at step
      have e21 := i_p1 (x := x2) (by omega)
      have le : ∀ t : Nat, t ≤ 6 → sp (ci A h 5) t ≤ 6 * (t : Int) := fun t => by
        induction t with
        | zero => intro _; exact Int.le_refl _
        | succ t ih =>
          intro ht
          have := ih (by omega)
          have := hc t (by omega)
          rw [sp_s]
          omega
      have l6 := le x2.toInt.toNat (by omega)
      have m0 := sp_mono hc (t := 0) (s := x2.toInt.toNat) (by omega)
      have z0 : sp (ci A h 5) 0 = 0 := rfl
      have e13 : (x1 + v3).toInt = x1.toInt + v3.toInt := i_add (by omega) (by omega)
      refine ih (by omega) (by omega) ?_
      rw [e13, e21, show (x2.toInt + 1).toNat = x2.toInt.toNat + 1 by omega, step]
      omega
theorem r_options (H : NHx h F A Fm Am) : po (d_options n Fm Am Jm) (fun v => v.toInt = rk (ci A h 5) 36) := by
  have ct := H.ct
  have hc : ∀ t, 0 ≤ t → 0 ≤ ci A h 5 t ∧ ci A h 5 t ≤ 6 := fun t t0 => H.s6 t0
  unfold d_options
  refine po_mono (r_options4 H (by decide) (by rw [i_0]; omega) (by rw [i_0, i_1]; rfl)) (fun v e => ?_)
  have w := rk_sp hc (t := 6)
  have z := sp_0 (c := ci A h 5) (t := (F h 16).toInt.toNat) (fun j h1 h2 => H.z6 (by omega) (by omega) (by omega)) (s := 6) (by omega) (by omega)
  rw [e, ← z]
  exact w.symm
theorem v_mayBe (h6 : ∀ t, 0 ≤ t → ci A h 5 t ≤ 6) : po (e_House_mayBeLeft P F A J h x1) (fun v => BV v (x1.toInt < 0 ∨ (0 ≤ x1.toInt ∧ x1.toInt % 6 < ci A h 5 (x1.toInt / 6)))) := by
  unfold e_House_mayBeLeft
  refine po_cond (fun c => po_some (.inl ⟨rfl, ?_⟩)) (fun c => ?_)
  · rw [i_lt, i_0] at c
    exact .inl c
  · rw [i_nlt, i_0] at c
    refine po_bl (fun v2 h2 => po_bl (fun v3 h3 => po_bl (fun v4 h4 => ?_)))
    have g2 : v2.toInt = x1.toInt % 6 := by rw [gg_rem6 h2, i_rem6 c]
    have g3 : v3.toInt = x1.toInt / 6 := by rw [gg_div6 h3, i_div6 c]
    have g4 := (gl h4).2.2
    rw [g3] at g4
    refine po_cond (fun c2 => po_some (.inr ⟨rfl, ?_⟩)) (fun c2 => po_some (.inl ⟨rfl, ?_⟩))
    · rw [i_ge] at c2
      omega
    · rw [i_nge] at c2
      exact .inr ⟨c, by omega⟩
end H9fm
end Qz170
section Qz171
/-! tries with what is left, on both sides: what is known of them
-/
section H9fn
variable {n m h : Nat} {t u k N : Int} {P P' : Nat → Nat → Nat} {F F' F1 : Nat → Nat → Int32} {A A' : Nat → Nat → Nat → Int32} {J : Nat → Nat → Nat → Int64} {Fm Fm' : Nat → Int32} {Am Am' A7 : Nat → Nat → Int32} {Jm : Nat → Nat → Int64} {x1 x2 x3 x4 y1 y2 y3 : Int32}
theorem p2_dd' {γ δ : Type} {c : Bool} {x y : Option γ} {z w : Option δ} {Q : γ → δ → Prop} (h1 : c = true → P2 x z Q) (h2 : c = false → P2 y w Q) : P2 (cond c x y) (cond c z w) Q := by
  cases c with
  | true => exact h1 rfl
  | false => exact h2 rfl
/-- the first k things told, on both sides -/
def TK (k : Int) (F : Nat → Nat → Int32) (A : Nat → Nat → Nat → Int32) (Am : Nat → Nat → Int32) : Prop := k ≤ (F 25 2).toInt ∧ ∀ i : Int, 0 ≤ i → i < k → (ci A 25 1 i = 6 * ai Am 58 i + ai Am 59 i ∧ ci A 25 2 i = ai Am 60 i) ∧ (0 ≤ ai Am 58 i ∧ ai Am 58 i ≤ 5) ∧ (0 ≤ ai Am 59 i ∧ ai Am 59 i ≤ 5)
/-- the house in use, the evening of now and the first k things told, on both sides -/
def ZN (k : Int) (P : Nat → Nat → Nat) (F : Nat → Nat → Int32) (A : Nat → Nat → Nat → Int32) (Fm : Nat → Int32) (Am : Nat → Nat → Int32) : Prop := NHx (P 0 8) F A Fm Am ∧ YN (SS (P 0 8) F A) F A Am ∧ TK k F A Am
/-- between tries -/
def IX (k : Int) (P : Nat → Nat → Nat) (F : Nat → Nat → Int32) (A : Nat → Nat → Nat → Int32) (Fm : Nat → Int32) (Am : Nat → Nat → Int32) : Prop := ZN k P F A Fm Am ∧ Gc P F A ∧ WCx (P 0 8) F A
theorem XR.ix (X : XR P F A Fm Am) (G : Gc P F A) (S : SAm Fm Am) (hk : k ≤ (F 25 2).toInt) : IX k P F A Fm Am := ⟨⟨X.1, X.2.2.1.1, hk, fun i i0 i1 => ⟨X.2.2.2.2 i i0 (by omega), S.2.1 58 i i0, S.2.1 59 i i0⟩⟩, G, X.2.2.2.1⟩
theorem SE.sm {f f' : Nat → Int32} {a a' : Nat → Nat → Int32} (h : SE f f' a a') : SE f' f a' a := ⟨h.1.symm, h.2.1.symm, fun i hi => (h.2.2.1 i hi).symm, fun o i a b c => (h.2.2.2 o i a b c).symm⟩
/-- the class's house in use, evening of now and first k things told are the same -/
def VW (k : Int) (P : Nat → Nat → Nat) (F : Nat → Nat → Int32) (A : Nat → Nat → Nat → Int32) (P' : Nat → Nat → Nat) (F' : Nat → Nat → Int32) (A' : Nat → Nat → Nat → Int32) : Prop := P' 0 8 = P 0 8 ∧ (∀ j, F' (P 0 8) j = F (P 0 8) j) ∧ (∀ o, o ≠ 17 → A' (P 0 8) o = A (P 0 8) o) ∧ SE (F 2) (F' 2) (A 2) (A' 2) ∧ (k ≤ (F 25 2).toInt ↔ k ≤ (F' 25 2).toInt) ∧ ∀ (o : Nat) (i : Int), 0 ≤ i → i < k → ci A' 25 o i = ci A 25 o i
theorem VW.rfl' : VW k P F A P F A := ⟨rfl, fun _ => rfl, fun _ _ => rfl, SE.rfl', Iff.rfl, fun _ _ _ _ => rfl⟩
theorem VW.sm (V : VW k P F A P' F' A') : VW k P' F' A' P F A := by
  obtain ⟨e8, hF, hA, se, kk, tk⟩ := V
  exact ⟨e8.symm, fun j => by rw [e8]; exact (hF j).symm, fun o ho => by rw [e8]; exact (hA o ho).symm, se.sm, kk.symm, fun o i i0 i1 => (tk o i i0 i1).symm⟩
theorem VW.tr {P1 : Nat → Nat → Nat} {A1 : Nat → Nat → Nat → Int32} (V : VW k P F A P1 F1 A1) (W : VW k P1 F1 A1 P' F' A') : VW k P F A P' F' A' := by
  obtain ⟨e8, hF, hA, se, kk, tk⟩ := V
  obtain ⟨d8, dF, dA, de, dkk, dk⟩ := W
  rw [e8] at d8 dF dA
  exact ⟨d8, fun j => (dF j).trans (hF j), fun o ho => (dA o ho).trans (hA o ho), se.tr de, kk.trans dkk, fun o i i0 i1 => (dk o i i0 i1).trans (tk o i i0 i1)⟩
theorem VW.of (q : QFc P P' F F' A A') (G : Gc P F A) : VW k P F A P' F' A' := ⟨q.1.1 0 8 (by decide), (q.1.2.2.1 _ G.live).1, (q.1.2.2.1 _ G.live).2, .of (q.2.1.1 2 (by decide) (by decide) (by decide)).2 (q.2.1.1 2 (by decide) (by decide) (by decide)).1, by rw [q.2.1.2.2 2], fun o i _ _ => by rw [ci_fr (q.2.1.2.1 o)]⟩
theorem ZN.vw (V : VW k P F A P' F' A') (Z : ZN k P F A Fm Am) : ZN k P' F' A' Fm Am := by
  obtain ⟨e8, hF, hA, se, kk, tk⟩ := V
  obtain ⟨N, Y, T⟩ := Z
  have hS : SOK (SS (P 0 8) F A) := SS.ok N.ct.2.2.2.2.2
  refine ⟨?_, ?_, ?_⟩
  · rw [e8]
    exact N.fr hF hA rfl (fun _ _ _ => rfl)
  · rw [e8]
    have Y' : SS (P 0 8) F A (F' 2) (A' 2) (fun i => ai Am 47 i) := hS _ _ _ _ _ _ se (fun _ _ _ => rfl) Y
    exact Y'.hs (hF 17) (hF 16) (hA 5 (by decide))
  · refine ⟨kk.mp T.1, fun i i0 i1 => ?_⟩
    rw [tk 1 i i0 i1, tk 2 i i0 i1]
    exact T.2 i i0 i1
theorem ZN.kt (Z : ZN k P F A Fm Am) (z : KT Fm Am Fm' Am') : ZN k P F A Fm' Am' := by
  obtain ⟨N, Y, T⟩ := Z
  have hS : SOK (SS (P 0 8) F A) := SS.ok N.ct.2.2.2.2.2
  refine ⟨N.fr (fun _ => rfl) (fun _ _ => rfl) (z.1 18 (by decide) (by decide)) (fun q a b => z.2 q (.inl (by omega))), Y.cg hS SE.rfl' (fun i _ _ => by unfold ai; rw [z.2 47 (by decide)]), T.1, fun i i0 i1 => ?_⟩
  rw [ai_fr (z.2 58 (by decide)), ai_fr (z.2 59 (by decide)), ai_fr (z.2 60 (by decide))]
  exact T.2 i i0 i1
theorem IX.tried (I : IX k P F A Fm Am) (q : QFc P P' F F' A A') (z : KT Fm Am Fm' Am') : IX k P' F' A' Fm' Am' := ⟨(I.1.kt z).vw (.of q I.2.1), q.g I.2.1, by rw [q.1.1 0 8 (by decide)]; exact q.2.2 I.1.1.kd I.2.2⟩
/-- now as the reference takes it -/
theorem ZN.take (Z : ZN k P F A Fm Am) (cp : CPm 47 48 0 0 0 Am Am') : NHx (P 0 8) F A Fm Am' ∧ SBx True (P 0 8) 2 F A Am' 48 0 ∧ (F 2 7).toInt = ai Am' 48 78 ∧ (F 2 8).toInt = ai Am' 48 79 ∧ B7 (F 2 7) := by
  obtain ⟨N, Y, -⟩ := Z
  have ct := N.ct
  have t47 : ∀ i, 0 ≤ i → i < 100 → ai Am' 48 i = ai Am 47 i := fun i i0 i1 => by
    have := cp.2.1 i i0 i1
    rw [Int.zero_add] at this
    exact this
  obtain ⟨s1, s2, s3, s4, s5, s6, s7⟩ := Y
  refine ⟨N.fr (fun _ => rfl) (fun _ _ => rfl) rfl (fun q _ _ => cp.1 q (by omega)), SBx.mk0 (fun k k0 k1 => ?_) (fun k k0 k1 => ?_) (fun k k0 k1 => ?_) (fun k k0 k1 => ?_), ?_, ?_, s7.1⟩
  · rw [t47 (6 + k) (by omega) (by omega)]
    exact s1 k k0 k1
  · rw [t47 k (by omega) (by omega)]
    exact s2 k k0 k1
  · rw [t47 (72 + k) (by omega) (by omega)]
    exact s3 k k0 k1
  · rw [t47 (42 + k) (by omega) (by omega), t47 (48 + k) (by omega) (by omega), t47 (54 + k) (by omega) (by omega), t47 (60 + k) (by omega) (by omega), t47 (66 + k) (by omega) (by omega)]
    have w := s4 k k0 k1
    exact ⟨w.1, w.2.1, w.2.2.1, fun _ => w.2.2.2⟩
  · rw [t47 78 (by decide) (by decide)]
    exact s5
  · rw [t47 79 (by decide) (by decide)]
    exact s6
/-- a trial that has been laid out, on both sides -/
def TRy (k : Int) (P : Nat → Nat → Nat) (F : Nat → Nat → Int32) (A : Nat → Nat → Nat → Int32) (Fm : Nat → Int32) (Am : Nat → Nat → Int32) : Prop := IX k P F A Fm Am ∧ LVc A (P 0 8) 33 ∧ SBx True (P 0 8) 33 F A Am 48 0 ∧ ((F 33 7).toInt = ai Am 48 78 ∧ (F 33 8).toInt = ai Am 48 79 ∧ B7 (F 33 7)) ∧ DNx 2 A Am ∧ BDs 33 5994 A
theorem TRy.begin {z : cR Unit} {b : mR Unit} (I : IX k P F A Fm Am) (hz : e_State_copy P F A J 33 2 = some z) (hb : d_takes m Fm Am Jm = some b) : TRy k z.2.1 z.2.2.1 z.2.2.2.1 b.2.1 b.2.2.1 ∧ (∀ k, z.2.2.1 32 k = F 32 k) ∧ z.2.1 = P ∧ (∀ o, z.2.2.2.1 (P 0 8) o = A (P 0 8) o) ∧ ∀ q, q ≠ 48 → b.2.2.1 q = Am q := by
  have Z := I.1
  have G := I.2.1
  have kb := kt_d_takes KT.rfl' b hb
  obtain ⟨t1, cp⟩ := r_takes b hb
  have cv := v_copy (r0 := 33) (r1 := 2) (by decide) z hz
  obtain ⟨e1, q8, L8, f32⟩ := (fq_trial G).po z hz
  have I2 : IX k z.2.1 z.2.2.1 z.2.2.2.1 b.2.1 b.2.2.1 := I.tried q8 kb
  obtain ⟨-, B2, -, -, -⟩ := Z.take cp
  obtain ⟨-, c2, c3, c4⟩ := cv
  have n33 := G.n33
  have hF8 : ∀ k, z.2.2.1 (P 0 8) k = F (P 0 8) k := fun k => c2 _ k n33
  have hA8 : ∀ o, z.2.2.2.1 (P 0 8) o = A (P 0 8) o := fun o => c3 _ o n33
  have t48 : ∀ i, 0 ≤ i → i < 100 → ai b.2.2.1 48 i = ai Am 47 i := fun i i0 i1 => by
    have w := cp.2.1 i i0 i1
    rw [Int.zero_add] at w
    exact w
  have hS : SOK (SS (P 0 8) F A) := SS.ok Z.1.ct.2.2.2.2.2
  have s : SS (P 0 8) F A (z.2.2.1 33) (z.2.2.2.1 33) (fun i => ai b.2.2.1 48 i) := hS _ _ _ _ _ _ c4 t48 Z.2.1
  obtain ⟨s1, s2, s3, s4, s5, s6, s7⟩ := s.hs (hF8 17) (hF8 16) (hA8 5)
  have B8 : SBx True (P 0 8) 33 z.2.2.1 z.2.2.2.1 b.2.2.1 48 0 := SBx.mk0 s1 s2 s3 (fun m m0 m1 => ⟨(s4 m m0 m1).1, (s4 m m0 m1).2.1, (s4 m m0 m1).2.2.1, fun _ => (s4 m m0 m1).2.2.2⟩)
  refine ⟨⟨I2, ?_, ?_, ⟨s5, s6, s7.1⟩, fun k k0 k1 => ?_, s7.2.s⟩, f32, e1, hA8, fun q hq => cp.1 q hq⟩
  · rw [e1]
    exact L8
  · rw [e1]
    exact B8
  · rw [ci_fr (c3 2 1 (by decide))]
    exact B2.dn k0 k1
theorem SBx.leave (B : SBx True h 33 F A Am 48 0) (hm : 0 ≤ k ∧ k < 6) (hn : (F h 17).toInt ≤ 6) (hk : c_kind h = 6) {v : Int} (U : CUm A A' 33 3 k v) {r : mR Int32} (L : LVd Fm Am k t u r) (Lq : LQx h F A v t u) : SBx True h 33 F A' r.2.2.1 48 0 := by
  obtain ⟨-, l2, ⟨l3, l4⟩, l5⟩ := L
  have a : ∀ o, o ≠ 3 → A' 33 o = A 33 o := fun o ho => U.2.2 33 o (fun e => ho e.2)
  have h33 : h ≠ 33 := fun e => absurd hk (by rw [e]; decide)
  refine SBx.mk0 (fun i i0 i1 => ?_) (fun i i0 i1 => ?_) (fun i i0 i1 => ?_) (fun i i0 i1 => ?_)
  · rw [ci_fr (a 1 (by decide)), l5 _ (by omega) (by omega) (by omega)]
    exact B.dn i0 i1
  · rw [ci_fr (a 2 (by decide)), l5 _ (by omega) (by omega) (by omega)]
    exact B.sf i0 i1
  · rw [ci_fr (a 4 (by decide)), l5 _ (by omega) (by omega) (by omega)]
    exact B.tl i0 i1
  · obtain ⟨w1, w2, w3, w4⟩ := B.mn i0 i1
    rw [ci_fr (a 5 (by decide)), ci_fr (a 6 (by decide)), ci_fr (a 7 (by decide)), l5 (54 + i) (by omega) (by omega) (by omega), l5 (60 + i) (by omega) (by omega) (by omega), l5 (66 + i) (by omega) (by omega) (by omega)]
    refine ⟨?_, w2, w3, w4⟩
    by_cases e : i = k
    · subst e
      rw [U.1, l3, l4]
      exact Lq.cg rfl (U.2.2 h 5 (fun e => h33 e.1))
    · rw [U.2.1 i i0 e, l5 (42 + i) (by omega) (by omega) (by omega), l5 (48 + i) (by omega) (by omega) (by omega)]
      exact w1.cg rfl (U.2.2 h 5 (fun e => h33 e.1))
/-- a man leaves something in the trial -/
theorem TRy.leave (T : TRy k P F A Fm Am) (hm : 0 ≤ x1.toInt ∧ x1.toInt < 6) (hs : c_st A 33 3 6 x1 x3 = some A') {b : mR Int32} (hb : d_leaves m Fm Am Jm x1 y3 = some b) (L : LVd Fm Am x1.toInt t u b) (Lq : LQx (P 0 8) F A x3.toInt t u) : TRy k P F A' b.2.1 b.2.2.1 ∧ (∀ o, A' (P 0 8) o = A (P 0 8) o) ∧ ∀ q, q ≠ 48 → b.2.2.1 q = Am q := by
  obtain ⟨I, LV, B, ⟨s7, s8, s0⟩, D2, BD⟩ := T
  have N := I.1.1
  have G := I.2.1
  have ct := N.ct
  have kb := kt_d_leaves KT.rfl' b hb
  have U := (gg_cst hs).2.2
  have h33 : P 0 8 ≠ 33 := G.n33
  have a8 : ∀ o, A' (P 0 8) o = A (P 0 8) o := fun o => U.2.2 _ o (fun e => h33 e.1)
  have q : QFc P P F F A A' := (QFc.rfl' G.1).st U trivial tg33
  have lv : LVx A (P 0 8) x3.toInt := by
    rcases Lq with ⟨a, -, -⟩ | ⟨t0, t1, u0, u1, e⟩
    · exact .inl a
    · have s6 := N.s6 t0
      refine .inr ⟨by omega, by omega, ?_⟩
      rw [show x3.toInt % 6 = u by omega, show x3.toInt / 6 = t by omega]
      exact u1
  obtain ⟨⟨l0, lf⟩, l2, l3, l5⟩ := L
  refine ⟨⟨I.tried q kb, LV.put U h33 lv, B.leave hm ct.2.2.2.2.2 N.kd U ⟨⟨l0, lf⟩, l2, l3, l5⟩ Lq, ⟨?_, ?_, s0⟩, fun k k0 k1 => ?_, (BDs.a BD).fr (U.2.2 33 1 (by decide)) (U.2.2 33 2 (by decide))⟩, a8, l2⟩
  · rw [l5 78 (by decide) (by omega) (by omega)]
    exact s7
  · rw [l5 79 (by decide) (by omega) (by omega)]
    exact s8
  · rw [ci_fr (U.2.2 2 1 (by decide)), l5 (6 + k) (by omega) (by omega) (by omega)]
    exact D2 k k0 k1
/-- its night -/
theorem TRy.night (T : TRy k P F A Fm Am) (hn : 1400 ≤ n) {w : cR Unit} {b : mR Int32} (hw : e_Sleep_goTill n P F A J (F (P 32 4) 18) (P 32 4) 33 = some w) (hb : d_wholeNight m Fm Am Jm = some b) : IX k w.2.1 w.2.2.1 w.2.2.2.1 b.2.1 b.2.2.1 ∧ NTx True (P 0 8) 33 Fm Am w b ∧ (∀ k, w.2.2.1 32 k = F 32 k) ∧ (QFc P w.2.1 F w.2.2.1 A w.2.2.2.1 ∧ KT Fm Am b.2.1 b.2.2.1) ∧ w.2.2.2.1 35 0 = A 35 0 := by
  obtain ⟨I, LV, B, ⟨s7, s8, s0⟩, -⟩ := T
  have G := I.2.1
  have N := I.1.1
  have y18 : (F (P 0 8) 18).toInt ≤ 600 := N.hy.2.2.2.2.2
  have hsh : F 33 7 ≠ -1 := fun e => by rw [e] at s0; exact b7_m1 s0
  have kb := kt_d_wholeNight KT.rfl' b hb
  obtain ⟨qw, fw⟩ := (fq_goTill (n := n) (J := J) (x1 := F (P 32 4) 18) G LV (by rw [G.2.2.1]; exact y18) hn).po w hw
  rw [G.2.2.1] at hw
  obtain ⟨-, -, -, m3, -, -⟩ := (s_goTill G.k08 (by decide) G.1 G.2.2.2.1 LV G.2.2.2.1.2.2.2.2.2.2 hn).po w hw
  exact ⟨I.tried qw kb, p2_wn (ex := True) N (by decide : c_kind 33 = 2) B I.2.2 (fun _ => ⟨s7, s8⟩) hsh (fun m' b' hb' => AR_exact N G.1 G.2.2.2.1 B s7 hb') rfl w b hw hb, fw, ⟨qw, kb⟩, m3 35 0 (by decide) (by decide) (fun _ => by decide)⟩
/-- is all that is known so? -/
theorem p2_isSo7 (T : TK k F A Am) (D : DNx 33 A Am) (hk : x2.toInt ≤ k) (h30 : k ≤ 30) : ∀ {n m : Nat} {x3 : Int32}, 0 ≤ x3.toInt → P2 (e_Told_isSoIn_2 n P F A J 33 x2 x3) (d_isSo_7 m Fm Am Jm x2 x3) (fun a b => a = b.1 ∧ b.2.1 = Fm ∧ b.2.2.1 = Am) := by
  intro n
  induction n with
  | zero => intro m x3 _ a b ha; cases ha
  | succ n ih =>
    intro m x3 x0
    cases m with
    | zero => intro a b _ hb; cases hb
    | succ m =>
      unfold e_Told_isSoIn_2 d_isSo_7
      refine p2_dd' (fun c => ?_) (fun c => ?_)
      · exact p2_some ⟨rfl, rfl, rfl⟩
      · rw [i_nge] at c
        refine p2_cl (fun c2 => ?_) (fun _ => ?_)
        · rw [i_ge] at c2
          have := T.1
          omega
        refine p2_bl (fun v3 h3 => p2_bl (fun v4 h4 => p2_bl (fun v5 h5 => ?_)))
        refine p2_br (fun w6 k6 => p2_br (fun w7 k7 => p2_br (fun w8 k8 => p2_br (fun w9 k9 => ?_))))
        have g3 := (gl h3).2.2
        have g4 := (gl h4).2.2
        have g5 := (gl h5).2.2
        have f6 := (gm k6).2.2
        have f7 := (gm k7).2.2
        have f8 := (gm k8).2.2
        have f9 := (gm k9).2.2
        obtain ⟨⟨t1, t2⟩, r1, r2⟩ := T.2 x3.toInt x0 (by omega)
        rw [rx6 (by omega) (by omega)] at f8
        have e4 : v4 = w8 := i_ext (by
          rw [g4, f8, D v3.toInt (by omega) (by omega)]
          congr 1
          omega)
        have e5 : v5 = w9 := i_ext (by omega)
        rw [e4, e5]
        refine p2_dd' (fun _ => ?_) (fun _ => p2_some ⟨rfl, rfl, rfl⟩)
        have e31 := i_p1 (x := x3) (by omega)
        exact ih (by omega)
theorem p2_isSo (T : TK k F A Am) (D : DNx 33 A Am) (hk : x2.toInt ≤ k) (h30 : k ≤ 30) : P2 (e_Told_isSoIn n P F A J 33 x2) (d_isSo_7 m Fm Am Jm x2 0) (fun a b => a = b.1 ∧ b.2.1 = Fm ∧ b.2.2.1 = Am) := by
  unfold e_Told_isSoIn
  exact p2_isSo7 T D hk h30 (by decide)
/-- a night of the trial, and what is known of it -/
theorem TRy.isSo (T : TRy k P F A Fm Am) (hn : 1400 ≤ n) (hk : x2.toInt ≤ k) (h30 : k ≤ 30) {w : cR Unit} {v : Int32} {b : mR Int32} (hw : e_Sleep_goTill n P F A J (F (P 32 4) 18) (P 32 4) 33 = some w) (hv : e_Told_isSoIn n w.2.1 w.2.2.1 w.2.2.2.1 w.2.2.2.2 33 x2 = some v) (hb : d_isSo m Fm Am Jm x2 = some b) : v = b.1 ∧ IX k w.2.1 w.2.2.1 w.2.2.2.1 b.2.1 b.2.2.1 ∧ (∀ k, w.2.2.1 32 k = F 32 k) ∧ QFc P w.2.1 F w.2.2.1 A w.2.2.2.1 ∧ KT Fm Am b.2.1 b.2.2.1 ∧ w.2.2.2.1 35 0 = A 35 0 := by
  unfold d_isSo at hb
  obtain ⟨b0, hb0, hb⟩ := Option.bind_eq_some_iff.mp hb
  obtain ⟨I, ⟨-, N2, B2, -, -⟩, fw, ⟨q, z⟩, a35⟩ := T.night hn hw hb0
  obtain ⟨v0, F2, A3, J4⟩ := b0
  obtain ⟨e1, e2, e3⟩ := p2_isSo I.1.2.2 (fun k k0 k1 => B2.dn k0 k1) hk h30 v b hv hb
  rw [e2, e3]
  exact ⟨e1, I, fw, q, z, a35⟩
end H9fn
end Qz171
section Qz172
/-! suspects and pairs, on both sides -/
section H9fo
variable {n m h : Nat} {t u k N : Int} {c : Int → Int} {P P' : Nat → Nat → Nat} {F F' F1 : Nat → Nat → Int32} {A A' : Nat → Nat → Nat → Int32} {J : Nat → Nat → Nat → Int64} {Fm Fm' : Nat → Int32} {Am Am' A7 : Nat → Nat → Int32} {Jm : Nat → Nat → Int64} {x1 x2 x3 x4 x5 y1 y2 y3 : Int32}
/-- a left of the class beside an option of the reference -/
def LO (c : Int → Int) (x y : Int32) : Prop := (x.toInt = -1 ∧ y.toInt = 0) ∨ (0 ≤ x.toInt ∧ x.toInt ≤ 36 ∧ y.toInt = rk c x.toInt.toNat)
theorem LO.r (L : LO c x1 y1) : -1 ≤ x1.toInt ∧ x1.toInt ≤ 36 := by
  rcases L with ⟨a, b⟩ | ⟨a, b, -⟩ <;> omega
/-- a left that there isn't: the class goes on alone -/
theorem LO.over (L : LO c x1 y1) (h36 : x1.toInt < 36) (hv : ¬ (x1.toInt < 0 ∨ (0 ≤ x1.toInt ∧ x1.toInt % 6 < c (x1.toInt / 6)))) : LO c (x1 + 1) y1 := by
  rcases L with ⟨a, b⟩ | ⟨a, b, e⟩
  · omega
  · have e1 := i_p1 (x := x1) (by omega)
    refine .inr ⟨by omega, by omega, ?_⟩
    rw [e, e1, show (x1.toInt + 1).toNat = x1.toInt.toNat + 1 by omega, rk_s, if_neg (by rw [show ((x1.toInt.toNat : Nat) : Int) = x1.toInt by omega]; omega)]
    omega
/-- one that there is: both go on -/
theorem LO.next (L : LO c x1 y1) (h36 : x1.toInt < 36) (hv : x1.toInt < 0 ∨ (0 ≤ x1.toInt ∧ x1.toInt % 6 < c (x1.toInt / 6))) : LO c (x1 + 1) (y1 + 1) ∧ y1.toInt < rk c 36 := by
  rcases L with ⟨a, b⟩ | ⟨a, b, e⟩
  · have e1 := i_p1 (x := x1) (by omega)
    have e2 := i_p1 (x := y1) (by omega)
    have p := rk_pos (c := c) (k := 36)
    refine ⟨.inr ⟨by omega, by omega, ?_⟩, by omega⟩
    rw [e1, e2, a, b]
    rfl
  · have e1 := i_p1 (x := x1) (by omega)
    have s := rk_s c x1.toInt.toNat
    rw [if_pos (by rw [show ((x1.toInt.toNat : Nat) : Int) = x1.toInt by omega]; omega)] at s
    have mo := rk_mono (c := c) (k := x1.toInt.toNat + 1) (l := 36) (by omega)
    have le : ∀ k : Nat, rk c k ≤ 1 + (k : Int) := fun k => by
      induction k with
      | zero => exact Int.le_refl _
      | succ k ih =>
        rw [rk_s]
        split <;> omega
    have l36 := le 36
    have e2 := i_p1 (x := y1) (by omega)
    refine ⟨.inr ⟨by omega, by omega, ?_⟩, by omega⟩
    rw [e2, e1, e, show (x1.toInt + 1).toNat = x1.toInt.toNat + 1 by omega, s]
theorem LO.fin (L : LO c x1 y1) (h36 : ¬ x1.toInt < 36) : y1.toInt = rk c 36 := by
  rcases L with ⟨a, b⟩ | ⟨a, b, e⟩
  · omega
  · rw [e, show x1.toInt.toNat = 36 by omega]
/-- what such a left says -/
def lt6 (x : Int) : Int := if x < 0 then -1 else x / 6
def lu6 (x : Int) : Int := if x < 0 then -1 else x % 6
theorem LO.lv (L : LO (ci A h 5) x1 y1) (H : NHx h F A Fm Am) (hm : 0 ≤ x2.toInt ∧ x2.toInt < 6) (h36 : x1.toInt < 36) (hv : x1.toInt < 0 ∨ (0 ≤ x1.toInt ∧ x1.toInt % 6 < ci A h 5 (x1.toInt / 6))) : po (d_leaves n Fm Am Jm x2 y1) (LVd Fm Am x2.toInt (lt6 x1.toInt) (lu6 x1.toInt)) ∧ LQx h F A x1.toInt (lt6 x1.toInt) (lu6 x1.toInt) := by
  have ct := H.ct
  unfold lt6 lu6
  rcases L with ⟨a, b⟩ | ⟨a, b, e⟩
  · rw [if_pos (by omega), if_pos (by omega)]
    exact ⟨r_leaves0 H hm b, .inl ⟨a, rfl, rfl⟩⟩
  · rw [if_neg (by omega), if_neg (by omega)]
    have hv' : x1.toInt % 6 < ci A h 5 (x1.toInt / 6) := by
      rcases hv with z | z
      · omega
      · exact z.2
    have ek : ((x1.toInt.toNat : Nat) : Int) = x1.toInt := by omega
    have w := r_leaves (n := n) (Jm := Jm) H hm (k := x1.toInt.toNat) (y3 := y1) (by omega) (by rw [ek]; exact hv') e
    rw [ek] at w
    have s6 := H.s6 (t := x1.toInt / 6) (by omega)
    refine ⟨w, .inr ⟨by omega, ?_, by omega, hv', by omega⟩⟩
    by_cases z : x1.toInt / 6 < (F h 16).toInt
    · exact z
    · have := H.z6 (t := x1.toInt / 6) (by omega) (by omega) (by omega)
      omega
/-- is it what he left as it stands? -/
theorem LQ_eq {a t u x : Int} (L : LQx h F A a t u) (h5 : ∀ t, 0 ≤ t → ci A h 5 t ≤ 6) (hx : -1 ≤ x) : x = a ↔ lt6 x = t ∧ lu6 x = u := by
  unfold lt6 lu6
  rcases L with ⟨rfl, rfl, rfl⟩ | ⟨t0, t1, u0, u1, rfl⟩
  · by_cases z : x < 0
    · rw [if_pos z, if_pos z]
      exact ⟨fun _ => ⟨rfl, rfl⟩, fun _ => by omega⟩
    · rw [if_neg z, if_neg z]
      exact ⟨fun _ => by omega, fun e => by omega⟩
  · have s6 := h5 t t0
    by_cases z : x < 0
    · rw [if_pos z, if_pos z]
      exact ⟨fun _ => by omega, fun e => by omega⟩
    · rw [if_neg z, if_neg z]
      exact ⟨fun e => by omega, fun e => by omega⟩
theorem p2_isSus2 (hm : 0 ≤ x1.toInt ∧ x1.toInt < 6) (hc : ∀ t, 0 ≤ t → c t ≤ 6) (h30 : x2.toInt ≤ 30) : ∀ {n m : Nat} {P : Nat → Nat → Nat} {F : Nat → Nat → Int32} {A : Nat → Nat → Nat → Int32} {J : Nat → Nat → Nat → Int64} {Fm : Nat → Int32} {Am : Nat → Nat → Int32} {Jm : Nat → Nat → Int64} {x3 y3 : Int32}, IX x2.toInt P F A Fm Am → (∀ t, ci A (P 0 8) 5 t = c t) → x1.toInt < (F (P 0 8) 17).toInt → LO c x3 y3 → 1400 + 36 - x3.toInt < (n : Int) → P2 (e_Evening_isSuspect_2 n P F A J x1 x2 x3) (d_isSuspect_2 m Fm Am Jm x1 x2 y3) (fun a b => a.1 = b.1 ∧ QFc P a.2.1 F a.2.2.1 A a.2.2.2.1 ∧ KT Fm Am b.2.1 b.2.2.1) := by
  have l36 : (36 : Int32).toInt = 36 := by decide
  intro n
  induction n with
  | zero => intro m P F A J Fm Am Jm x3 y3 _ _ _ _ _ a b ha; cases ha
  | succ n ih =>
    intro m P F A J Fm Am Jm x3 y3 I ec hx1 L hn
    have N := I.1.1
    have G := I.2.1
    have lr := L.r
    have e5 : ci A (P 0 8) 5 = c := funext ec
    cases m with
    | zero => intro a b _ hb; cases hb
    | succ m =>
      unfold e_Evening_isSuspect_2
      refine p2_cl (fun c36 => ?_) (fun c36 => ?_)
      · rw [i_ge, l36] at c36
        have f := L.fin (by omega)
        unfold d_isSuspect_2
        refine p2_r (r_options N) (fun v1 q1 => ?_)
        rw [e5] at q1
        refine p2_cr (fun _ => p2_some ⟨rfl, QFc.rfl' G.1, KT.rfl'⟩) (fun c2 => ?_)
        rw [i_nge] at c2
        omega
      · rw [i_nge, l36] at c36
        have e31 := i_p1 (x := x3) (by omega)
        refine p2_bl (fun _ hk => ?_)
        obtain rfl := (gg_chk hk).2.symm
        rw [G.2.2.1]
        refine p2_l (v_mayBe (fun t t0 => by rw [ec]; exact hc t t0)) (fun v3 b3 => ?_)
        rw [e5] at b3
        rcases b3 with ⟨rfl, hv⟩ | ⟨rfl, hv⟩
        · refine p2_cl (fun c => absurd c (by decide)) (fun _ => ?_)
          obtain ⟨Ln, lt36⟩ := L.next (by omega) hv
          unfold d_isSuspect_2
          refine p2_r (r_options N) (fun v1 q1 => ?_)
          rw [e5] at q1
          refine p2_cr (fun c2 => ?_) (fun _ => ?_)
          · rw [i_ge] at c2
            omega
          refine p2_bl (fun v5 h5 => ?_)
          have g5 := (gl h5).2.2
          refine p2_br (fun b1 hb1 => ?_)
          have kb1 := kt_d_takes KT.rfl' b1 hb1
          obtain ⟨t1, cp⟩ := r_takes b1 hb1
          obtain ⟨u1, F4, A5, J6⟩ := b1
          dsimp only at kb1 t1 cp ⊢
          obtain rfl : Fm = F4 := t1.symm
          have N5 : NHx (P 0 8) F A Fm A5 := (I.1.take cp).1
          refine p2_br (fun b2 hb2 => ?_)
          have LL := LO.lv (n := m) (Jm := J6) (Fm := Fm) (Am := A5) (x2 := x1) (A := A) (h := P 0 8) (F := F) (by rw [e5]; exact L) N5 hm (by omega) (by rw [e5]; exact hv)
          have lv := LL.1 b2 hb2
          have lq := LL.2
          have kb2 := kt_d_leaves kb1 b2 hb2
          obtain ⟨v7, F8, A9, J10⟩ := b2
          obtain ⟨⟨-, l1⟩, l2, ⟨l3, l4⟩, l5⟩ := lv
          dsimp only at kb2 l1 l2 l3 l4 l5 ⊢
          obtain rfl : Fm = F8 := l1.symm
          refine p2_br (fun v11 h11 => p2_br (fun v12 h12 => ?_))
          have i42 := kx1 (c := 42) (x := x1) (k := 42) (by decide) (by decide) (by omega)
          have i48 := kx1 (c := 48) (x := x1) (k := 48) (by decide) (by decide) (by omega)
          have g11 := (gm h11).2.2
          have g12 := (gm h12).2.2
          rw [i42, l3] at g11
          rw [i42, ai_fr (kb2.2 47 (by decide))] at g12
          have ln := (I.1.2.1.2.2.2.1 x1.toInt hm.1 hx1).1
          have ln : LQx (P 0 8) F A (ci A 2 3 x1.toInt) (ai Am 47 (42 + x1.toInt)) (ai Am 47 (48 + x1.toInt)) := ln
          have eq := LQ_eq ln (fun t t0 => by rw [ec]; exact hc t t0) lr.1
          -- the try itself
          have try_ : P2 ((e_State_copy P F A J 33 2).bind fun (_, P8, F9, A10, J11) => (c_st A10 33 3 6 x1 x3).bind fun A12 => (c_chk 6 (P8 32 4)).bind fun q13 => (c_chk 6 (P8 32 4)).bind fun q14 => (e_Sleep_goTill n P8 F9 A12 J11 (F9 q13 18) q14 33).bind fun (_, P16, F17, A18, J19) => (e_Told_isSoIn n P16 F17 A18 J19 33 x2).bind fun v20 => cond (g_cnd .eq v20 0) (e_Evening_isSuspect_92 (e_Evening_isSuspect_2 n) n P16 F17 A18 J19 x1 x2 x3) (some (1, P16, F17, A18, J19))) (d_isSuspect_66 (d_isSuspect_2 m) m Fm A9 J10 x1 x2 y3) (fun a b => a.1 = b.1 ∧ QFc P a.2.1 F a.2.2.1 A a.2.2.2.1 ∧ KT Fm Am b.2.1 b.2.2.1) := by
            unfold d_isSuspect_66
            refine p2_bl (fun z hz => ?_)
            obtain ⟨T, f32, eP, eA, -⟩ := TRy.begin I hz hb1
            obtain ⟨qz, -, -⟩ : QFc P z.2.1 F z.2.2.1 A z.2.2.2.1 ∧ True ∧ True := ⟨((fq_trial G).po z hz).2.1, trivial, trivial⟩
            obtain ⟨uz, P8, F9, A10, J11⟩ := z
            dsimp only at T f32 eP eA qz ⊢
            obtain rfl : P = P8 := eP.symm
            refine p2_bl (fun A12 hs => ?_)
            have e17 : ∀ k, F9 (P 0 8) k = F (P 0 8) k := fun k => (qz.1.2.2.1 _ G.live).1 k
            have lq9 : LQx (P 0 8) F9 A10 x3.toInt (lt6 x3.toInt) (lu6 x3.toInt) := lq.cg (e17 16) (eA 5)
            obtain ⟨T2, eA2, -⟩ := T.leave hm hs hb2 ⟨⟨(LL.1 _ hb2).1.1, rfl⟩, l2, ⟨l3, l4⟩, l5⟩ lq9
            have q12 : QFc P P F F9 A A12 := qz.st (gg_cst hs).2.2 trivial tg33
            refine p2_bl (fun _ hk => ?_)
            obtain rfl := (gg_chk hk).2.symm
            refine p2_bl (fun _ hk => ?_)
            obtain rfl := (gg_chk hk).2.symm
            refine p2_bl (fun w hw => p2_bl (fun v20 h20 => p2_br (fun b3 hb3 => ?_)))
            obtain ⟨r1, I3, -, q3, k3, -⟩ := TRy.isSo (x2 := x2) T2 (by omega) (Int.le_refl _) h30 hw h20 hb3
            have qq : QFc P w.2.1 F w.2.2.1 A w.2.2.2.1 := q12.tr q3
            have kk : KT Fm Am b3.2.1 b3.2.2.1 := kb2.tr k3
            obtain ⟨uw, P16, F17, A18, J19⟩ := w
            obtain ⟨v17, F18, A19, J20⟩ := b3
            dsimp only at r1 I3 q3 k3 qq kk ⊢
            rw [r1]
            refine p2_dd' (fun _ => ?_) (fun _ => p2_some ⟨rfl, qq, kk⟩)
            unfold e_Evening_isSuspect_92 d_isSuspect_76
            have e8 : P16 0 8 = P 0 8 := qq.1.1 0 8 (by decide)
            have live := qq.1.2.2.1 _ G.live
            refine p2_mono (ih I3 (fun t => by rw [e8, ci_fr (live.2 5 (by decide))]; exact ec t) (by rw [e8, live.1 17]; exact hx1) Ln (by omega)) (fun a b h => ⟨h.1, qq.tr h.2.1, kk.tr h.2.2⟩)
          have sk_ : P2 (e_Evening_isSuspect_92 (e_Evening_isSuspect_2 n) n P F A J x1 x2 x3) (d_isSuspect_76 (d_isSuspect_2 m) m Fm A9 J10 x1 x2 y3) (fun a b => a.1 = b.1 ∧ QFc P a.2.1 F a.2.2.1 A a.2.2.2.1 ∧ KT Fm Am b.2.1 b.2.2.1) := by
            unfold e_Evening_isSuspect_92 d_isSuspect_76
            refine p2_mono (ih (I.tried (QFc.rfl' G.1) kb2) ec hx1 Ln (by omega)) (fun a b h => ⟨h.1, h.2.1, kb2.tr h.2.2⟩)
          by_cases e : x3.toInt = v5.toInt
          · have s := eq.mp (by omega)
            refine p2_cl (fun _ => ?_) (fun c => ?_)
            · refine p2_cr (fun c => ?_) (fun _ => ?_)
              · rw [i_ne] at c
                omega
              refine p2_br (fun v14 h14 => p2_br (fun v15 h15 => ?_))
              have g14 := (gm h14).2.2
              have g15 := (gm h15).2.2
              rw [i48, l4] at g14
              rw [i48, ai_fr (kb2.2 47 (by decide))] at g15
              refine p2_cr (fun c => ?_) (fun _ => sk_)
              rw [i_ne] at c
              omega
            · rw [i_neq] at c
              exact absurd e c
          · have s : ¬ (lt6 x3.toInt = ai Am 47 (42 + x1.toInt) ∧ lu6 x3.toInt = ai Am 47 (48 + x1.toInt)) := fun z => e (by rw [g5]; exact eq.mpr z)
            refine p2_cl (fun c => ?_) (fun _ => ?_)
            · rw [i_eq] at c
              exact absurd c e
            · refine p2_cr (fun _ => try_) (fun c => ?_)
              rw [i_nne] at c
              refine p2_br (fun v14 h14 => p2_br (fun v15 h15 => ?_))
              have g14 := (gm h14).2.2
              have g15 := (gm h15).2.2
              rw [i48, l4] at g14
              rw [i48, ai_fr (kb2.2 47 (by decide))] at g15
              refine p2_cr (fun _ => try_) (fun c2 => ?_)
              rw [i_nne] at c2
              exact absurd ⟨by omega, by omega⟩ s
        · refine p2_cl (fun _ => ?_) (fun c => absurd c (by decide))
          unfold e_Evening_isSuspect_92
          exact ih I ec hx1 (L.over (by omega) hv) (by omega)
/-- between tries, with what the loops look at -/
def IY (c : Int → Int) (k nm : Int) (P : Nat → Nat → Nat) (F : Nat → Nat → Int32) (A : Nat → Nat → Nat → Int32) (Fm : Nat → Int32) (Am : Nat → Nat → Int32) : Prop := IX k P F A Fm Am ∧ (∀ t, ci A (P 0 8) 5 t = c t) ∧ (F (P 0 8) 17).toInt = nm
theorem IY.tried {nm : Int} (I : IY c k nm P F A Fm Am) (q : QFc P P' F F' A A') (z : KT Fm Am Fm' Am') : IY c k nm P' F' A' Fm' Am' := by
  obtain ⟨I, ec, hn⟩ := I
  have e8 : P' 0 8 = P 0 8 := q.1.1 0 8 (by decide)
  have live := q.1.2.2.1 _ I.2.1.live
  exact ⟨I.tried q z, fun t => by rw [e8, ci_fr (live.2 5 (by decide))]; exact ec t, by rw [e8, live.1 17]; exact hn⟩
theorem p2_susBits {nm : Int} (hc : ∀ t, 0 ≤ t → c t ≤ 6) (hn6 : nm ≤ 6) (h30 : x1.toInt ≤ 30) : ∀ {n m : Nat} {P : Nat → Nat → Nat} {F : Nat → Nat → Int32} {A : Nat → Nat → Nat → Int32} {J : Nat → Nat → Nat → Int64} {Fm : Nat → Int32} {Am : Nat → Nat → Int32} {Jm : Nat → Nat → Int64} {x2 x3 : Int32}, IY c x1.toInt nm P F A Fm Am → 0 ≤ x3.toInt → 1460 + 6 - x3.toInt < (n : Int) → P2 (e_Evening_suspectBits_4 n P F A J x1 x2 x3) (d_suspects_18 m Fm Am Jm x1 x2 x3) (fun a b => a.1 = b.1) := by
  intro n
  induction n with
  | zero => intro m P F A J Fm Am Jm x2 x3 _ _ _ a b ha; cases ha
  | succ n ih =>
    intro m P F A J Fm Am Jm x2 x3 I x0 hn
    have N := I.1.1.1
    have G := I.1.2.1
    have lm : (-1 : Int32).toInt = -1 := by decide
    have hm17 := N.men
    cases m with
    | zero => intro a b _ hb; cases hb
    | succ m =>
      unfold e_Evening_suspectBits_4 d_suspects_18
      refine p2_bl (fun _ hk => ?_)
      obtain rfl := (gg_chk hk).2.symm
      refine p2_r v_menNow (fun v3 q3 => ?_)
      rw [G.2.2.1]
      have i4 := I.2.2
      refine p2_cl (fun c => p2_cr (fun _ => p2_some rfl) (fun c2 => ?_)) (fun c => p2_cr (fun c2 => ?_) (fun _ => ?_))
      · rw [i_ge] at c
        rw [i_nge] at c2
        omega
      · rw [i_nge] at c
        rw [i_ge] at c2
        omega
      · rw [i_nge] at c
        have e31 := i_p1 (x := x3) (by omega)
        unfold e_Evening_isSuspect d_isSuspect
        refine p2_call (p2_isSus2 (x1 := x3) (x2 := x1) (x3 := -1) (y3 := 0) ⟨x0, by omega⟩ hc h30 I.1 I.2.1 c (.inl ⟨lm, i_0⟩) (by rw [lm]; omega)) ?_
        rintro ⟨v, P4, F5, A6, J7⟩ ⟨v', Fm5, Am6, Jm7⟩ ⟨e1, q, z⟩
        dsimp only at e1 q z ⊢
        rw [e1]
        unfold e_Evening_suspectBits_30 d_suspects_41
        exact p2_dd' (fun _ => ih (I.tried q z) (by omega) (by omega)) (fun _ => ih (I.tried q z) (by omega) (by omega))
theorem v_cKnown : po (e_SleepWork_isKnownBy P F A J x1) (fun v => BV v (0 ≤ x1.toInt ∧ x1.toInt ≤ (F 25 2).toInt)) := by
  unfold e_SleepWork_isKnownBy
  refine po_cond (fun c => po_some (.inr ⟨rfl, ?_⟩)) (fun c => ?_)
  · rw [i_lt, i_0] at c
    omega
  · rw [i_nlt, i_0] at c
    refine po_cond (fun c2 => po_some (.inr ⟨rfl, ?_⟩)) (fun c2 => po_some (.inl ⟨rfl, ?_⟩))
    · rw [i_gt] at c2
      omega
    · rw [i_ngt] at c2
      omega
theorem p2_suspects (X : XR P F A Fm Am) (G : Gc P F A) (S : SAm Fm Am) (hn : 1500 ≤ n) : P2 (e_SleepWork_suspects n P F A J x1) (d_suspects m Fm Am Jm x1) (fun a b => a.1 = b.1) := by
  have N := X.1
  have ct := N.ct
  have e77 : F 25 2 = Fm 77 := X.2.1.1
  have r30 : 0 ≤ (F 25 2).toInt ∧ (F 25 2).toInt ≤ 30 := by
    have := G.1.1 25 2
    rw [show c_kind 25 = 4 by decide] at this
    exact this
  unfold e_SleepWork_suspects d_suspects
  refine p2_call (R := fun v w => BV v (0 ≤ x1.toInt ∧ x1.toInt ≤ (F 25 2).toInt) ∧ v = w) (p2_of v_cKnown v_dIn (fun a b h h' => ⟨h, h.eq h' (by rw [i_0, e77])⟩)) ?_
  rintro v w ⟨b, rfl⟩
  rcases b with ⟨rfl, p⟩ | ⟨rfl, p⟩
  · refine p2_cl (fun c => absurd c (by decide)) (fun _ => p2_cr (fun _ => ?_) (fun c => absurd c (by decide)))
    unfold e_Evening_suspectBits
    intro a b ha hb
    obtain ⟨r, hr, ha⟩ := Option.bind_eq_some_iff.mp ha
    have e := p2_susBits (c := ci A (P 0 8) 5) (nm := (F (P 0 8) 17).toInt) (fun t t0 => (N.s6 t0).2) ct.2.2.2.2.2 (by omega) ⟨X.ix G S p.2, fun _ => rfl, rfl⟩ (by decide) (by rw [i_0]; omega) r b hr hb
    obtain ⟨v3, P4, F5, A6, J7⟩ := r
    obtain rfl := Option.some.inj ha
    exact e
  · exact p2_cl (fun _ => p2_cr (fun c => absurd c (by decide)) (fun _ => p2_some rfl)) (fun c => absurd c (by decide))
/-- pairs: the second man's lefts -/
theorem p2_pairs16 {nm : Int} (h30 : x3.toInt ≤ 30) {K6 : (Nat → Nat → Nat) → (Nat → Nat → Int32) → (Nat → Nat → Nat → Int32) → (Nat → Nat → Nat → Int64) → Int32 → Int32 → Int32 → Int32 → Int32 → Option (cR Int32)} {K41 : (Nat → Int32) → (Nat → Nat → Int32) → (Nat → Nat → Int64) → Int32 → Int32 → Int32 → Int32 → Int32 → Option (mR Int32)} (hm1 : 0 ≤ x1.toInt ∧ x1.toInt < 6) (hm2 : 0 ≤ x2.toInt ∧ x2.toInt < 6) (hc : ∀ t, 0 ≤ t → c t ≤ 6) (L5 : LO c x5 y2) (h36 : x5.toInt < 36) (hv5 : x5.toInt < 0 ∨ (0 ≤ x5.toInt ∧ x5.toInt % 6 < c (x5.toInt / 6))) (hK : ∀ {P F A J Fm Am Jm x4}, IY c x3.toInt nm P F A Fm Am → P2 (K6 P F A J x1 x2 x3 x4 (x5 + 1)) (K41 Fm Am Jm x1 x2 x3 x4 (y2 + 1)) (fun a b => a.1 = b.1)) : ∀ {n m : Nat} {P : Nat → Nat → Nat} {F : Nat → Nat → Int32} {A : Nat → Nat → Nat → Int32} {J : Nat → Nat → Nat → Int64} {Fm : Nat → Int32} {Am : Nat → Nat → Int32} {Jm : Nat → Nat → Int64} {x4 x6 y6 : Int32}, IY c x3.toInt nm P F A Fm Am → LO c x6 y6 → 1400 + 36 - x6.toInt < (n : Int) → P2 (e_Evening_fittingPairs_16 K6 n P F A J x1 x2 x3 x4 x5 x6) (d_pairs_53 K41 m Fm Am Jm x1 x2 x3 x4 y2 y6) (fun a b => a.1 = b.1) := by
  have l36 : (36 : Int32).toInt = 36 := by decide
  intro n
  induction n with
  | zero => intro m P F A J Fm Am Jm x4 x6 y6 _ _ _ a b ha; cases ha
  | succ n ih =>
    intro m P F A J Fm Am Jm x4 x6 y6 I L hn
    have N := I.1.1.1
    have G := I.1.2.1
    have lr := L.r
    have e5 : ci A (P 0 8) 5 = c := funext I.2.1
    cases m with
    | zero => intro a b _ hb; cases hb
    | succ m =>
      unfold e_Evening_fittingPairs_16
      refine p2_cl (fun c36 => ?_) (fun c36 => ?_)
      · rw [i_ge, l36] at c36
        have f := L.fin (by omega)
        unfold d_pairs_53 e_Evening_fittingPairs_133
        refine p2_r (r_options N) (fun v1 q1 => ?_)
        rw [e5] at q1
        refine p2_cr (fun _ => hK I) (fun c2 => ?_)
        rw [i_nge] at c2
        omega
      · rw [i_nge, l36] at c36
        have e61 := i_p1 (x := x6) (by omega)
        refine p2_bl (fun _ hk => ?_)
        obtain rfl := (gg_chk hk).2.symm
        rw [G.2.2.1]
        refine p2_l (v_mayBe (fun t t0 => by rw [e5]; exact hc t t0)) (fun v4 b4 => ?_)
        rw [e5] at b4
        rcases b4 with ⟨rfl, -⟩ | ⟨rfl, hv⟩
        · refine p2_cl (fun c => absurd c (by decide)) (fun _ => ?_)
          refine p2_bl (fun _ hk => ?_)
          obtain rfl := (gg_chk hk).2.symm
          refine p2_l (v_mayBe (fun t t0 => by rw [e5]; exact hc t t0)) (fun v7 b7 => ?_)
          rw [e5] at b7
          rcases b7 with ⟨rfl, hv⟩ | ⟨rfl, hv⟩
          · refine p2_cl (fun c => absurd c (by decide)) (fun _ => ?_)
            obtain ⟨Ln, lt36⟩ := L.next (by omega) hv
            unfold d_pairs_53
            refine p2_r (r_options N) (fun v1 q1 => ?_)
            rw [e5] at q1
            refine p2_cr (fun c2 => ?_) (fun _ => ?_)
            · rw [i_ge] at c2
              omega
            refine p2_bl (fun z hz => p2_br (fun b1 hb1 => ?_))
            obtain ⟨T, f32, eP, eA, eM⟩ := TRy.begin I.1 hz hb1
            have qz := ((fq_trial G).po z hz).2.1
            have kb1 := kt_d_takes KT.rfl' b1 hb1
            obtain ⟨t1, cp⟩ := r_takes b1 hb1
            obtain ⟨uz, P8, F9, A10, J11⟩ := z
            obtain ⟨u1, F4, A5, J6⟩ := b1
            dsimp only at T f32 eP eA eM qz kb1 t1 cp ⊢
            obtain rfl : P = P8 := eP.symm
            obtain rfl : Fm = F4 := t1.symm
            have e10 : ci A10 (P 0 8) 5 = c := by rw [ci_fr (eA 5)]; exact e5
            refine p2_bl (fun A12 hs => p2_br (fun b2 hb2 => ?_))
            have N5 := T.1.1.1
            have LL := LO.lv (n := m) (Jm := J6) (x1 := x5) (y1 := y2) (x2 := x1) (by rw [e10]; exact L5) N5 hm1 h36 (by rw [e10]; exact hv5)
            have lv := LL.1 b2 hb2
            obtain ⟨T2, eA2, eM2⟩ := T.leave hm1 hs hb2 lv LL.2
            have kb2 := kt_d_leaves kb1 b2 hb2
            have q12 : QFc P P F F9 A A12 := qz.st (gg_cst hs).2.2 trivial tg33
            obtain ⟨v16, F17, A18, J19⟩ := b2
            have l1 : F17 = Fm := lv.1.2
            dsimp only at T2 eM2 kb2 ⊢
            obtain rfl : Fm = F17 := l1.symm
            have e12 : ci A12 (P 0 8) 5 = c := by rw [ci_fr (eA2 5)]; exact e10
            refine p2_bl (fun A14 hs2 => p2_br (fun b3 hb3 => ?_))
            have LL2 := LO.lv (n := m) (Jm := J19) (x1 := x6) (y1 := y6) (x2 := x2) (by rw [e12]; exact L) T2.1.1.1 hm2 (by omega) (by rw [e12]; exact hv)
            have lv2 := LL2.1 b3 hb3
            obtain ⟨T3, eA3, eM3⟩ := T2.leave hm2 hs2 hb3 lv2 LL2.2
            have kb3 := kt_d_leaves kb2 b3 hb3
            have q14 : QFc P P F F9 A A14 := q12.st (gg_cst hs2).2.2 trivial tg33
            obtain ⟨v20, F21, A22, J23⟩ := b3
            dsimp only at T3 kb3 ⊢
            refine p2_bl (fun _ hk => ?_)
            obtain rfl := (gg_chk hk).2.symm
            refine p2_bl (fun _ hk => ?_)
            obtain rfl := (gg_chk hk).2.symm
            refine p2_bl (fun w hw => p2_bl (fun v23 h23 => p2_br (fun b4 hb4 => ?_)))
            obtain ⟨r1, I3, -, q3, k3, -⟩ := TRy.isSo (x2 := x3) T3 (by omega) (Int.le_refl _) h30 hw h23 hb4
            have qq : QFc P w.2.1 F w.2.2.1 A w.2.2.2.1 := q14.tr q3
            have kk : KT Fm Am b4.2.1 b4.2.2.1 := kb3.tr k3
            obtain ⟨uw, P16, F17', A18', J19'⟩ := w
            obtain ⟨v24, F25, A26, J27⟩ := b4
            dsimp only at r1 qq kk ⊢
            rw [r1]
            have I4 := I.tried qq kk
            have z4 : x4 + 0 = x4 := i_ext (by
              have r := i_rng x4
              rw [i_add (by rw [i_0]; omega) (by rw [i_0]; omega), i_0]
              omega)
            unfold e_Evening_fittingPairs_124 e_Evening_fittingPairs_127 d_pairs_93
            rw [z4]
            exact p2_dd' (fun _ => ih I4 Ln (by omega)) (fun _ => ih I4 Ln (by omega))
          · refine p2_cl (fun _ => ?_) (fun c => absurd c (by decide))
            unfold e_Evening_fittingPairs_127
            exact ih I (L.over (by omega) hv) (by omega)
        · exact absurd hv5 hv
/-- the first man's -/
theorem p2_pairs6 {nm : Int} (h30 : x3.toInt ≤ 30) (hm1 : 0 ≤ x1.toInt ∧ x1.toInt < 6) (hm2 : 0 ≤ x2.toInt ∧ x2.toInt < 6) (hc : ∀ t, 0 ≤ t → c t ≤ 6) : ∀ {n m : Nat} {P : Nat → Nat → Nat} {F : Nat → Nat → Int32} {A : Nat → Nat → Nat → Int32} {J : Nat → Nat → Nat → Int64} {Fm : Nat → Int32} {Am : Nat → Nat → Int32} {Jm : Nat → Nat → Int64} {x4 x5 y5 : Int32}, IY c x3.toInt nm P F A Fm Am → LO c x5 y5 → 1440 + 36 - x5.toInt < (n : Int) → P2 (e_Evening_fittingPairs_6 n P F A J x1 x2 x3 x4 x5) (d_pairs_41 m Fm Am Jm x1 x2 x3 x4 y5) (fun a b => a.1 = b.1) := by
  have l36 : (36 : Int32).toInt = 36 := by decide
  have lm : (-1 : Int32).toInt = -1 := by decide
  intro n
  induction n with
  | zero => intro m P F A J Fm Am Jm x4 x5 y5 _ _ _ a b ha; cases ha
  | succ n ih =>
    intro m P F A J Fm Am Jm x4 x5 y5 I L hn
    have N := I.1.1.1
    have G := I.1.2.1
    have lr := L.r
    have e5 : ci A (P 0 8) 5 = c := funext I.2.1
    cases m with
    | zero => intro a b _ hb; cases hb
    | succ m =>
      unfold e_Evening_fittingPairs_6
      refine p2_cl (fun c36 => ?_) (fun c36 => ?_)
      · rw [i_ge, l36] at c36
        have f := L.fin (by omega)
        unfold d_pairs_41
        refine p2_r (r_options N) (fun v1 q1 => ?_)
        rw [e5] at q1
        refine p2_cr (fun _ => p2_some rfl) (fun c2 => ?_)
        rw [i_nge] at c2
        omega
      · rw [i_nge, l36] at c36
        have e51 := i_p1 (x := x5) (by omega)
        by_cases hv : x5.toInt < 0 ∨ (0 ≤ x5.toInt ∧ x5.toInt % 6 < c (x5.toInt / 6))
        · obtain ⟨Ln, lt36⟩ := L.next (by omega) hv
          unfold d_pairs_41
          refine p2_r (r_options N) (fun v1 q1 => ?_)
          rw [e5] at q1
          refine p2_cr (fun c2 => ?_) (fun _ => ?_)
          · rw [i_ge] at c2
            omega
          exact p2_pairs16 h30 hm1 hm2 hc L (by omega) hv (fun I' => ih I' Ln (by omega)) I (.inl ⟨lm, i_0⟩) (by rw [lm]; omega)
        · -- no such left: the class's inner loop ends at once
          cases n with
          | zero => intro a b ha; cases ha
          | succ n' =>
            unfold e_Evening_fittingPairs_16
            refine p2_cl (fun c => ?_) (fun _ => ?_)
            · rw [i_ge, l36, lm] at c
              omega
            refine p2_bl (fun _ hk => ?_)
            obtain rfl := (gg_chk hk).2.symm
            rw [G.2.2.1]
            refine p2_l (v_mayBe (fun t t0 => by rw [e5]; exact hc t t0)) (fun v4 b4 => ?_)
            rw [e5] at b4
            rcases b4 with ⟨rfl, hv'⟩ | ⟨rfl, -⟩
            · exact absurd hv' hv
            · refine p2_cl (fun _ => ?_) (fun c => absurd c (by decide))
              unfold e_Evening_fittingPairs_133
              exact ih I (L.over (by omega) hv) (by omega)
theorem p2_pairs (X : XR P F A Fm Am) (G : Gc P F A) (S : SAm Fm Am) (hn : 1500 ≤ n) : P2 (e_SleepWork_pairs n P F A J x1 x2 x3) (d_pairs m Fm Am Jm x1 x2 x3) (fun a b => a.1 = b.1) := by
  have N := X.1
  have ct := N.ct
  have lm : (-1 : Int32).toInt = -1 := by decide
  have e77 : F 25 2 = Fm 77 := X.2.1.1
  have r30 : 0 ≤ (F 25 2).toInt ∧ (F 25 2).toInt ≤ 30 := by
    have := G.1.1 25 2
    rw [show c_kind 25 = 4 by decide] at this
    exact this
  unfold e_SleepWork_pairs d_pairs e_SleepWork_areTwoMen
  intro a b ha hb
  obtain ⟨v1, h1, ha⟩ := Option.bind_eq_some_iff.mp ha
  obtain ⟨w1, k1, hb⟩ := Option.bind_eq_some_iff.mp hb
  obtain ⟨u1, j1, h1⟩ := Option.bind_eq_some_iff.mp h1
  have b1 := v_cMan _ j1
  have d1 := v_dMan S _ k1
  have e1 : u1 = w1 := b1.eq d1 (by rw [CX.men N.1])
  subst e1
  rcases b1 with ⟨rfl, p1⟩ | ⟨rfl, p1⟩
  · have h1 : ((e_SleepWork_isMan P F A J x2).bind fun v3 => cond (g_cnd .eq v3 0) (some (0 : Int32)) (cond (g_cnd .eq x1 x2) (some 0) (some 1))) = some v1 := h1
    obtain ⟨u2, j2, h1⟩ := Option.bind_eq_some_iff.mp h1
    have hb : ((d_isMan Fm Am Jm x2).bind fun v3 => cond (g_cnd .eq v3 0) (some ((-1 : Int32), Fm, Am, Jm)) (cond (g_cnd .eq x1 x2) (some ((-1), Fm, Am, Jm)) ((d_in x3 0 (Fm 77)).bind fun v6 => cond (g_cnd .ne v6 0) (d_pairs_41 m Fm Am Jm x1 x2 x3 0 0) (some ((-1), Fm, Am, Jm))))) = some b := hb
    obtain ⟨w2, k2, hb⟩ := Option.bind_eq_some_iff.mp hb
    have b2 := v_cMan _ j2
    have d2 := v_dMan S _ k2
    have e2 : u2 = w2 := b2.eq d2 (by rw [CX.men N.1])
    subst e2
    rcases b2 with ⟨rfl, p2⟩ | ⟨rfl, p2⟩
    · have h1 : cond (g_cnd .eq x1 x2) (some (0 : Int32)) (some 1) = some v1 := h1
      have hb : cond (g_cnd .eq x1 x2) (some ((-1 : Int32), Fm, Am, Jm)) ((d_in x3 0 (Fm 77)).bind fun v6 => cond (g_cnd .ne v6 0) (d_pairs_41 m Fm Am Jm x1 x2 x3 0 0) (some ((-1), Fm, Am, Jm))) = some b := hb
      cases hx : g_cnd .eq x1 x2 with
      | true =>
        rw [hx] at h1 hb
        obtain rfl := Option.some.inj h1
        obtain rfl := Option.some.inj ha
        obtain rfl := Option.some.inj hb
        rfl
      | false =>
        rw [hx] at h1 hb
        obtain rfl := Option.some.inj h1
        have ha : ((e_SleepWork_isKnownBy P F A J x3).bind fun v3 => cond (g_cnd .ne v3 0) ((e_Evening_fittingPairs n P F A J x1 x2 x3).bind fun (v5, P6, F7, A8, J9) => some (v5, P6, F7, A8, J9)) (some ((-1 : Int32), P, F, A, J))) = some a := ha
        obtain ⟨v3, h3, ha⟩ := Option.bind_eq_some_iff.mp ha
        have hb : ((d_in x3 0 (Fm 77)).bind fun v6 => cond (g_cnd .ne v6 0) (d_pairs_41 m Fm Am Jm x1 x2 x3 0 0) (some ((-1 : Int32), Fm, Am, Jm))) = some b := hb
        obtain ⟨w3, k3, hb⟩ := Option.bind_eq_some_iff.mp hb
        have b3 := v_cKnown _ h3
        have d3 := v_dIn _ k3
        have e3 : v3 = w3 := b3.eq d3 (by rw [i_0, e77])
        subst e3
        rcases b3 with ⟨rfl, p3⟩ | ⟨rfl, p3⟩
        · have ha : ((e_Evening_fittingPairs n P F A J x1 x2 x3).bind fun (v5, P6, F7, A8, J9) => some (v5, P6, F7, A8, J9)) = some a := ha
          have hb : d_pairs_41 m Fm Am Jm x1 x2 x3 0 0 = some b := hb
          obtain ⟨r, hr, ha⟩ := Option.bind_eq_some_iff.mp ha
          unfold e_Evening_fittingPairs at hr
          have e := p2_pairs6 (c := ci A (P 0 8) 5) (nm := (F (P 0 8) 17).toInt) (x4 := 0) (x5 := -1) (y5 := 0) (by omega) ⟨p1.1, by omega⟩ ⟨p2.1, by omega⟩ (fun t t0 => (N.s6 t0).2) ⟨X.ix G S p3.2, fun _ => rfl, rfl⟩ (.inl ⟨lm, i_0⟩) (by rw [lm]; omega) r b hr hb
          obtain ⟨v5, P6, F7, A8, J9⟩ := r
          obtain rfl := Option.some.inj ha
          exact e
        · obtain rfl := Option.some.inj ha
          obtain rfl := Option.some.inj hb
          rfl
    · obtain rfl := Option.some.inj h1
      obtain rfl := Option.some.inj ha
      obtain rfl := Option.some.inj hb
      rfl
  · obtain rfl := Option.some.inj h1
    obtain rfl := Option.some.inj ha
    obtain rfl := Option.some.inj hb
    rfl
end H9fo
end Qz172
