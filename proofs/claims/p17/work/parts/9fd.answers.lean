/-! man and tool: the same answers -/
section H9fd
variable {n m : Nat} {P P' : Nat → Nat → Nat} {F F' : Nat → Nat → Int32} {A A' : Nat → Nat → Nat → Int32} {J : Nat → Nat → Nat → Int64} {Fm Fm' : Nat → Int32} {Am Am' : Nat → Nat → Int32} {Jm : Nat → Nat → Int64} {x1 x2 x3 : Int32}
theorem p2_dd {γ δ : Type} {p : Prop} [Decidable p] {x y : Option γ} {z w : Option δ} {Q : γ → δ → Prop} (h1 : p → P2 x z Q) (h2 : ¬ p → P2 y w Q) : P2 (cond (decide p) x y) (cond (decide p) z w) Q := by
  by_cases h : p
  · rw [decide_eq_true h]
    exact h1 h
  · rw [decide_eq_false h]
    exact h2 h
theorem v_none {x : Int32} : po (d_orNone x) (fun v => v.toInt = if 0 ≤ x.toInt then x.toInt else -2) := by
  unfold d_orNone
  refine po_cond (fun c => po_some ?_) (fun c => po_some ?_)
  · rw [i_ge, i_0] at c
    rw [if_pos c]
  · rw [i_nge, i_0] at c
    rw [if_neg (by omega)]
    decide
theorem p2_tool (X : XR P F A Fm Am) (S : SAm Fm Am) : P2 (e_SleepWork_tool P F A J x1) (d_tool Fm Am Jm x1) (fun a b => a = b) := by
  obtain ⟨N, -, Y, -, -⟩ := X
  have ct := N.ct
  unfold e_SleepWork_tool d_tool
  refine p2_call (R := fun v w => BV v (0 ≤ x1.toInt ∧ x1.toInt < (F (P 0 8) 15).toInt) ∧ v = w) (p2_of v_cTool (v_dTool S) (fun a b h h' => ⟨h, h.eq h' (by rw [CX.tools N.1])⟩)) ?_
  rintro v w ⟨b, rfl⟩
  rcases b with ⟨rfl, p⟩ | ⟨rfl, p⟩
  · refine p2_cl (fun c => absurd c (by decide)) (fun _ => p2_cr (fun c => absurd c (by decide)) (fun _ => ?_))
    refine p2_bl (fun v4 h4 => p2_br (fun v3 h3 => p2_some (i_ext ?_)))
    have e := i_72 (k := 72) (x := x1) (by decide) (by omega)
    rw [show (72 : Int32).toInt = 72 by decide] at e
    rw [(gl h4).2.2, (gm h3).2.2, e]
    exact Y.1.2.2.1 x1.toInt p.1 (by omega)
  · exact p2_cl (fun _ => p2_cr (fun _ => p2_some rfl) (fun c => absurd c (by decide))) (fun c => absurd c (by decide))
theorem p2_man (X : XR P F A Fm Am) (S : SAm Fm Am) : P2 (e_SleepWork_man P F A J x1 x2) (d_man Fm Am Jm x1 x2) (fun a b => a = b) := by
  obtain ⟨N, -, Y, -, -⟩ := X
  have ct := N.ct
  have hs := N.sd
  unfold e_SleepWork_man d_man
  refine p2_call (R := fun v w => BV v (0 ≤ x1.toInt ∧ x1.toInt < (F (P 0 8) 17).toInt) ∧ v = w) (p2_of v_cMan (v_dMan S) (fun a b h h' => ⟨h, h.eq h' (by rw [CX.men N.1])⟩)) ?_
  rintro v w ⟨b, rfl⟩
  rcases b with ⟨rfl, p⟩ | ⟨rfl, p⟩
  · refine p2_cl (fun _ => p2_cr (fun _ => ?_) (fun c => absurd c (by decide))) (fun c => absurd c (by decide))
    refine p2_bl (fun v3 h3 => ?_)
    have g3 := (gl h3).2.2
    obtain ⟨L, s5, s6, s7⟩ := Y.1.2.2.2.1 x1.toInt p.1 p.2
    have ix : ∀ {k : Int32} {c : Int}, k.toInt = c → 0 ≤ c → c ≤ 100 → (k + x1).toInt = c + x1.toInt := fun {k c} e c0 c1 => by
      have := i_72 (k := k) (x := x1) (by omega) (by omega)
      rw [this, e]
    have lq : (v3.toInt = -1 ∧ ai Am 47 (42 + x1.toInt) = -1 ∧ ai Am 47 (48 + x1.toInt) = -1) ∨ (0 ≤ v3.toInt ∧ 0 ≤ ai Am 47 (42 + x1.toInt) ∧ 0 ≤ ai Am 47 (48 + x1.toInt) ∧ v3.toInt / 6 = ai Am 47 (42 + x1.toInt) ∧ v3.toInt % 6 = ai Am 47 (48 + x1.toInt)) := by
      rw [g3]
      rcases L with ⟨a, b, c⟩ | ⟨a, b, c, d, e⟩
      · exact .inl ⟨a, b, c⟩
      · have s6 := (N.s6 a).2
        have e' : ci A 2 3 x1.toInt = ai Am 47 (42 + x1.toInt) * 6 + ai Am 47 (48 + x1.toInt) := e
        have a' : 0 ≤ ai Am 47 (42 + x1.toInt) := a
        have c' : 0 ≤ ai Am 47 (48 + x1.toInt) := c
        have d' : ai Am 47 (48 + x1.toInt) < ci A (P 0 8) 5 (ai Am 47 (42 + x1.toInt)) := d
        have s6' : ci A (P 0 8) 5 (ai Am 47 (42 + x1.toInt)) ≤ 6 := s6
        exact .inr ⟨by omega, a', c', by omega, by omega⟩
    refine p2_dd (fun _ => ?_) (fun _ => ?_)
    · refine p2_bl (fun _ hk => ?_)
      obtain ⟨-, rfl⟩ := gg_chk hk
      refine p2_bl (fun v6 h6 => p2_br (fun w6 k6 => p2_some (i_ext ?_)))
      rw [(gl h6).2.2, (gm k6).2.2, ix6 hs (by omega)]
      exact N.hm p.1 p.2
    refine p2_dd (fun _ => ?_) (fun _ => ?_)
    · refine p2_br (fun w5 k5 => ?_)
      have g5 := (gm k5).2.2
      rw [ix (c := 42) (by decide) (by decide) (by decide)] at g5
      refine p2_r v_none ?_
      intro w6 q6
      rw [g5] at q6
      refine p2_cl (fun c => ?_) (fun c => ?_)
      · rw [i_ge, i_0] at c
        refine p2_bl (fun v8 h8 => p2_some (i_ext ?_))
        rw [gg_div6 h8, i_div6 c, q6, if_pos (by omega)]
        omega
      · rw [i_nge, i_0] at c
        refine p2_some (i_ext ?_)
        rw [q6, if_neg (by omega)]
        decide
    refine p2_dd (fun _ => ?_) (fun _ => ?_)
    · refine p2_br (fun w5 k5 => ?_)
      have g5 := (gm k5).2.2
      rw [ix (c := 48) (by decide) (by decide) (by decide)] at g5
      refine p2_r v_none ?_
      intro w6 q6
      rw [g5] at q6
      refine p2_cl (fun c => ?_) (fun c => ?_)
      · rw [i_ge, i_0] at c
        refine p2_bl (fun v8 h8 => p2_some (i_ext ?_))
        rw [gg_rem6 h8, i_rem6 c, q6, if_pos (by omega)]
        omega
      · rw [i_nge, i_0] at c
        refine p2_some (i_ext ?_)
        rw [q6, if_neg (by omega)]
        decide
    refine p2_dd (fun _ => ?_) (fun _ => ?_)
    · refine p2_bl (fun v8 h8 => p2_br (fun w5 k5 => p2_some (i_ext ?_)))
      rw [(gl h8).2.2, (gm k5).2.2, ix (c := 54) (by decide) (by decide) (by decide)]
      exact s5
    refine p2_dd (fun _ => ?_) (fun _ => ?_)
    · refine p2_bl (fun v8 h8 => p2_br (fun w5 k5 => p2_some (i_ext ?_)))
      rw [(gl h8).2.2, (gm k5).2.2, ix (c := 60) (by decide) (by decide) (by decide)]
      exact s6
    refine p2_dd (fun _ => ?_) (fun _ => p2_some rfl)
    · refine p2_bl (fun v8 h8 => p2_br (fun w5 k5 => p2_some (i_ext ?_)))
      rw [(gl h8).2.2, (gm k5).2.2, ix (c := 66) (by decide) (by decide) (by decide)]
      exact s7
  · exact p2_cl (fun c => absurd c (by decide)) (fun _ => p2_cr (fun c => absurd c (by decide)) (fun _ => p2_some rfl))
end H9fd
