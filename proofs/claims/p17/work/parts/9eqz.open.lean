/-! what the class's reader begins with -/
section C8z
variable {d r o n : Nat} {P P' : Nat → Nat → Nat} {F F' : Nat → Nat → Int32} {A A' : Nat → Nat → Nat → Int32} {J : Nat → Nat → Nat → Int64} {x : Int32}
theorem gg_cfv (h : c_fi A r o n x = some A') : (∀ j, 0 ≤ j → j < (n : Int) → ci A' r o j = x.toInt) ∧ (∀ r' o', ¬ (r' = r ∧ o' = o) → A' r' o' = A r' o') := by
  have z : ok ((c_fi A r o n x).bind some) (fun A' => (∀ j, 0 ≤ j → j < (n : Int) → ci A' r o j = x.toInt) ∧ (∀ r' o', ¬ (r' = r ∧ o' = o) → A' r' o' = A r' o')) := ok_cfi (fun A' a b c => ok_some ⟨a, c⟩)
  rw [h] at z
  obtain ⟨a, e, z⟩ := z
  cases e
  exact z
/-- a state that holds nothing -/
def CLv (r : Nat) (F : Nat → Nat → Int32) (A : Nat → Nat → Nat → Int32) : Prop := (∀ k : Int, 0 ≤ k → k < 36 → ci A r 1 k = 0) ∧ (∀ k : Int, 0 ≤ k → k < 6 → ci A r 2 k = 0 ∧ ci A r 3 k = -1 ∧ ci A r 4 k = 0 ∧ ci A r 5 k = 0 ∧ ci A r 6 k = 0 ∧ ci A r 7 k = -2) ∧ F r 7 = 0 ∧ F r 8 = 0
theorem CLv.fr (h : CLv r F A) (hF : ∀ k, F' r k = F r k) (hA : ∀ o, A' r o = A r o) : CLv r F' A' := by
  unfold CLv
  rw [hF, hF, ci_fr (hA 1), ci_fr (hA 2), ci_fr (hA 3), ci_fr (hA 4), ci_fr (hA 5), ci_fr (hA 6), ci_fr (hA 7)]
  exact h
theorem v_clear : po (e_State_clear P F A J r) (fun z => CLv r z.2.2.1 z.2.2.2.1) := by
  have l0 := i_0
  have lm1 : ((-1 : Int32)).toInt = -1 := by decide
  have lm2 : ((-2 : Int32)).toInt = -2 := by decide
  unfold e_State_clear
  refine po_bl (fun A1 h1 => po_bl (fun A2 h2 => po_bl (fun A3 h3 => po_bl (fun A4 h4 => po_bl (fun A5 h5 => po_bl (fun A6 h6 => po_bl (fun A7 h7 => po_bl (fun F8 h8 => po_bl (fun F9 h9 => po_some ?_)))))))))
  have a1 := gg_cfv h1
  have a2 := gg_cfv h2
  have a3 := gg_cfv h3
  have a4 := gg_cfv h4
  have a5 := gg_cfv h5
  have a6 := gg_cfv h6
  have a7 := gg_cfv h7
  have u8 := gg_cpf h8
  have u9 := gg_cpf h9
  have r1 : A7 r 1 = A1 r 1 := by rw [a7.2 r 1 (by omega), a6.2 r 1 (by omega), a5.2 r 1 (by omega), a4.2 r 1 (by omega), a3.2 r 1 (by omega), a2.2 r 1 (by omega)]
  have r2 : A7 r 2 = A2 r 2 := by rw [a7.2 r 2 (by omega), a6.2 r 2 (by omega), a5.2 r 2 (by omega), a4.2 r 2 (by omega), a3.2 r 2 (by omega)]
  have r3 : A7 r 3 = A3 r 3 := by rw [a7.2 r 3 (by omega), a6.2 r 3 (by omega), a5.2 r 3 (by omega), a4.2 r 3 (by omega)]
  have r4 : A7 r 4 = A4 r 4 := by rw [a7.2 r 4 (by omega), a6.2 r 4 (by omega), a5.2 r 4 (by omega)]
  have r5 : A7 r 5 = A5 r 5 := by rw [a7.2 r 5 (by omega), a6.2 r 5 (by omega)]
  have r6 : A7 r 6 = A6 r 6 := a7.2 r 6 (by omega)
  refine ⟨fun k k0 k1 => ?_, fun k k0 k1 => ⟨?_, ?_, ?_, ?_, ?_, ?_⟩, ?_, u9.1⟩
  · show ci A7 r 1 k = 0
    rw [ci_fr r1, a1.1 k k0 k1, l0]
  · show ci A7 r 2 k = 0
    rw [ci_fr r2, a2.1 k k0 k1, l0]
  · show ci A7 r 3 k = -1
    rw [ci_fr r3, a3.1 k k0 k1, lm1]
  · show ci A7 r 4 k = 0
    rw [ci_fr r4, a4.1 k k0 k1, l0]
  · show ci A7 r 5 k = 0
    rw [ci_fr r5, a5.1 k k0 k1, l0]
  · show ci A7 r 6 k = 0
    rw [ci_fr r6, a6.1 k k0 k1, l0]
  · show ci A7 r 7 k = -2
    rw [a7.1 k k0 k1, lm2]
  · show F9 r 7 = 0
    rw [u9.2 r 7 (by omega), u8.1]
theorem v_hclear : po (e_House_clear P F A J r) (fun z => (∀ k : Int, 0 ≤ k → k < 6 → ci z.2.2.2.1 r 14 k = -1) ∧ z.2.2.1 r 1304 = 0) := by
  have lm1 : ((-1 : Int32)).toInt = -1 := by decide
  unfold e_House_clear e_Laws_clear
  refine po_bl (fun F1 h1 => po_bl (fun F2 h2 => po_bl (fun F3 h3 => po_bl (fun F4 h4 => po_bl (fun F5 h5 => po_bl (fun F6 h6 => po_bl (fun A7 h7 => ?_)))))))
  refine po_call (R := fun z => (∀ k : Int, 0 ≤ k → k < 6 → ci z.2.2.2.1 r 14 k = -1) ∧ z.2.2.1 r 1304 = 0) ?_ ?_
  · refine po_bl (fun F8 h8 => po_bl (fun A9 h9 => po_some ⟨fun k k0 k1 => ?_, (gg_cpf h8).1⟩))
    rw [show ci A9 r 14 k = _ from (gg_cfv h9).1 k k0 (by omega), lm1]
  · rintro ⟨u, P9, F10, A11, J12⟩ h
    exact po_some h
theorem v_open (hk : c_kind d = 6) (R : Rc F A) (hn : 5200 ≤ n) : po (e_Reader_open n P F A J d 3) (fun z => CLv 3 z.2.2.1 z.2.2.2.1 ∧ (z.2.2.1 d 18).toInt = 480 ∧ z.2.2.1 d 1304 = 0 ∧ ∀ k : Int, 0 ≤ k → k < 6 → ci z.2.2.2.1 d 14 k = -1) := by
  have hd := kd37 hk
  have h3 := kd3 hk
  unfold e_Reader_open
  refine po_bl (fun P1 e1 => ?_)
  have u1 := gg_cpp e1
  refine po_bl (fun P2 e2 => ?_)
  have u2 := gg_cpp e2
  have x5 : P2 37 5 = d := (u2.2 37 5 (by simp)).trans u1.1
  refine po_bl (fun q3 e3 => ?_)
  obtain ⟨-, rfl⟩ := gg_chk e3
  rw [x5]
  refine po_call (fun a ha => And.intro ((s_houseClear hk R).po a ha) (v_hclear a ha)) ?_
  rintro ⟨u3, P3, F3, A3, J3⟩ ⟨⟨g1, g2, g3, g4, g5, g6, g7, g8, g9, g10⟩, g11, g12⟩
  dsimp only at g1 g2 g3 g4 g5 g6 g7 g8 g9 g10 g11 g12 ⊢
  subst g1
  refine po_bl (fun q9 e9 => ?_)
  obtain ⟨-, rfl⟩ := gg_chk e9
  rw [show P3 37 6 = 3 from u2.1]
  refine po_call (fun a ha => And.intro ((s_clear (r0 := 3) (by decide) g4).po a ha) (v_clear a ha)) ?_
  rintro ⟨u4, P4, F4, A4, J4⟩ ⟨⟨y1, y2, y3, y4, y5⟩, cl⟩
  dsimp only at y1 y2 y3 y4 y5 cl ⊢
  subst y1
  refine po_bl (fun F5 h5 => po_bl (fun F6 h6 => po_bl (fun F7 h7 => po_bl (fun F8 h8 => po_bl (fun F9 h9 => ?_)))))
  have U5 := gg_cpf h5
  have U6 := gg_cpf h6
  have U7 := gg_cpf h7
  have U8 := gg_cpf h8
  have U9 := gg_cpf h9
  have R9 : Rc F9 A4 := ((((y4.pf U5 (show 0 ≤ (0 : Int32).toInt ∧ (0 : Int32).toInt ≤ 400 by decide)).pf U6 (show 0 ≤ (0 : Int32).toInt ∧ (0 : Int32).toInt ≤ 400 by decide)).pf U7 (show 0 ≤ (0 : Int32).toInt ∧ (0 : Int32).toInt ≤ 8 by decide)).pf U8 trivial).pf U9 trivial
  refine po_call (s_scanAll R9 (by omega)).po ?_
  rintro ⟨u10, P10, F10, A10, J10⟩ ⟨z1, z2, z3, z4⟩
  dsimp only at z1 z2 z3 z4 ⊢
  have f37 : ∀ r k, r ≠ 37 → F10 r k = F4 r k := fun r k h => (z2 r k (fun e => h e.1)).trans ((U9.2 r k (fun e => h e.1)).trans ((U8.2 r k (fun e => h e.1)).trans ((U7.2 r k (fun e => h e.1)).trans ((U6.2 r k (fun e => h e.1)).trans (U5.2 r k (fun e => h e.1))))))
  refine po_some ⟨cl.fr (fun k => f37 3 k (by decide)) (fun o => z3 3 o (by simp)), ?_, ?_, fun k k0 k1 => ?_⟩
  · show (F10 d 18).toInt = 480
    rw [f37 d 18 hd, y2 d 18 h3]
    exact g8
  · show F10 d 1304 = 0
    rw [f37 d 1304 hd, y2 d 1304 h3]
    exact g12
  · show ci A10 d 14 k = -1
    rw [ci_fr (z3 d 14 (fun e => hd e.1)), ci_fr (y3 d 14 h3)]
    exact g11 k k0 k1
/-- nothing is told yet -/
theorem RW.nil {Fm : Nat → Int32} {Am : Nat → Nat → Int32} (c : CLv 3 F A) (h14 : F d 14 = 0) (h15 : F d 15 = 0) (h16 : F d 16 = 0) (h17 : F d 17 = 0) (h18 : F d 18 = Am 41 (Fm 19).toInt.toNat) : RW d F A Fm Am := by
  show RWc (F d 14).toInt (F d 15).toInt (F d 16).toInt (F d 17).toInt d F A Fm Am
  rw [h14, h15, h16, h17, i_0]
  obtain ⟨c1, c2, c3, c4⟩ := c
  exact ⟨⟨fun k k0 k1 => absurd k1 (by omega), c3⟩, ⟨fun k k0 k1 => absurd k1 (by omega), fun k k0 k1 => (c2 k k0 k1).2.2.1⟩, ⟨fun k k0 k1 => absurd k1 (by omega), fun k k0 k1 => (c2 k k0 k1).1⟩, fun t u t0 t1 _ _ => absurd t1 (by omega), ⟨fun k k0 k1 => absurd k1 (by omega), fun k k0 k1 => (c2 k k0 k1).2.1⟩, ⟨c1, fun k k0 k1 => (c2 k k0 k1).2.2.2, c4⟩, h18⟩
end C8z
