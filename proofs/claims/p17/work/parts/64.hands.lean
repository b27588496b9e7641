set_option maxRecDepth 10000 in
theorem s_d_leave {k : Int} {F : Nat → Int32} {A : Nat → Nat → Int32} {J : Nat → Nat → Int64} {x1 : Int32} {x2 : Int32} {x3 : Int32} (hF : IFm F) (hA : IAm A) (hk : k ≤ 6) (MFA : k = ai A 29 (F 18).toInt) (PFA : RVm F A 47 k) : ok (d_leave F A J x1 x2 x3) (fun r => IFm r.2.1 ∧ IAm r.2.2.1 ∧ (∀ q, q ∉ ([] : List Nat) → r.2.1 q = F q) ∧ (∀ q, q ∉ ([47] : List Nat) → r.2.2.1 q = A q) ∧ RVm r.2.1 r.2.2.1 47 k) := by
  have r18 : 0 ≤ (F 18).toInt ∧ (F 18).toInt ≤ 1 := hF 18
  unfold d_leave
  refine ok_call (s_d_isMan hF hA) ?_
  intro v_1 v_1_p
  have v_1_p : (v_1.toInt = 0 ∨ (v_1.toInt = 1 ∧ 0 ≤ x1.toInt ∧ x1.toInt < ai A 29 (F 18).toInt ∧ x1.toInt < 6)) := v_1_p
  have l_2 : (0 : Int32).toInt = 0 := by decide
  refine ok_cond (fun c_3 => ?_) (fun c_3 => ?_)
  · rw [i_eq] at c_3
    refine ok_some ?_
    refine ⟨hF, hA, (fun q hq => rfl), (fun q hq => rfl), ?_⟩
    first | exact QFA | exact PFA
  · rw [i_neq] at c_3
    refine ok_call (s_d_isLeft hF hA) ?_
    intro v_4 v_4_p
    have v_4_p : (v_4.toInt = 0 ∨ (v_4.toInt = 1 ∧ ((x2.toInt = -1 ∧ x3.toInt = -1) ∨ (0 ≤ x2.toInt ∧ x2.toInt < ai A 19 (F 18).toInt ∧ x2.toInt < 6 ∧ 0 ≤ x3.toInt ∧ x3.toInt < ai A 22 (6 * (F 18).toInt + x2.toInt) ∧ x3.toInt < 6)))) := v_4_p
    refine ok_cond (fun c_5 => ?_) (fun c_5 => ?_)
    · rw [i_ne] at c_5
      have l_6 : (42 : Int32).toInt = 42 := by decide
      have e_7 := i_add (x := 42) (y := x1) (by omega) (by omega)
      refine ok_st (j := 47) hA (by omega) (by omega) (trivial) ?_
      intro A_8 hA_8 A_8_o A_8_s A_8_n
      have l_9 : (48 : Int32).toInt = 48 := by decide
      have e_10 := i_add (x := 48) (y := x1) (by omega) (by omega)
      refine ok_st (j := 47) hA_8 (by omega) (by omega) (trivial) ?_
      intro A_11 hA_11 A_11_o A_11_s A_11_n
      have QFA_11 : RVm F A_11 47 k := PFA.lv (by decide) A_8_o A_8_s A_8_n A_11_o A_11_s A_11_n (i := x1.toInt) (by omega) (by omega) (by omega) hk (fun q => by first | (exfalso; omega) | exact ⟨by omega, by omega, by omega, by omega⟩)
      refine ok_some ?_
      refine ⟨hF, hA_11, (fun q hq => rfl), (fun q hq => ((A_11_o q (fun e => hq (by rw [e]; decide))).trans (A_8_o q (fun e => hq (by rw [e]; decide))))), ?_⟩
      first | exact QFA_11 | exact PFA_11
    · rw [i_nne] at c_5
      refine ok_some ?_
      refine ⟨hF, hA, (fun q hq => rfl), (fun q hq => rfl), ?_⟩
      first | exact QFA | exact PFA
set_option maxRecDepth 10000 in
theorem s_d_lay {k : Int} {F : Nat → Int32} {A : Nat → Nat → Int32} {J : Nat → Nat → Int64} {x1 : Int32} {x2 : Int32} (hF : IFm F) (hA : IAm A) (hk : k ≤ 6) (PFA : RVm F A 47 k) : ok (d_lay F A J x1 x2) (fun r => IFm r.2.1 ∧ IAm r.2.2.1 ∧ (∀ q, q ∉ ([] : List Nat) → r.2.1 q = F q) ∧ (∀ q, q ∉ ([47] : List Nat) → r.2.2.1 q = A q) ∧ RVm r.2.1 r.2.2.1 47 k) := by
  have r18 : 0 ≤ (F 18).toInt ∧ (F 18).toInt ≤ 1 := hF 18
  unfold d_lay
  refine ok_call (s_d_isTool hF hA) ?_
  intro v_1 v_1_p
  have v_1_p : (v_1.toInt = 0 ∨ (v_1.toInt = 1 ∧ 0 ≤ x1.toInt ∧ x1.toInt < ai A 17 (F 18).toInt ∧ x1.toInt < 6)) := v_1_p
  have l_2 : (0 : Int32).toInt = 0 := by decide
  refine ok_cond (fun c_3 => ?_) (fun c_3 => ?_)
  · rw [i_eq] at c_3
    refine ok_some ?_
    refine ⟨hF, hA, (fun q hq => rfl), (fun q hq => rfl), ?_⟩
    exact PFA
  · rw [i_neq] at c_3
    refine ok_call (s_d_isRoom hF hA) ?_
    intro v_4 v_4_p
    have v_4_p : (v_4.toInt = 0 ∨ (v_4.toInt = 1 ∧ 0 ≤ x2.toInt ∧ x2.toInt < ai A 11 (F 18).toInt ∧ x2.toInt < 8)) := v_4_p
    refine ok_cond (fun c_5 => ?_) (fun c_5 => ?_)
    · rw [i_ne] at c_5
      have l_6 : (72 : Int32).toInt = 72 := by decide
      have e_7 := i_add (x := 72) (y := x1) (by omega) (by omega)
      refine ok_st (j := 47) hA (by omega) (by omega) (trivial) ?_
      intro A_8 hA_8 A_8_o A_8_s A_8_n
      have PFA_8 : RVm F A_8 47 k := PFA.st (by decide) A_8_o A_8_n (by omega) hk
      refine ok_some ?_
      refine ⟨hF, hA_8, (fun q hq => rfl), (fun q hq => (A_8_o q (fun e => hq (by rw [e]; decide)))), ?_⟩
      exact PFA_8
    · rw [i_nne] at c_5
      refine ok_some ?_
      refine ⟨hF, hA, (fun q hq => rfl), (fun q hq => rfl), ?_⟩
      exact PFA
set_option maxRecDepth 10000 in
theorem s_d_give {k : Int} {F : Nat → Int32} {A : Nat → Nat → Int32} {J : Nat → Nat → Int64} {x1 : Int32} {x2 : Int32} (hF : IFm F) (hA : IAm A) (hk : k ≤ 6) (PFA : RVm F A 47 k) : ok (d_give F A J x1 x2) (fun r => IFm r.2.1 ∧ IAm r.2.2.1 ∧ (∀ q, q ∉ ([] : List Nat) → r.2.1 q = F q) ∧ (∀ q, q ∉ ([47] : List Nat) → r.2.2.1 q = A q) ∧ RVm r.2.1 r.2.2.1 47 k) := by
  have r18 : 0 ≤ (F 18).toInt ∧ (F 18).toInt ≤ 1 := hF 18
  unfold d_give
  refine ok_call (s_d_isTool hF hA) ?_
  intro v_1 v_1_p
  have v_1_p : (v_1.toInt = 0 ∨ (v_1.toInt = 1 ∧ 0 ≤ x1.toInt ∧ x1.toInt < ai A 17 (F 18).toInt ∧ x1.toInt < 6)) := v_1_p
  have l_2 : (0 : Int32).toInt = 0 := by decide
  refine ok_cond (fun c_3 => ?_) (fun c_3 => ?_)
  · rw [i_eq] at c_3
    refine ok_some ?_
    refine ⟨hF, hA, (fun q hq => rfl), (fun q hq => rfl), ?_⟩
    exact PFA
  · rw [i_neq] at c_3
    refine ok_call (s_d_isMan hF hA) ?_
    intro v_4 v_4_p
    have v_4_p : (v_4.toInt = 0 ∨ (v_4.toInt = 1 ∧ 0 ≤ x2.toInt ∧ x2.toInt < ai A 29 (F 18).toInt ∧ x2.toInt < 6)) := v_4_p
    refine ok_cond (fun c_5 => ?_) (fun c_5 => ?_)
    · rw [i_ne] at c_5
      have l_6 : (72 : Int32).toInt = 72 := by decide
      have e_7 := i_add (x := 72) (y := x1) (by omega) (by omega)
      refine ok_st (j := 47) hA (by omega) (by omega) (trivial) ?_
      intro A_8 hA_8 A_8_o A_8_s A_8_n
      have PFA_8 : RVm F A_8 47 k := PFA.st (by decide) A_8_o A_8_n (by omega) hk
      refine ok_some ?_
      refine ⟨hF, hA_8, (fun q hq => rfl), (fun q hq => (A_8_o q (fun e => hq (by rw [e]; decide)))), ?_⟩
      exact PFA_8
    · rw [i_nne] at c_5
      refine ok_some ?_
      refine ⟨hF, hA, (fun q hq => rfl), (fun q hq => rfl), ?_⟩
      exact PFA
set_option maxRecDepth 10000 in
theorem s_d_bar {k : Int} {F : Nat → Int32} {A : Nat → Nat → Int32} {J : Nat → Nat → Int64} {x1 : Int32} {x2 : Int32} (hF : IFm F) (hA : IAm A) (hk : k ≤ 6) (PFA : RVm F A 47 k) : ok (d_bar F A J x1 x2) (fun r => IFm r.2.1 ∧ IAm r.2.2.1 ∧ (∀ q, q ∉ ([] : List Nat) → r.2.1 q = F q) ∧ (∀ q, q ∉ ([47] : List Nat) → r.2.2.1 q = A q) ∧ RVm r.2.1 r.2.2.1 47 k) := by
  have r18 : 0 ≤ (F 18).toInt ∧ (F 18).toInt ≤ 1 := hF 18
  unfold d_bar
  have r_1 : 0 ≤ (F 18).toInt ∧ (F 18).toInt ≤ 1 := hF 18
  refine ok_ld (j := 12) hA (by omega) (by omega) ?_
  intro v_2 v_2_e v_2_r
  have v_2_r : 0 ≤ v_2.toInt ∧ v_2.toInt ≤ 12 := v_2_r
  have l_3 : (0 : Int32).toInt = 0 := by decide
  have l_4 : (1 : Int32).toInt = 1 := by decide
  have e_5 := i_sub (x := v_2) (y := 1) (by omega) (by omega)
  refine ok_call (s_d_in ) ?_
  intro v_6 v_6_p
  have v_6_p : v_6.toInt = (if (0 : Int32).toInt ≤ x1.toInt ∧ x1.toInt ≤ (v_2 - 1).toInt then 1 else 0) := v_6_p
  refine ok_cond (fun c_7 => ?_) (fun c_7 => ?_)
  · rw [i_ne] at c_7
    refine ok_cond (fun c_8 => ?_) (fun c_8 => ?_)
    · rw [i_eq] at c_8
      have l_9 : (78 : Int32).toInt = 78 := by decide
      refine ok_ld (j := 47) hA (by omega) (by omega) ?_
      intro v_10 v_10_e v_10_r
      unfold d_bar_58
      refine ok_st (j := 47) hA (by omega) (by omega) (trivial) ?_
      intro A_11 hA_11 A_11_o A_11_s A_11_n
      have PFA_11 : RVm F A_11 47 k := PFA.st (by decide) A_11_o A_11_n (by omega) hk
      refine ok_some ?_
      refine ⟨hF, hA_11, (fun q hq => rfl), (fun q hq => (A_11_o q (fun e => hq (by rw [e]; decide)))), ?_⟩
      exact PFA_11
    · rw [i_neq] at c_8
      have l_12 : (78 : Int32).toInt = 78 := by decide
      refine ok_ld (j := 47) hA (by omega) (by omega) ?_
      intro v_13 v_13_e v_13_r
      unfold d_bar_58
      refine ok_st (j := 47) hA (by omega) (by omega) (trivial) ?_
      intro A_14 hA_14 A_14_o A_14_s A_14_n
      have PFA_14 : RVm F A_14 47 k := PFA.st (by decide) A_14_o A_14_n (by omega) hk
      refine ok_some ?_
      refine ⟨hF, hA_14, (fun q hq => rfl), (fun q hq => (A_14_o q (fun e => hq (by rw [e]; decide)))), ?_⟩
      exact PFA_14
  · rw [i_nne] at c_7
    refine ok_some ?_
    refine ⟨hF, hA, (fun q hq => rfl), (fun q hq => rfl), ?_⟩
    exact PFA
set_option maxRecDepth 10000 in
theorem s_d_work {n : Nat} {k : Int} {F : Nat → Int32} {A : Nat → Nat → Int32} {J : Nat → Nat → Int64} {x1 : Int32} {x2 : Int32} (hF : IFm F) (hA : IAm A) (hn : 200 ≤ n) (hk : k ≤ 6) (hk0 : 0 ≤ k) (VFA : VMs F A) (MFA : k = ai A 29 (F 18).toInt) (PFA : RVm F A 47 k) : ok (d_work n F A J x1 x2) (fun r => IFm r.2.1 ∧ IAm r.2.2.1 ∧ (∀ q, q ∉ ([] : List Nat) → r.2.1 q = F q) ∧ (∀ q, q ∉ ([47, 48] : List Nat) → r.2.2.1 q = A q) ∧ RVm r.2.1 r.2.2.1 47 k) := by
  have r18 : 0 ≤ (F 18).toInt ∧ (F 18).toInt ≤ 1 := hF 18
  unfold d_work
  refine ok_call (s_d_isStep hF hA) ?_
  intro v_1 v_1_p
  have v_1_p : (v_1.toInt = 0 ∨ (v_1.toInt = 1 ∧ 0 ≤ x1.toInt ∧ x1.toInt < ai A 19 (F 18).toInt ∧ x1.toInt < 6 ∧ 0 ≤ x2.toInt ∧ x2.toInt < ai A 22 (6 * (F 18).toInt + x1.toInt) ∧ x2.toInt < 6)) := v_1_p
  have l_2 : (0 : Int32).toInt = 0 := by decide
  refine ok_cond (fun c_3 => ?_) (fun c_3 => ?_)
  · rw [i_eq] at c_3
    refine ok_some ?_
    refine ⟨hF, hA, (fun q hq => rfl), (fun q hq => rfl), ?_⟩
    exact PFA
  · rw [i_neq] at c_3
    refine ok_ld (j := 47) hA (by omega) (by omega) ?_
    intro v_4 v_4_e v_4_r
    have hs0 : SVm F A x1.toInt x2.toInt := ⟨by omega, by omega, by omega, by omega⟩
    refine ok_cond (fun c_5 => ?_) (fun c_5 => ?_)
    · rw [i_ne] at c_5
      refine ok_call (s2_d_takes hF hA (by omega) (by omega) (PFA)) ?_
      rintro ⟨u_6, F_7, A_8, J_9⟩ ⟨hF_7, hA_8, F_7_o, A_8_o, u_6_p⟩
      dsimp only at hF_7 hA_8 F_7_o A_8_o u_6_p ⊢
      have u_6_p : RVm F_7 A_8 48 k := u_6_p
      have r_10 : 0 ≤ (F_7 18).toInt ∧ (F_7 18).toInt ≤ 1 := hF_7 18
      have r_11 : 0 ≤ (F 18).toInt ∧ (F 18).toInt ≤ 1 := hF 18
      have f_12 : (F_7 18).toInt = (F 18).toInt := congrArg Int32.toInt (F_7_o 18 (by decide))
      have VF_7A_8 : VMs F_7 A_8 := VFA.fr (F_7_o 18 (by decide)) (fun q h1 h2 => A_8_o q (by intro e; simp at e <;> omega))
      have MF_7A_8 : k = ai A_8 29 (F_7 18).toInt := by rw [ai_fr (A_8_o 29 (by decide)), F_7_o 18 (by decide)] <;> exact MFA
      have PF_7A_8 : RVm F_7 A_8 47 k := PFA.cg (F_7_o 18 (by decide)) (A_8_o 19 (by decide)) (A_8_o 22 (by decide)) (fun m _ _ => by rw [ai_fr (A_8_o 47 (by decide))]; exact ⟨rfl, rfl⟩)
      have RF_7A_8 : RVm F_7 A_8 48 k := u_6_p
      refine ok_ld (j := 48) hA_8 (by omega) (by omega) ?_
      intro v_13 v_13_e v_13_r
      refine ok_st (j := 48) hA_8 (by omega) (by omega) (trivial) ?_
      intro A_14 hA_14 A_14_o A_14_s A_14_n
      have VF_7A_14 : VMs F_7 A_14 := VF_7A_8.fr rfl (fun q h1 h2 => A_14_o q (by omega))
      have MF_7A_14 : k = ai A_14 29 (F_7 18).toInt := by rw [ai_fr (A_14_o 29 (by decide))] <;> exact MF_7A_8
      have PF_7A_14 : RVm F_7 A_14 47 k := PF_7A_8.sto A_14_o (by decide) (by decide)
      have RF_7A_14 : RVm F_7 A_14 48 k := RF_7A_8.st (by decide) A_14_o A_14_n (by omega) hk
      have hs : SVm F_7 A_14 x1.toInt x2.toInt := (hs0.fr (F_7_o 18 (by decide)) (A_8_o 19 (by decide)) (A_8_o 22 (by decide))).fr rfl (A_14_o 19 (by decide)) (A_14_o 22 (by decide))
      refine ok_call (s_d_does hF_7 hA_14 (VF_7A_14) (by assumption) (by omega) (by omega)) ?_
      rintro ⟨u_15, F_16, A_17, J_18⟩ ⟨hF_16, hA_17, F_16_o, A_17_o, u_15_p⟩
      dsimp only at hF_16 hA_17 F_16_o A_17_o u_15_p ⊢
      have u_15_p : ∀ i, 42 ≤ i → ai A_17 48 i = ai A_14 48 i := u_15_p
      have r_19 : 0 ≤ (F_16 18).toInt ∧ (F_16 18).toInt ≤ 1 := hF_16 18
      have f_20 : (F_16 18).toInt = (F_7 18).toInt := congrArg Int32.toInt (F_16_o 18 (by decide))
      have VF_16A_17 : VMs F_16 A_17 := VF_7A_14.fr (F_16_o 18 (by decide)) (fun q h1 h2 => A_17_o q (by intro e; simp at e <;> omega))
      have MF_16A_17 : k = ai A_17 29 (F_16 18).toInt := by rw [ai_fr (A_17_o 29 (by decide)), F_16_o 18 (by decide)] <;> exact MF_7A_14
      have PF_16A_17 : RVm F_16 A_17 47 k := PF_7A_14.cg (F_16_o 18 (by decide)) (A_17_o 19 (by decide)) (A_17_o 22 (by decide)) (fun m _ _ => by rw [ai_fr (A_17_o 47 (by decide))]; exact ⟨rfl, rfl⟩)
      have RF_16A_17 : RVm F_16 A_17 48 k := RF_7A_14.cg (F_16_o 18 (by decide)) (A_17_o 19 (by decide)) (A_17_o 22 (by decide)) (fun m _ _ => ⟨u_15_p (42 + m) (by omega), u_15_p (48 + m) (by omega)⟩)
      refine ok_mono (s_d_work_42 hF_16 hA_17 (by omega) (RF_16A_17) (fun t h0 h1 => absurd h1 (by omega)) (by omega) (by omega)) ?_
      rintro ⟨v_21, F_22, A_23, J_24⟩ ⟨hF_22, hA_23, F_22_o, A_23_o, v_21_p⟩
      dsimp only at hF_22 hA_23 F_22_o A_23_o v_21_p ⊢
      have v_21_p : RVm F_22 A_23 47 k := v_21_p
      have VF_22A_23 : VMs F_22 A_23 := VF_16A_17.fr (F_22_o 18 (by decide)) (fun q h1 h2 => A_23_o q (by intro e; simp at e <;> omega))
      have MF_22A_23 : k = ai A_23 29 (F_22 18).toInt := by rw [ai_fr (A_23_o 29 (by decide)), F_22_o 18 (by decide)] <;> exact MF_16A_17
      have PF_22A_23 : RVm F_22 A_23 47 k := v_21_p
      refine ⟨hF_22, hA_23, (fun q hq => (((F_22_o q hq).trans (F_16_o q hq)).trans (F_7_o q hq))), (fun q hq => ((((A_23_o q (fun e => hq ((by decide : ∀ x, x ∈ ([47] : List Nat) → x ∈ ([47, 48] : List Nat)) q e))).trans (A_17_o q (fun e => hq ((by decide : ∀ x, x ∈ ([48] : List Nat) → x ∈ ([47, 48] : List Nat)) q e)))).trans (A_14_o q (fun e => hq (by rw [e]; decide)))).trans (A_8_o q (fun e => hq ((by decide : ∀ x, x ∈ ([48] : List Nat) → x ∈ ([47, 48] : List Nat)) q e))))), ?_⟩
      exact PF_22A_23
    · rw [i_nne] at c_5
      refine ok_some ?_
      refine ⟨hF, hA, (fun q hq => rfl), (fun q hq => rfl), ?_⟩
      exact PFA
set_option maxRecDepth 10000 in
theorem s_d_night_51  {n : Nat} {k : Int} {F : Nat → Int32} {A : Nat → Nat → Int32} {J : Nat → Nat → Int64} {x1 : Int32} (hF : IFm F) (hA : IAm A) (hk : k ≤ 6) (hk0 : 0 ≤ k) (VFA : VMs F A) (MFA : k = ai A 29 (F 18).toInt) (PFA : RVm F A 47 k) (hu : (F 74).toInt ≤ 19) (IFA : HIm F A k) (CFA : ∀ t, 0 ≤ t → t < x1.toInt → ai A 57 (100 * (F 74).toInt + t) = ai A 47 (0 + t)) (rx1 : 0 ≤ x1.toInt ∧ x1.toInt ≤ 100) (hn : 11000 - x1.toInt < (n : Int)) : ok (d_night_51 n F A J x1) (fun r => IFm r.2.1 ∧ IAm r.2.2.1 ∧ (∀ q, q ∉ ([63, 74] : List Nat) → r.2.1 q = F q) ∧ (∀ q, q ∉ ([45, 46, 47, 48, 49, 50, 51, 52, 53, 54, 55, 56, 57] : List Nat) → r.2.2.1 q = A q) ∧ RVm r.2.1 r.2.2.1 47 k ∧ HIm r.2.1 r.2.2.1 k) := by
  induction n generalizing F A J x1 with
  | zero => exact absurd hn (by omega)
  | succ n ih =>
    have r18 : 0 ≤ (F 18).toInt ∧ (F 18).toInt ≤ 1 := hF 18
    unfold d_night_51
    have l_1 : (100 : Int32).toInt = 100 := by decide
    refine ok_cond (fun c_2 => ?_) (fun c_2 => ?_)
    · rw [i_ge] at c_2
      have r_3 : 0 ≤ (F 74).toInt ∧ (F 74).toInt ≤ 20 := hF 74
      have l_4 : (1 : Int32).toInt = 1 := by decide
      have e_5 := i_add (x := (F 74)) (y := 1) (by omega) (by omega)
      refine ok_pf hF (⟨by omega, by omega⟩) ?_
      intro F_6 hF_6 F_6_k F_6_o
      have VF_6A : VMs F_6 A := VFA.fr (F_6_o 18 (by decide)) (fun _ _ _ => rfl)
      have MF_6A : k = ai A 29 (F_6 18).toInt := by rw [F_6_o 18 (by decide)] <;> exact MFA
      have PF_6A : RVm F_6 A 47 k := PFA.cg (F_6_o 18 (by decide)) rfl rfl (fun _ _ _ => ⟨rfl, rfl⟩)
      have IF_6A : HIm F_6 A k := IFA.up PFA (fun t h0 h1 => CFA t h0 (by omega)) (F_6_o 18 (by decide)) (by rw [F_6_k]; omega) hk
      refine ok_call (s2_d_takes hF_6 hA (by omega) (by omega) (PF_6A)) ?_
      rintro ⟨u_7, F_8, A_9, J_10⟩ ⟨hF_8, hA_9, F_8_o, A_9_o, u_7_p⟩
      dsimp only at hF_8 hA_9 F_8_o A_9_o u_7_p ⊢
      have u_7_p : RVm F_8 A_9 48 k := u_7_p
      have r_11 : 0 ≤ (F_8 18).toInt ∧ (F_8 18).toInt ≤ 1 := hF_8 18
      have r_12 : 0 ≤ (F_6 18).toInt ∧ (F_6 18).toInt ≤ 1 := hF_6 18
      have r_13 : 0 ≤ (F 18).toInt ∧ (F 18).toInt ≤ 1 := hF 18
      have f_14 : (F_6 18).toInt = (F 18).toInt := congrArg Int32.toInt (F_6_o 18 (by decide))
      have f_15 : (F_8 18).toInt = (F_6 18).toInt := congrArg Int32.toInt (F_8_o 18 (by decide))
      have VF_8A_9 : VMs F_8 A_9 := VF_6A.fr (F_8_o 18 (by decide)) (fun q h1 h2 => A_9_o q (by intro e; simp at e <;> omega))
      have MF_8A_9 : k = ai A_9 29 (F_8 18).toInt := by rw [ai_fr (A_9_o 29 (by decide)), F_8_o 18 (by decide)] <;> exact MF_6A
      have PF_8A_9 : RVm F_8 A_9 47 k := PF_6A.cg (F_8_o 18 (by decide)) (A_9_o 19 (by decide)) (A_9_o 22 (by decide)) (fun m _ _ => by rw [ai_fr (A_9_o 47 (by decide))]; exact ⟨rfl, rfl⟩)
      have RF_8A_9 : RVm F_8 A_9 48 k := u_7_p
      have IF_8A_9 : HIm F_8 A_9 k := IF_6A.fr (F_8_o 18 (by decide)) (F_8_o 74 (by decide)) (A_9_o 19 (by decide)) (A_9_o 22 (by decide)) (A_9_o 57 (by decide))
      refine ok_call (s_d_wholeNight hF_8 hA_9 (by omega) (by omega) (by omega) (VF_8A_9) (MF_8A_9) (RF_8A_9)) ?_
      rintro ⟨v_16, F_17, A_18, J_19⟩ ⟨hF_17, hA_18, F_17_o, A_18_o, v_16_p⟩
      dsimp only at hF_17 hA_18 F_17_o A_18_o v_16_p ⊢
      have v_16_p : RVm F_17 A_18 48 k := v_16_p
      have r_20 : 0 ≤ (F_17 18).toInt ∧ (F_17 18).toInt ≤ 1 := hF_17 18
      have f_21 : (F_17 18).toInt = (F_8 18).toInt := congrArg Int32.toInt (F_17_o 18 (by decide))
      have VF_17A_18 : VMs F_17 A_18 := VF_8A_9.fr (F_17_o 18 (by decide)) (fun q h1 h2 => A_18_o q (by intro e; simp at e <;> omega))
      have MF_17A_18 : k = ai A_18 29 (F_17 18).toInt := by rw [ai_fr (A_18_o 29 (by decide)), F_17_o 18 (by decide)] <;> exact MF_8A_9
      have PF_17A_18 : RVm F_17 A_18 47 k := PF_8A_9.cg (F_17_o 18 (by decide)) (A_18_o 19 (by decide)) (A_18_o 22 (by decide)) (fun m _ _ => by rw [ai_fr (A_18_o 47 (by decide))]; exact ⟨rfl, rfl⟩)
      have RF_17A_18 : RVm F_17 A_18 48 k := v_16_p
      have IF_17A_18 : HIm F_17 A_18 k := IF_8A_9.fr (F_17_o 18 (by decide)) (F_17_o 74 (by decide)) (A_18_o 19 (by decide)) (A_18_o 22 (by decide)) (A_18_o 57 (by decide))
      have l_22 : (0 : Int32).toInt = 0 := by decide
      refine ok_mono (s_d_night_104 hF_17 hA_18 (by omega) (RF_17A_18) (fun t h0 h1 => absurd h1 (by omega)) (by omega) (by omega)) ?_
      rintro ⟨v_23, F_24, A_25, J_26⟩ ⟨hF_24, hA_25, F_24_o, A_25_o, v_23_p⟩
      dsimp only at hF_24 hA_25 F_24_o A_25_o v_23_p ⊢
      have v_23_p : RVm F_24 A_25 47 k := v_23_p
      have VF_24A_25 : VMs F_24 A_25 := VF_17A_18.fr (F_24_o 18 (by decide)) (fun q h1 h2 => A_25_o q (by intro e; simp at e <;> omega))
      have MF_24A_25 : k = ai A_25 29 (F_24 18).toInt := by rw [ai_fr (A_25_o 29 (by decide)), F_24_o 18 (by decide)] <;> exact MF_17A_18
      have PF_24A_25 : RVm F_24 A_25 47 k := v_23_p
      have IF_24A_25 : HIm F_24 A_25 k := IF_17A_18.fr (F_24_o 18 (by decide)) (F_24_o 74 (by decide)) (A_25_o 19 (by decide)) (A_25_o 22 (by decide)) (A_25_o 57 (by decide))
      refine ⟨hF_24, hA_25, (fun q hq => ((((F_24_o q (fun e => hq ((by decide : ∀ x, x ∈ ([] : List Nat) → x ∈ ([63, 74] : List Nat)) q e))).trans (F_17_o q (fun e => hq ((by decide : ∀ x, x ∈ ([63] : List Nat) → x ∈ ([63, 74] : List Nat)) q e)))).trans (F_8_o q (fun e => hq ((by decide : ∀ x, x ∈ ([] : List Nat) → x ∈ ([63, 74] : List Nat)) q e)))).trans (F_6_o q (fun e => hq (by rw [e]; decide))))), (fun q hq => (((A_25_o q (fun e => hq ((by decide : ∀ x, x ∈ ([47] : List Nat) → x ∈ ([45, 46, 47, 48, 49, 50, 51, 52, 53, 54, 55, 56, 57] : List Nat)) q e))).trans (A_18_o q (fun e => hq ((by decide : ∀ x, x ∈ ([45, 46, 48, 49, 50, 51, 52, 53, 54, 55, 56] : List Nat) → x ∈ ([45, 46, 47, 48, 49, 50, 51, 52, 53, 54, 55, 56, 57] : List Nat)) q e)))).trans (A_9_o q (fun e => hq ((by decide : ∀ x, x ∈ ([48] : List Nat) → x ∈ ([45, 46, 47, 48, 49, 50, 51, 52, 53, 54, 55, 56, 57] : List Nat)) q e))))), ?_⟩
      first | exact v_23_p | exact ⟨v_23_p, IF_24A_25⟩
    · rw [i_nge] at c_2
      refine ok_ld (j := 47) hA (by omega) (by omega) ?_
      intro v_27 v_27_e v_27_r
      have r_28 : 0 ≤ (F 74).toInt ∧ (F 74).toInt ≤ 20 := hF 74
      have e_29 := i_mulL (c := 100) (k := 100) (x := (F 74)) (by decide) (by omega) (by omega)
      have e_30 := i_add (x := (100 * (F 74))) (y := x1) (by omega) (by omega)
      refine ok_st (j := 57) hA (by omega) (by omega) (trivial) ?_
      intro A_31 hA_31 A_31_o A_31_s A_31_n
      have VFA_31 : VMs F A_31 := VFA.fr rfl (fun q h1 h2 => A_31_o q (by omega))
      have MFA_31 : k = ai A_31 29 (F 18).toInt := by rw [ai_fr (A_31_o 29 (by decide))] <;> exact MFA
      have PFA_31 : RVm F A_31 47 k := PFA.sto A_31_o (by decide) (by decide)
      have IFA_31 : HIm F A_31 k := IFA.st A_31_o A_31_n (by omega) hk
      have C1 : ∀ t, 0 ≤ t → t < x1.toInt + 1 → ai A_31 57 (100 * (F 74).toInt + t) = ai A_31 47 (0 + t) := cp_st A_31_o A_31_s A_31_n v_27_e (by decide) CFA (by omega) (by omega) (by omega)
      have l_32 : (1 : Int32).toInt = 1 := by decide
      have e_33 := i_add (x := x1) (y := 1) (by omega) (by omega)
      refine ok_mono (ih hF hA_31 (VFA_31) (MFA_31) (PFA_31) (by omega) (IFA_31) (fun t h0 h1 => C1 t h0 (by omega)) (by omega) (by omega)) ?_
      rintro ⟨v_34, F_35, A_36, J_37⟩ ⟨hF_35, hA_36, F_35_o, A_36_o, v_34_p⟩
      dsimp only at hF_35 hA_36 F_35_o A_36_o v_34_p ⊢
      have v_34_p : RVm F_35 A_36 47 k ∧ HIm F_35 A_36 k := v_34_p
      have VF_35A_36 : VMs F_35 A_36 := VFA_31.fr (F_35_o 18 (by decide)) (fun q h1 h2 => A_36_o q (by intro e; simp at e <;> omega))
      have MF_35A_36 : k = ai A_36 29 (F_35 18).toInt := by rw [ai_fr (A_36_o 29 (by decide)), F_35_o 18 (by decide)] <;> exact MFA_31
      have PF_35A_36 : RVm F_35 A_36 47 k := v_34_p.1
      have IF_35A_36 : HIm F_35 A_36 k := v_34_p.2
      refine ⟨hF_35, hA_36, (fun q hq => (F_35_o q hq)), (fun q hq => ((A_36_o q hq).trans (A_31_o q (fun e => hq (by rw [e]; decide))))), ?_⟩
      first | exact v_34_p | exact ⟨v_34_p, IF_35A_36⟩
set_option maxRecDepth 10000 in
theorem s_d_night_11  {n : Nat} {k : Int} {B : Nat → Nat → Int32} {F : Nat → Int32} {A : Nat → Nat → Int32} {J : Nat → Nat → Int64} {x1 : Int32} (hF : IFm F) (hA : IAm A) (hk : k ≤ 6) (hk0 : 0 ≤ k) (VFA : VMs F A) (MFA : k = ai A 29 (F 18).toInt) (PFA : RVm F A 47 k) (hu : (F 74).toInt = 20) (hB : HIm F B k) (h19 : A 19 = B 19 ∧ A 22 = B 22) (hS : ∀ i, 0 ≤ i → i < x1.toInt → ai A 57 i = ai B 57 (i + 100)) (hT : ∀ i, x1.toInt ≤ i → ai A 57 i = ai B 57 i) (rx1 : 0 ≤ x1.toInt ∧ x1.toInt ≤ 1900) (hn : 13000 - x1.toInt < (n : Int)) : ok (d_night_11 n F A J x1) (fun r => IFm r.2.1 ∧ IAm r.2.2.1 ∧ (∀ q, q ∉ ([63, 74] : List Nat) → r.2.1 q = F q) ∧ (∀ q, q ∉ ([45, 46, 47, 48, 49, 50, 51, 52, 53, 54, 55, 56, 57] : List Nat) → r.2.2.1 q = A q) ∧ RVm r.2.1 r.2.2.1 47 k ∧ HIm r.2.1 r.2.2.1 k) := by
  induction n generalizing F A J x1 with
  | zero => exact absurd hn (by omega)
  | succ n ih =>
    have r18 : 0 ≤ (F 18).toInt ∧ (F 18).toInt ≤ 1 := hF 18
    unfold d_night_11
    have l_1 : (1900 : Int32).toInt = 1900 := by decide
    refine ok_cond (fun c_2 => ?_) (fun c_2 => ?_)
    · rw [i_ge] at c_2
      have r_3 : 0 ≤ (F 74).toInt ∧ (F 74).toInt ≤ 20 := hF 74
      have l_4 : (1 : Int32).toInt = 1 := by decide
      have e_5 := i_sub (x := (F 74)) (y := 1) (by omega) (by omega)
      refine ok_pf hF (⟨by omega, by omega⟩) ?_
      intro F_6 hF_6 F_6_k F_6_o
      have VF_6A : VMs F_6 A := VFA.fr (F_6_o 18 (by decide)) (fun _ _ _ => rfl)
      have MF_6A : k = ai A 29 (F_6 18).toInt := by rw [F_6_o 18 (by decide)] <;> exact MFA
      have PF_6A : RVm F_6 A 47 k := PFA.cg (F_6_o 18 (by decide)) rfl rfl (fun _ _ _ => ⟨rfl, rfl⟩)
      have u3 : (F_6 74).toInt = 19 := by rw [F_6_k]; omega
      have IF_6A : HIm F_6 A k := hB.sh h19.1 h19.2 (fun i h0 h1 => hS i h0 (by omega)) (F_6_o 18 (by decide)) hu (by rw [F_6_k]; omega) hk
      have l_7 : (0 : Int32).toInt = 0 := by decide
      refine ok_mono (s_d_night_51 hF_6 hA (by omega) (by omega) (VF_6A) (MF_6A) (PF_6A) (by omega) (IF_6A) (fun t h0 h1 => absurd h1 (by omega)) (by omega) (by omega)) ?_
      rintro ⟨v_8, F_9, A_10, J_11⟩ ⟨hF_9, hA_10, F_9_o, A_10_o, v_8_p⟩
      dsimp only at hF_9 hA_10 F_9_o A_10_o v_8_p ⊢
      have v_8_p : RVm F_9 A_10 47 k ∧ HIm F_9 A_10 k := v_8_p
      have VF_9A_10 : VMs F_9 A_10 := VF_6A.fr (F_9_o 18 (by decide)) (fun q h1 h2 => A_10_o q (by intro e; simp at e <;> omega))
      have MF_9A_10 : k = ai A_10 29 (F_9 18).toInt := by rw [ai_fr (A_10_o 29 (by decide)), F_9_o 18 (by decide)] <;> exact MF_6A
      refine ⟨hF_9, hA_10, (fun q hq => ((F_9_o q hq).trans (F_6_o q (fun e => hq (by rw [e]; decide))))), (fun q hq => (A_10_o q hq)), ?_⟩
      exact v_8_p
    · rw [i_nge] at c_2
      have l_12 : (100 : Int32).toInt = 100 := by decide
      have e_13 := i_add (x := x1) (y := 100) (by omega) (by omega)
      refine ok_ld (j := 57) hA (by omega) (by omega) ?_
      intro v_14 v_14_e v_14_r
      refine ok_st (j := 57) hA (by omega) (by omega) (trivial) ?_
      intro A_15 hA_15 A_15_o A_15_s A_15_n
      have VFA_15 : VMs F A_15 := VFA.fr rfl (fun q h1 h2 => A_15_o q (by omega))
      have MFA_15 : k = ai A_15 29 (F 18).toInt := by rw [ai_fr (A_15_o 29 (by decide))] <;> exact MFA
      have PFA_15 : RVm F A_15 47 k := PFA.sto A_15_o (by decide) (by decide)
      have q19 : A_15 19 = B 19 ∧ A_15 22 = B 22 := ⟨(A_15_o 19 (by decide)).trans h19.1, (A_15_o 22 (by decide)).trans h19.2⟩
      have S1 : ∀ i, 0 ≤ i → i < x1.toInt + 1 → ai A_15 57 i = ai B 57 (i + 100) := fun i h0 h1 => by
        by_cases e : i = x1.toInt
        · rw [e, A_15_s, v_14_e, hT _ (by omega)]; congr 1 <;> omega
        · rw [A_15_n i h0 e]; exact hS i h0 (by omega)
      have T1 : ∀ i, x1.toInt + 1 ≤ i → ai A_15 57 i = ai B 57 i := fun i h0 => by rw [A_15_n i (by omega) (by omega)]; exact hT i (by omega)
      have l_16 : (1 : Int32).toInt = 1 := by decide
      have e_17 := i_add (x := x1) (y := 1) (by omega) (by omega)
      refine ok_mono (ih hF hA_15 (VFA_15) (MFA_15) (PFA_15) (by omega) (hB) (q19) (fun i h0 h1 => S1 i h0 (by omega)) (fun i h0 => T1 i (by omega)) (by omega) (by omega)) ?_
      rintro ⟨v_18, F_19, A_20, J_21⟩ ⟨hF_19, hA_20, F_19_o, A_20_o, v_18_p⟩
      dsimp only at hF_19 hA_20 F_19_o A_20_o v_18_p ⊢
      have v_18_p : RVm F_19 A_20 47 k ∧ HIm F_19 A_20 k := v_18_p
      have VF_19A_20 : VMs F_19 A_20 := VFA_15.fr (F_19_o 18 (by decide)) (fun q h1 h2 => A_20_o q (by intro e; simp at e <;> omega))
      have MF_19A_20 : k = ai A_20 29 (F_19 18).toInt := by rw [ai_fr (A_20_o 29 (by decide)), F_19_o 18 (by decide)] <;> exact MFA_15
      refine ⟨hF_19, hA_20, (fun q hq => (F_19_o q hq)), (fun q hq => ((A_20_o q hq).trans (A_15_o q (fun e => hq (by rw [e]; decide))))), ?_⟩
      exact v_18_p
set_option maxRecDepth 10000 in
theorem s_d_night {n : Nat} {k : Int} {F : Nat → Int32} {A : Nat → Nat → Int32} {J : Nat → Nat → Int64}  (hF : IFm F) (hA : IAm A) (hn : 13100 ≤ n) (hk : k ≤ 6) (hk0 : 0 ≤ k) (VFA : VMs F A) (MFA : k = ai A 29 (F 18).toInt) (PFA : RVm F A 47 k) (IFA : HIm F A k) : ok (d_night n F A J) (fun r => IFm r.2.1 ∧ IAm r.2.2.1 ∧ (∀ q, q ∉ ([63, 74] : List Nat) → r.2.1 q = F q) ∧ (∀ q, q ∉ ([45, 46, 47, 48, 49, 50, 51, 52, 53, 54, 55, 56, 57] : List Nat) → r.2.2.1 q = A q) ∧ RVm r.2.1 r.2.2.1 47 k ∧ HIm r.2.1 r.2.2.1 k) := by
  have r18 : 0 ≤ (F 18).toInt ∧ (F 18).toInt ≤ 1 := hF 18
  unfold d_night
  have r_1 : 0 ≤ (F 74).toInt ∧ (F 74).toInt ≤ 20 := hF 74
  have l_2 : (20 : Int32).toInt = 20 := by decide
  refine ok_cond (fun c_3 => ?_) (fun c_3 => ?_)
  · rw [i_ne] at c_3
    unfold d_night_49
    have l_4 : (0 : Int32).toInt = 0 := by decide
    refine ok_mono (s_d_night_51 hF hA (by omega) (by omega) (VFA) (MFA) (PFA) (by omega) (IFA) (fun t h0 h1 => absurd h1 (by omega)) (by omega) (by omega)) ?_
    rintro ⟨v_5, F_6, A_7, J_8⟩ ⟨hF_6, hA_7, F_6_o, A_7_o, v_5_p⟩
    dsimp only at hF_6 hA_7 F_6_o A_7_o v_5_p ⊢
    have v_5_p : RVm F_6 A_7 47 k ∧ HIm F_6 A_7 k := v_5_p
    have VF_6A_7 : VMs F_6 A_7 := VFA.fr (F_6_o 18 (by decide)) (fun q h1 h2 => A_7_o q (by intro e; simp at e <;> omega))
    have MF_6A_7 : k = ai A_7 29 (F_6 18).toInt := by rw [ai_fr (A_7_o 29 (by decide)), F_6_o 18 (by decide)] <;> exact MFA
    refine ⟨hF_6, hA_7, (fun q hq => (F_6_o q hq)), (fun q hq => (A_7_o q hq)), ?_⟩
    exact v_5_p
  · rw [i_nne] at c_3
    have l_9 : (0 : Int32).toInt = 0 := by decide
    refine ok_mono (s_d_night_11 (B := A) hF hA (by omega) (by omega) (VFA) (MFA) (PFA) (by omega) (IFA) (⟨rfl, rfl⟩) (fun i h0 h1 => absurd h1 (by omega)) (fun i _ => rfl) (by omega) (by omega)) ?_
    rintro ⟨v_10, F_11, A_12, J_13⟩ ⟨hF_11, hA_12, F_11_o, A_12_o, v_10_p⟩
    dsimp only at hF_11 hA_12 F_11_o A_12_o v_10_p ⊢
    have v_10_p : RVm F_11 A_12 47 k ∧ HIm F_11 A_12 k := v_10_p
    have VF_11A_12 : VMs F_11 A_12 := VFA.fr (F_11_o 18 (by decide)) (fun q h1 h2 => A_12_o q (by intro e; simp at e <;> omega))
    have MF_11A_12 : k = ai A_12 29 (F_11 18).toInt := by rw [ai_fr (A_12_o 29 (by decide)), F_11_o 18 (by decide)] <;> exact MFA
    refine ⟨hF_11, hA_12, (fun q hq => (F_11_o q hq)), (fun q hq => (A_12_o q hq)), ?_⟩
    exact v_10_p
set_option maxRecDepth 10000 in
theorem s_d_undo_21  {n : Nat} {k : Int} {F : Nat → Int32} {A : Nat → Nat → Int32} {J : Nat → Nat → Int64} {x1 : Int32} (hF : IFm F) (hA : IAm A) (hk : k ≤ 6) (HFA : RHm F A 57 (100 * (F 74).toInt) k) (hu : (F 74).toInt ≤ 19) (CFA : ∀ t, 0 ≤ t → t < x1.toInt → ai A 47 (0 + t) = ai A 57 (100 * (F 74).toInt + t)) (rx1 : 0 ≤ x1.toInt ∧ x1.toInt ≤ 100) (hn : 100 - x1.toInt < (n : Int)) : ok (d_undo_21 n F A J x1) (fun r => IFm r.2.1 ∧ IAm r.2.2.1 ∧ (∀ q, q ∉ ([] : List Nat) → r.2.1 q = F q) ∧ (∀ q, q ∉ ([47] : List Nat) → r.2.2.1 q = A q) ∧ RVm r.2.1 r.2.2.1 47 k) := by
  induction n generalizing F A J x1 with
  | zero => exact absurd hn (by omega)
  | succ n ih =>
    have r18 : 0 ≤ (F 18).toInt ∧ (F 18).toInt ≤ 1 := hF 18
    unfold d_undo_21
    have l_1 : (100 : Int32).toInt = 100 := by decide
    refine ok_cond (fun c_2 => ?_) (fun c_2 => ?_)
    · rw [i_ge] at c_2
      refine ok_some ?_
      have l_3 : (1 : Int32).toInt = 1 := by decide
      refine ⟨hF, hA, (fun q hq => rfl), (fun q hq => rfl), ?_⟩
      exact (HFA.cp hk (fun t h0 h1 => CFA t h0 (by omega))).toV
    · rw [i_nge] at c_2
      have r_4 : 0 ≤ (F 74).toInt ∧ (F 74).toInt ≤ 20 := hF 74
      have e_5 := i_mulL (c := 100) (k := 100) (x := (F 74)) (by decide) (by omega) (by omega)
      have e_6 := i_add (x := (100 * (F 74))) (y := x1) (by omega) (by omega)
      refine ok_ld (j := 57) hA (by omega) (by omega) ?_
      intro v_7 v_7_e v_7_r
      refine ok_st (j := 47) hA (by omega) (by omega) (trivial) ?_
      intro A_8 hA_8 A_8_o A_8_s A_8_n
      have HFA_8 : RHm F A_8 57 (100 * (F 74).toInt) k := HFA.fr rfl (A_8_o 19 (by decide)) (A_8_o 22 (by decide)) (A_8_o 57 (by decide))
      have C1 : ∀ t, 0 ≤ t → t < x1.toInt + 1 → ai A_8 47 (0 + t) = ai A_8 57 (100 * (F 74).toInt + t) := cp_st A_8_o A_8_s A_8_n v_7_e (by decide) CFA (by omega) (by omega) (by omega)
      have l_9 : (1 : Int32).toInt = 1 := by decide
      have e_10 := i_add (x := x1) (y := 1) (by omega) (by omega)
      refine ok_mono (ih hF hA_8 (HFA_8) (by omega) (fun t h0 h1 => C1 t h0 (by omega)) (by omega) (by omega)) ?_
      rintro ⟨v_11, F_12, A_13, J_14⟩ ⟨hF_12, hA_13, F_12_o, A_13_o, v_11_p⟩
      dsimp only at hF_12 hA_13 F_12_o A_13_o v_11_p ⊢
      have v_11_p : RVm F_12 A_13 47 k := v_11_p
      refine ⟨hF_12, hA_13, (fun q hq => (F_12_o q hq)), (fun q hq => ((A_13_o q hq).trans (A_8_o q (fun e => hq (by rw [e]; decide))))), ?_⟩
      exact v_11_p
set_option maxRecDepth 10000 in
theorem s_d_undo {n : Nat} {k : Int} {F : Nat → Int32} {A : Nat → Nat → Int32} {J : Nat → Nat → Int64}  (hF : IFm F) (hA : IAm A) (hn : 200 ≤ n) (hk : k ≤ 6) (PFA : RVm F A 47 k) (IFA : HIm F A k) : ok (d_undo n F A J) (fun r => IFm r.2.1 ∧ IAm r.2.2.1 ∧ (∀ q, q ∉ ([74] : List Nat) → r.2.1 q = F q) ∧ (∀ q, q ∉ ([47] : List Nat) → r.2.2.1 q = A q) ∧ RVm r.2.1 r.2.2.1 47 k ∧ HIm r.2.1 r.2.2.1 k) := by
  have r18 : 0 ≤ (F 18).toInt ∧ (F 18).toInt ≤ 1 := hF 18
  unfold d_undo
  have r_1 : 0 ≤ (F 74).toInt ∧ (F 74).toInt ≤ 20 := hF 74
  have l_2 : (0 : Int32).toInt = 0 := by decide
  refine ok_cond (fun c_3 => ?_) (fun c_3 => ?_)
  · rw [i_ne] at c_3
    have l_4 : (1 : Int32).toInt = 1 := by decide
    have e_5 := i_sub (x := (F 74)) (y := 1) (by omega) (by omega)
    refine ok_pf hF (⟨by omega, by omega⟩) ?_
    intro F_6 hF_6 F_6_k F_6_o
    have PF_6A : RVm F_6 A 47 k := PFA.cg (F_6_o 18 (by decide)) rfl rfl (fun _ _ _ => ⟨rfl, rfl⟩)
    have IF_6A : HIm F_6 A k := IFA.dn (F_6_o 18 (by decide)) (by rw [F_6_k]; omega)
    have hu2 : (F_6 74).toInt = (F 74).toInt - 1 := by rw [F_6_k]; assumption
    have H1 : RHm F_6 A 57 (100 * (F_6 74).toInt) k := (IFA _ (by omega) (by omega)).fr (F_6_o 18 (by decide)) rfl rfl rfl
    refine ok_mono (s_d_undo_21 hF_6 hA (by omega) (by assumption) (by omega) (fun t h0 h1 => absurd h1 (by omega)) (by omega) (by omega)) ?_
    rintro ⟨v_7, F_8, A_9, J_10⟩ ⟨hF_8, hA_9, F_8_o, A_9_o, v_7_p⟩
    dsimp only at hF_8 hA_9 F_8_o A_9_o v_7_p ⊢
    have v_7_p : RVm F_8 A_9 47 k := v_7_p
    have PF_8A_9 : RVm F_8 A_9 47 k := v_7_p
    have IF_8A_9 : HIm F_8 A_9 k := IF_6A.fr (F_8_o 18 (by decide)) (F_8_o 74 (by decide)) (A_9_o 19 (by decide)) (A_9_o 22 (by decide)) (A_9_o 57 (by decide))
    refine ⟨hF_8, hA_9, (fun q hq => ((F_8_o q (fun e => hq ((by decide : ∀ x, x ∈ ([] : List Nat) → x ∈ ([74] : List Nat)) q e))).trans (F_6_o q (fun e => hq (by rw [e]; decide))))), (fun q hq => (A_9_o q hq)), ?_⟩
    exact ⟨PF_8A_9, IF_8A_9⟩
  · rw [i_nne] at c_3
    refine ok_some ?_
    refine ⟨hF, hA, (fun q hq => rfl), (fun q hq => rfl), ?_⟩
    exact ⟨PFA, IFA⟩
set_option maxRecDepth 10000 in
theorem s_d_hold_20  {n : Nat} {k : Int} {F : Nat → Int32} {A : Nat → Nat → Int32} {J : Nat → Nat → Int64} {x1 : Int32} {x2 : Int32} (hF : IFm F) (hA : IAm A) (hk : k ≤ 6) (PFA : RVm F A 47 k) (EFA : HEx F A x1.toInt k) (CFA : ∀ t, 0 ≤ t → t < x2.toInt → ai A 62 (100 * x1.toInt + t) = ai A 47 (0 + t)) (rx1 : 0 ≤ x1.toInt ∧ x1.toInt ≤ 2) (rx2 : 0 ≤ x2.toInt ∧ x2.toInt ≤ 100) (hn : 100 - x2.toInt < (n : Int)) : ok (d_hold_20 n F A J x1 x2) (fun r => IFm r.2.1 ∧ IAm r.2.2.1 ∧ (∀ q, q ∉ ([] : List Nat) → r.2.1 q = F q) ∧ (∀ q, q ∉ ([62] : List Nat) → r.2.2.1 q = A q) ∧ HEm r.2.1 r.2.2.1 k) := by
  induction n generalizing F A J x2 with
  | zero => exact absurd hn (by omega)
  | succ n ih =>
    have r18 : 0 ≤ (F 18).toInt ∧ (F 18).toInt ≤ 1 := hF 18
    unfold d_hold_20
    have l_1 : (100 : Int32).toInt = 100 := by decide
    refine ok_cond (fun c_2 => ?_) (fun c_2 => ?_)
    · rw [i_ge] at c_2
      refine ok_some ?_
      refine ⟨hF, hA, (fun q hq => rfl), (fun q hq => rfl), ?_⟩
      exact EFA.fin (PFA.toH.cp hk (fun t h0 h1 => CFA t h0 (by omega)))
    · rw [i_nge] at c_2
      refine ok_ld (j := 47) hA (by omega) (by omega) ?_
      intro v_3 v_3_e v_3_r
      have e_4 := i_mulL (c := 100) (k := 100) (x := x1) (by decide) (by omega) (by omega)
      have e_5 := i_add (x := (100 * x1)) (y := x2) (by omega) (by omega)
      refine ok_st (j := 62) hA (by omega) (by omega) (trivial) ?_
      intro A_6 hA_6 A_6_o A_6_s A_6_n
      have PFA_6 : RVm F A_6 47 k := PFA.sto A_6_o (by decide) (by decide)
      have EFA_6 : HEx F A_6 x1.toInt k := EFA.st A_6_o A_6_n (by omega) (by omega) hk
      have C1 : ∀ t, 0 ≤ t → t < x2.toInt + 1 → ai A_6 62 (100 * x1.toInt + t) = ai A_6 47 (0 + t) := cp_st A_6_o A_6_s A_6_n v_3_e (by decide) CFA (by omega) (by omega) (by omega)
      have l_7 : (1 : Int32).toInt = 1 := by decide
      have e_8 := i_add (x := x2) (y := 1) (by omega) (by omega)
      refine ok_mono (ih hF hA_6 (PFA_6) (EFA_6) (fun t h0 h1 => C1 t h0 (by omega)) (by omega) (by omega)) ?_
      rintro ⟨v_9, F_10, A_11, J_12⟩ ⟨hF_10, hA_11, F_10_o, A_11_o, v_9_p⟩
      dsimp only at hF_10 hA_11 F_10_o A_11_o v_9_p ⊢
      have v_9_p : HEm F_10 A_11 k := v_9_p
      have PF_10A_11 : RVm F_10 A_11 47 k := PFA_6.cg (F_10_o 18 (by decide)) (A_11_o 19 (by decide)) (A_11_o 22 (by decide)) (fun m _ _ => by rw [ai_fr (A_11_o 47 (by decide))]; exact ⟨rfl, rfl⟩)
      refine ⟨hF_10, hA_11, (fun q hq => (F_10_o q hq)), (fun q hq => ((A_11_o q hq).trans (A_6_o q (fun e => hq (by rw [e]; decide))))), ?_⟩
      exact v_9_p
set_option maxRecDepth 10000 in
theorem s_d_hold {n : Nat} {k : Int} {F : Nat → Int32} {A : Nat → Nat → Int32} {J : Nat → Nat → Int64} {x1 : Int32} (hF : IFm F) (hA : IAm A) (hn : 200 ≤ n) (hk : k ≤ 6) (PFA : RVm F A 47 k) (GFA : HEm F A k) : ok (d_hold n F A J x1) (fun r => IFm r.2.1 ∧ IAm r.2.2.1 ∧ (∀ q, q ∉ ([] : List Nat) → r.2.1 q = F q) ∧ (∀ q, q ∉ ([61, 62] : List Nat) → r.2.2.1 q = A q) ∧ HEm r.2.1 r.2.2.1 k) := by
  have r18 : 0 ≤ (F 18).toInt ∧ (F 18).toInt ≤ 1 := hF 18
  unfold d_hold
  have l_1 : (0 : Int32).toInt = 0 := by decide
  have l_2 : (2 : Int32).toInt = 2 := by decide
  refine ok_call (s_d_in ) ?_
  intro v_3 v_3_p
  have v_3_p : v_3.toInt = (if (0 : Int32).toInt ≤ x1.toInt ∧ x1.toInt ≤ (2 : Int32).toInt then 1 else 0) := v_3_p
  refine ok_cond (fun c_4 => ?_) (fun c_4 => ?_)
  · rw [i_ne] at c_4
    refine ok_st (j := 61) hA (by omega) (by omega) (show 0 ≤ (vp_nar .boolean 1).toInt ∧ (vp_nar .boolean 1).toInt ≤ 1 by decide) ?_
    intro A_5 hA_5 A_5_o A_5_s A_5_n
    have PFA_5 : RVm F A_5 47 k := PFA.sto A_5_o (by decide) (by decide)
    have E1 : HEx F A_5 x1.toInt k := GFA.at A_5_o A_5_n
    refine ok_mono (s_d_hold_20 hF hA_5 (by omega) (PFA_5) (by assumption) (fun t h0 h1 => absurd h1 (by omega)) (by omega) (by omega) (by omega)) ?_
    rintro ⟨v_6, F_7, A_8, J_9⟩ ⟨hF_7, hA_8, F_7_o, A_8_o, v_6_p⟩
    dsimp only at hF_7 hA_8 F_7_o A_8_o v_6_p ⊢
    have v_6_p : HEm F_7 A_8 k := v_6_p
    have PF_7A_8 : RVm F_7 A_8 47 k := PFA_5.cg (F_7_o 18 (by decide)) (A_8_o 19 (by decide)) (A_8_o 22 (by decide)) (fun m _ _ => by rw [ai_fr (A_8_o 47 (by decide))]; exact ⟨rfl, rfl⟩)
    refine ⟨hF_7, hA_8, (fun q hq => (F_7_o q hq)), (fun q hq => ((A_8_o q (fun e => hq ((by decide : ∀ x, x ∈ ([62] : List Nat) → x ∈ ([61, 62] : List Nat)) q e))).trans (A_5_o q (fun e => hq (by rw [e]; decide))))), ?_⟩
    exact v_6_p
  · rw [i_nne] at c_4
    refine ok_some ?_
    refine ⟨hF, hA, (fun q hq => rfl), (fun q hq => rfl), ?_⟩
    exact GFA
set_option maxRecDepth 10000 in
theorem s_d_restore_22  {n : Nat} {k : Int} {F : Nat → Int32} {A : Nat → Nat → Int32} {J : Nat → Nat → Int64} {x1 : Int32} {x2 : Int32} (hF : IFm F) (hA : IAm A) (hk : k ≤ 6) (HFA : RHm F A 62 (100 * x1.toInt) k) (CFA : ∀ t, 0 ≤ t → t < x2.toInt → ai A 47 (0 + t) = ai A 62 (100 * x1.toInt + t)) (rx1 : 0 ≤ x1.toInt ∧ x1.toInt ≤ 2) (rx2 : 0 ≤ x2.toInt ∧ x2.toInt ≤ 100) (hn : 100 - x2.toInt < (n : Int)) : ok (d_restore_22 n F A J x1 x2) (fun r => IFm r.2.1 ∧ IAm r.2.2.1 ∧ (∀ q, q ∉ ([74] : List Nat) → r.2.1 q = F q) ∧ (∀ q, q ∉ ([47] : List Nat) → r.2.2.1 q = A q) ∧ RVm r.2.1 r.2.2.1 47 k ∧ (r.2.1 74).toInt = 0) := by
  induction n generalizing F A J x2 with
  | zero => exact absurd hn (by omega)
  | succ n ih =>
    have r18 : 0 ≤ (F 18).toInt ∧ (F 18).toInt ≤ 1 := hF 18
    unfold d_restore_22
    have l_1 : (100 : Int32).toInt = 100 := by decide
    refine ok_cond (fun c_2 => ?_) (fun c_2 => ?_)
    · rw [i_ge] at c_2
      have l_3 : (0 : Int32).toInt = 0 := by decide
      refine ok_pf hF (⟨by omega, by omega⟩) ?_
      intro F_4 hF_4 F_4_k F_4_o
      have HF_4A : RHm F_4 A 62 (100 * x1.toInt) k := HFA.fr (F_4_o 18 (by decide)) rfl rfl rfl
      have z74 : (F_4 74).toInt = 0 := by rw [F_4_k]; rfl
      refine ok_some ?_
      refine ⟨hF_4, hA, (fun q hq => (F_4_o q (fun e => hq (by rw [e]; decide)))), (fun q hq => rfl), ?_⟩
      exact ⟨(HF_4A.cp hk (fun t h0 h1 => CFA t h0 (by omega))).toV, z74⟩
    · rw [i_nge] at c_2
      have e_5 := i_mulL (c := 100) (k := 100) (x := x1) (by decide) (by omega) (by omega)
      have e_6 := i_add (x := (100 * x1)) (y := x2) (by omega) (by omega)
      refine ok_ld (j := 62) hA (by omega) (by omega) ?_
      intro v_7 v_7_e v_7_r
      refine ok_st (j := 47) hA (by omega) (by omega) (trivial) ?_
      intro A_8 hA_8 A_8_o A_8_s A_8_n
      have HFA_8 : RHm F A_8 62 (100 * x1.toInt) k := HFA.fr rfl (A_8_o 19 (by decide)) (A_8_o 22 (by decide)) (A_8_o 62 (by decide))
      have C1 : ∀ t, 0 ≤ t → t < x2.toInt + 1 → ai A_8 47 (0 + t) = ai A_8 62 (100 * x1.toInt + t) := cp_st A_8_o A_8_s A_8_n v_7_e (by decide) CFA (by omega) (by omega) (by omega)
      have l_9 : (1 : Int32).toInt = 1 := by decide
      have e_10 := i_add (x := x2) (y := 1) (by omega) (by omega)
      refine ok_mono (ih hF hA_8 (HFA_8) (fun t h0 h1 => C1 t h0 (by omega)) (by omega) (by omega)) ?_
      rintro ⟨v_11, F_12, A_13, J_14⟩ ⟨hF_12, hA_13, F_12_o, A_13_o, v_11_p⟩
      dsimp only at hF_12 hA_13 F_12_o A_13_o v_11_p ⊢
      have v_11_p : RVm F_12 A_13 47 k ∧ (F_12 74).toInt = 0 := v_11_p
      refine ⟨hF_12, hA_13, (fun q hq => (F_12_o q hq)), (fun q hq => ((A_13_o q hq).trans (A_8_o q (fun e => hq (by rw [e]; decide))))), ?_⟩
      exact v_11_p
set_option maxRecDepth 10000 in
theorem s_d_restore {n : Nat} {k : Int} {F : Nat → Int32} {A : Nat → Nat → Int32} {J : Nat → Nat → Int64} {x1 : Int32} (hF : IFm F) (hA : IAm A) (hn : 200 ≤ n) (hk : k ≤ 6) (PFA : RVm F A 47 k) (IFA : HIm F A k) (GFA : HEm F A k) : ok (d_restore n F A J x1) (fun r => IFm r.2.1 ∧ IAm r.2.2.1 ∧ (∀ q, q ∉ ([74] : List Nat) → r.2.1 q = F q) ∧ (∀ q, q ∉ ([47] : List Nat) → r.2.2.1 q = A q) ∧ RVm r.2.1 r.2.2.1 47 k ∧ HIm r.2.1 r.2.2.1 k) := by
  have r18 : 0 ≤ (F 18).toInt ∧ (F 18).toInt ≤ 1 := hF 18
  unfold d_restore
  have l_1 : (0 : Int32).toInt = 0 := by decide
  have l_2 : (2 : Int32).toInt = 2 := by decide
  refine ok_call (s_d_in ) ?_
  intro v_3 v_3_p
  have v_3_p : v_3.toInt = (if (0 : Int32).toInt ≤ x1.toInt ∧ x1.toInt ≤ (2 : Int32).toInt then 1 else 0) := v_3_p
  refine ok_cond (fun c_4 => ?_) (fun c_4 => ?_)
  · rw [i_eq] at c_4
    refine ok_some ?_
    refine ⟨hF, hA, (fun q hq => rfl), (fun q hq => rfl), ?_⟩
    exact ⟨PFA, IFA⟩
  · rw [i_neq] at c_4
    refine ok_ld (j := 61) hA (by omega) (by omega) ?_
    intro v_5 v_5_e v_5_r
    have v_5_r : 0 ≤ v_5.toInt ∧ v_5.toInt ≤ 1 := v_5_r
    have H1 : (v_5.toInt ≠ 0) → RHm F A 62 (100 * x1.toInt) k := fun h => GFA x1.toInt (by omega) (by omega) (by omega)
    refine ok_cond (fun c_6 => ?_) (fun c_6 => ?_)
    · rw [i_ne] at c_6
      refine ok_mono (s_d_restore_22 hF hA (by omega) (H1 (by omega)) (fun t h0 h1 => absurd h1 (by omega)) (by omega) (by omega) (by omega)) ?_
      rintro ⟨v_7, F_8, A_9, J_10⟩ ⟨hF_8, hA_9, F_8_o, A_9_o, v_7_p⟩
      dsimp only at hF_8 hA_9 F_8_o A_9_o v_7_p ⊢
      have v_7_p : RVm F_8 A_9 47 k ∧ (F_8 74).toInt = 0 := v_7_p
      refine ⟨hF_8, hA_9, (fun q hq => (F_8_o q hq)), (fun q hq => (A_9_o q hq)), ?_⟩
      exact ⟨v_7_p.1, fun u h0 h1 => absurd h1 (by have z := v_7_p.2; omega)⟩
    · rw [i_nne] at c_6
      refine ok_some ?_
      refine ⟨hF, hA, (fun q hq => rfl), (fun q hq => rfl), ?_⟩
      exact ⟨PFA, IFA⟩
