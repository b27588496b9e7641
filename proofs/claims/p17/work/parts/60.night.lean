set_option maxRecDepth 10000 in
theorem s_d_wholeNight_20  {n : Nat} {k : Int} {F : Nat → Int32} {A : Nat → Nat → Int32} {J : Nat → Nat → Int64} {x1 : Int32} {x2 : Int32} (hF : IFm F) (hA : IAm A) (hk : k ≤ 6) (MFA : k = ai A 29 (F 18).toInt) (hx2 : x2.toInt ≤ k) (WFA : WVm F A k) (RFA : RVm F A 48 x2.toInt) (rx2 : 0 ≤ x2.toInt ∧ x2.toInt ≤ 6) (hn : 30 - x2.toInt < (n : Int)) : ok (d_wholeNight_20 n F A J x1 x2) (fun r => IFm r.2.1 ∧ IAm r.2.2.1 ∧ (∀ q, q ∉ ([] : List Nat) → r.2.1 q = F q) ∧ (∀ q, q ∉ ([48] : List Nat) → r.2.2.1 q = A q) ∧ RVm r.2.1 r.2.2.1 48 k) := by
  induction n generalizing F A J x2 with
  | zero => exact absurd hn (by omega)
  | succ n ih =>
    have r18 : 0 ≤ (F 18).toInt ∧ (F 18).toInt ≤ 1 := hF 18
    unfold d_wholeNight_20
    refine ok_call (s_d_menNow hF hA) ?_
    intro v_1 v_1_p
    have v_1_p : v_1.toInt = ai A 29 (F 18).toInt ∧ 0 ≤ v_1.toInt ∧ v_1.toInt ≤ 6 := v_1_p
    refine ok_cond (fun c_2 => ?_) (fun c_2 => ?_)
    · rw [i_ge] at c_2
      have l_3 : (79 : Int32).toInt = 79 := by decide
      refine ok_ld (j := 48) hA (by omega) (by omega) ?_
      intro v_4 v_4_e v_4_r
      refine ok_st (j := 48) hA (by omega) (by omega) (trivial) ?_
      intro A_5 hA_5 A_5_o A_5_s A_5_n
      have MFA_5 : k = ai A_5 29 (F 18).toInt := by rw [ai_fr (A_5_o 29 (by decide))] <;> exact MFA
      have WFA_5 : WVm F A_5 k := WFA.st48 A_5_o A_5_n (by omega)
      have RFA_5 : RVm F A_5 48 x2.toInt := RFA.stx (by decide) A_5_o A_5_n (fun m h0 h1 => ⟨by omega, by omega⟩)
      refine ok_call (s_d_worthNow hF hA_5 (by omega)) ?_
      intro v_6 v_6_p
      refine ok_some ?_
      refine ⟨hF, hA_5, (fun q hq => rfl), (fun q hq => (A_5_o q (fun e => hq (by rw [e]; decide)))), ?_⟩
      exact (RFA_5).mono (by omega)
    · rw [i_nge] at c_2
      refine ok_ld (j := 55) hA (by omega) (by omega) ?_
      intro v_7 v_7_e v_7_r
      have l_8 : (54 : Int32).toInt = 54 := by decide
      have e_9 := i_add (x := 54) (y := x2) (by omega) (by omega)
      refine ok_st (j := 48) hA (by omega) (by omega) (trivial) ?_
      intro A_10 hA_10 A_10_o A_10_s A_10_n
      have MFA_10 : k = ai A_10 29 (F 18).toInt := by rw [ai_fr (A_10_o 29 (by decide))] <;> exact MFA
      have WFA_10 : WVm F A_10 k := WFA.st48 A_10_o A_10_n (by omega)
      have RFA_10 : RVm F A_10 48 x2.toInt := RFA.stx (by decide) A_10_o A_10_n (fun m h0 h1 => ⟨by omega, by omega⟩)
      have l_11 : (60 : Int32).toInt = 60 := by decide
      have e_12 := i_add (x := 60) (y := x2) (by omega) (by omega)
      refine ok_ld (j := 48) hA_10 (by omega) (by omega) ?_
      intro v_13 v_13_e v_13_r
      refine ok_ld (j := 55) hA_10 (by omega) (by omega) ?_
      intro v_14 v_14_e v_14_r
      refine ok_st (j := 48) hA_10 (by omega) (by omega) (trivial) ?_
      intro A_15 hA_15 A_15_o A_15_s A_15_n
      have MFA_15 : k = ai A_15 29 (F 18).toInt := by rw [ai_fr (A_15_o 29 (by decide))] <;> exact MFA_10
      have WFA_15 : WVm F A_15 k := WFA_10.st48 A_15_o A_15_n (by omega)
      have RFA_15 : RVm F A_15 48 x2.toInt := RFA_10.stx (by decide) A_15_o A_15_n (fun m h0 h1 => ⟨by omega, by omega⟩)
      refine ok_ld (j := 54) hA_15 (by omega) (by omega) ?_
      intro v_16 v_16_e v_16_r
      have l_17 : (48 : Int32).toInt = 48 := by decide
      have e_18 := i_add (x := 48) (y := x2) (by omega) (by omega)
      refine ok_st (j := 48) hA_15 (by omega) (by omega) (trivial) ?_
      intro A_19 hA_19 A_19_o A_19_s A_19_n
      have MFA_19 : k = ai A_19 29 (F 18).toInt := by rw [ai_fr (A_19_o 29 (by decide))] <;> exact MFA_15
      have WFA_19 : WVm F A_19 k := WFA_15.st48 A_19_o A_19_n (by omega)
      have RFA_19 : RVm F A_19 48 x2.toInt := RFA_15.stx (by decide) A_19_o A_19_n (fun m h0 h1 => ⟨by omega, by omega⟩)
      have yy : 0 ≤ ai A_19 48 (42 + x2.toInt) → SVm F A_19 (ai A_19 48 (42 + x2.toInt)) (ai A_19 48 (48 + x2.toInt)) := fun q => by rw [show ai A_19 48 (48 + x2.toInt) = ai A_19 54 x2.toInt by rw [ai_fr (A_19_o 54 (by decide)), ← v_16_e, ← A_19_s]; congr 1 <;> omega]; exact WFA_19 x2.toInt (by omega) (by omega) q
      refine ok_ld (j := 56) hA_19 (by omega) (by omega) ?_
      intro v_20 v_20_e v_20_r
      have v_20_r : 0 ≤ v_20.toInt ∧ v_20.toInt ≤ 1 := v_20_r
      have l_21 : (0 : Int32).toInt = 0 := by decide
      refine ok_cond (fun c_22 => ?_) (fun c_22 => ?_)
      · rw [i_ne] at c_22
        have l_23 : (42 : Int32).toInt = 42 := by decide
        have e_24 := i_add (x := 42) (y := x2) (by omega) (by omega)
        have l21 : (-1 : Int32).toInt = -1 := by decide
        refine ok_st (j := 48) hA_19 (by omega) (by omega) (trivial) ?_
        intro A_25 hA_25 A_25_o A_25_s A_25_n
        have MFA_25 : k = ai A_25 29 (F 18).toInt := by rw [ai_fr (A_25_o 29 (by decide))] <;> exact MFA_19
        have WFA_25 : WVm F A_25 k := WFA_19.neg A_25_o A_25_s A_25_n (by omega)
        have RFA_25 : RVm F A_25 48 x2.toInt := RFA_19.stx (by decide) A_25_o A_25_n (fun m h0 h1 => ⟨by omega, by omega⟩)
        have z21 : ai A_25 48 (42 + x2.toInt) = -1 := by rw [show 42 + x2.toInt = (42 + x2).toInt by omega, A_25_s]; decide
        refine ok_st (j := 48) hA_25 (by omega) (by omega) (trivial) ?_
        intro A_26 hA_26 A_26_o A_26_s A_26_n
        have MFA_26 : k = ai A_26 29 (F 18).toInt := by rw [ai_fr (A_26_o 29 (by decide))] <;> exact MFA_25
        have WFA_26 : WVm F A_26 k := WFA_25.st48 A_26_o A_26_n (by omega)
        have RFA_26 : RVm F A_26 48 x2.toInt := RFA_25.stx (by decide) A_26_o A_26_n (fun m h0 h1 => ⟨by omega, by omega⟩)
        have yy : 0 ≤ ai A_26 48 (42 + x2.toInt) → SVm F A_26 (ai A_26 48 (42 + x2.toInt)) (ai A_26 48 (48 + x2.toInt)) := fun q => absurd q (by rw [A_26_n (42 + x2.toInt) (by omega) (by omega), z21]; decide)
        have l_27 : (1 : Int32).toInt = 1 := by decide
        have e_28 := i_add (x := x2) (y := 1) (by omega) (by omega)
        refine ok_mono (ih hF hA_26 (MFA_26) (by omega) (WFA_26) (by rw [show (x2 + 1).toInt = x2.toInt + 1 by omega]; exact RFA_26.ext yy) (by omega) (by omega)) ?_
        rintro ⟨v_29, F_30, A_31, J_32⟩ ⟨hF_30, hA_31, F_30_o, A_31_o, v_29_p⟩
        dsimp only at hF_30 hA_31 F_30_o A_31_o v_29_p ⊢
        have v_29_p : RVm F_30 A_31 48 k := v_29_p
        have MF_30A_31 : k = ai A_31 29 (F_30 18).toInt := by rw [ai_fr (A_31_o 29 (by decide)), F_30_o 18 (by decide)] <;> exact MFA_26
        refine ⟨hF_30, hA_31, (fun q hq => (F_30_o q hq)), (fun q hq => ((((((A_31_o q hq).trans (A_26_o q (fun e => hq (by rw [e]; decide)))).trans (A_25_o q (fun e => hq (by rw [e]; decide)))).trans (A_19_o q (fun e => hq (by rw [e]; decide)))).trans (A_15_o q (fun e => hq (by rw [e]; decide)))).trans (A_10_o q (fun e => hq (by rw [e]; decide))))), ?_⟩
        exact v_29_p
      · rw [i_nne] at c_22
        unfold d_wholeNight_108
        have l_33 : (1 : Int32).toInt = 1 := by decide
        have e_34 := i_add (x := x2) (y := 1) (by omega) (by omega)
        refine ok_mono (ih hF hA_19 (MFA_19) (by omega) (WFA_19) (by rw [show (x2 + 1).toInt = x2.toInt + 1 by omega]; exact RFA_19.ext yy) (by omega) (by omega)) ?_
        rintro ⟨v_35, F_36, A_37, J_38⟩ ⟨hF_36, hA_37, F_36_o, A_37_o, v_35_p⟩
        dsimp only at hF_36 hA_37 F_36_o A_37_o v_35_p ⊢
        have v_35_p : RVm F_36 A_37 48 k := v_35_p
        have MF_36A_37 : k = ai A_37 29 (F_36 18).toInt := by rw [ai_fr (A_37_o 29 (by decide)), F_36_o 18 (by decide)] <;> exact MFA_19
        refine ⟨hF_36, hA_37, (fun q hq => (F_36_o q hq)), (fun q hq => ((((A_37_o q hq).trans (A_19_o q (fun e => hq (by rw [e]; decide)))).trans (A_15_o q (fun e => hq (by rw [e]; decide)))).trans (A_10_o q (fun e => hq (by rw [e]; decide))))), ?_⟩
        exact v_35_p
set_option maxRecDepth 10000 in
theorem s_d_wholeNight {n : Nat} {k : Int} {F : Nat → Int32} {A : Nat → Nat → Int32} {J : Nat → Nat → Int64}  (hF : IFm F) (hA : IAm A) (hn : 10700 ≤ n) (hk : k ≤ 6) (hk0 : 0 ≤ k) (VFA : VMs F A) (MFA : k = ai A 29 (F 18).toInt) (RFA : RVm F A 48 k) : ok (d_wholeNight n F A J) (fun r => IFm r.2.1 ∧ IAm r.2.2.1 ∧ (∀ q, q ∉ ([63] : List Nat) → r.2.1 q = F q) ∧ (∀ q, q ∉ ([45, 46, 48, 49, 50, 51, 52, 53, 54, 55, 56] : List Nat) → r.2.2.1 q = A q) ∧ RVm r.2.1 r.2.2.1 48 k) := by
  have r18 : 0 ≤ (F 18).toInt ∧ (F 18).toInt ≤ 1 := hF 18
  unfold d_wholeNight
  refine ok_call (s_d_worthNow hF hA (by omega)) ?_
  intro v_1 v_1_p
  have r_2 : 0 ≤ (F 18).toInt ∧ (F 18).toInt ≤ 1 := hF 18
  refine ok_ld (j := 41) hA (by omega) (by omega) ?_
  intro v_3 v_3_e v_3_r
  have v_3_r : 0 ≤ v_3.toInt ∧ v_3.toInt ≤ 9999 := v_3_r
  refine ok_call (s_d_goesTill hF hA (by omega) (by omega) (by omega) (VFA) (MFA) (RFA) (by omega)) ?_
  rintro ⟨u_4, F_5, A_6, J_7⟩ ⟨hF_5, hA_6, F_5_o, A_6_o, u_4_p⟩
  dsimp only at hF_5 hA_6 F_5_o A_6_o u_4_p ⊢
  have u_4_p : NVm F_5 A_6 k := u_4_p
  have r_8 : 0 ≤ (F_5 18).toInt ∧ (F_5 18).toInt ≤ 1 := hF_5 18
  have f_9 : (F_5 18).toInt = (F 18).toInt := congrArg Int32.toInt (F_5_o 18 (by decide))
  have VF_5A_6 : VMs F_5 A_6 := VFA.fr (F_5_o 18 (by decide)) (fun q h1 h2 => A_6_o q (by intro e; simp at e <;> omega))
  have MF_5A_6 : k = ai A_6 29 (F_5 18).toInt := by rw [ai_fr (A_6_o 29 (by decide)), F_5_o 18 (by decide)] <;> exact MFA
  have W1 : WVm F_5 A_6 k := NVm.toW u_4_p
  have l_10 : (0 : Int32).toInt = 0 := by decide
  refine ok_mono (s_d_wholeNight_20 hF_5 hA_6 (by omega) (MF_5A_6) (by omega) (W1) (fun m h0 h1 => absurd h1 (by omega)) (by omega) (by omega)) ?_
  rintro ⟨v_11, F_12, A_13, J_14⟩ ⟨hF_12, hA_13, F_12_o, A_13_o, v_11_p⟩
  dsimp only at hF_12 hA_13 F_12_o A_13_o v_11_p ⊢
  have v_11_p : RVm F_12 A_13 48 k := v_11_p
  have VF_12A_13 : VMs F_12 A_13 := VF_5A_6.fr (F_12_o 18 (by decide)) (fun q h1 h2 => A_13_o q (by intro e; simp at e <;> omega))
  have MF_12A_13 : k = ai A_13 29 (F_12 18).toInt := by rw [ai_fr (A_13_o 29 (by decide)), F_12_o 18 (by decide)] <;> exact MF_5A_6
  refine ⟨hF_12, hA_13, (fun q hq => ((F_12_o q (fun e => hq ((by decide : ∀ x, x ∈ ([] : List Nat) → x ∈ ([63] : List Nat)) q e))).trans (F_5_o q hq))), (fun q hq => ((A_13_o q (fun e => hq ((by decide : ∀ x, x ∈ ([48] : List Nat) → x ∈ ([45, 46, 48, 49, 50, 51, 52, 53, 54, 55, 56] : List Nat)) q e))).trans (A_6_o q hq))), ?_⟩
  exact v_11_p
