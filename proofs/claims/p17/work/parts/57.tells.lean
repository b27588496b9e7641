set_option maxRecDepth 10000 in
theorem s_d_tells_130  {n : Nat} {F : Nat → Int32} {A : Nat → Nat → Int32} {J : Nat → Nat → Int64} {x1 : Int32} {x3 : Int32} {x5 : Int32} {x6 : Int32} (hF : IFm F) (hA : IAm A) (VFA : VMs F A) (LFA : ∀ b, x6.toInt ≤ b → b < x5.toInt → LWm A b) (TFA : 0 ≤ ai A 54 x1.toInt ∧ ai A 54 x1.toInt < ai A 22 (6 * (F 18).toInt + x3.toInt)) (rx1 : 0 ≤ x1.toInt ∧ x1.toInt ≤ 5) (rx3 : 0 ≤ x3.toInt ∧ x3.toInt ≤ 5) (rx5 : 0 ≤ x5.toInt ∧ x5.toInt ≤ 100) (rx6 : 0 ≤ x6.toInt ∧ x6.toInt ≤ 100) (hn : 502 - x6.toInt < (n : Int)) : ok (d_tells_130 n F A J x1 x3 x5 x6) (fun r => IFm r.2.1 ∧ IAm r.2.2.1 ∧ (∀ q, q ∉ ([63] : List Nat) → r.2.1 q = F q) ∧ (∀ q, q ∉ ([46] : List Nat) → r.2.2.1 q = A q) ∧ 0 ≤ r.1.toInt ∧ r.1.toInt < ai A 22 (6 * (F 18).toInt + x3.toInt)) := by
  induction n generalizing F A J x6 with
  | zero => exact absurd hn (by omega)
  | succ n ih =>
    have r18 : 0 ≤ (F 18).toInt ∧ (F 18).toInt ≤ 1 := hF 18
    have EFA : ai A 22 (6 * (F 18).toInt + x3.toInt) = ai A 22 (6 * (F 18).toInt + x3.toInt) := rfl
    unfold d_tells_130
    refine ok_cond (fun c_1 => ?_) (fun c_1 => ?_)
    · rw [i_ge] at c_1
      refine ok_ld (j := 54) hA (by omega) (by omega) ?_
      intro v_2 v_2_e v_2_r
      refine ok_some ?_
      refine ⟨hF, hA, (fun q hq => rfl), (fun q hq => rfl), ?_⟩
      show 0 ≤ (v_2 : Int32).toInt ∧ (v_2 : Int32).toInt < _; exact ⟨by omega, by omega⟩
    · rw [i_nge] at c_1
      refine ok_ld (j := 36) hA (by omega) (by omega) ?_
      intro v_3 v_3_e v_3_r
      have v_3_r : 0 ≤ v_3.toInt ∧ v_3.toInt ≤ 1 := v_3_r
      have l_4 : (0 : Int32).toInt = 0 := by decide
      refine ok_cond (fun c_5 => ?_) (fun c_5 => ?_)
      · rw [i_eq] at c_5
        unfold d_tells_211
        refine ok_ld (j := 39) hA (by omega) (by omega) ?_
        intro v_6 v_6_e v_6_r
        have v_6_r : 0 ≤ v_6.toInt ∧ v_6.toInt ≤ 840 := v_6_r
        refine ok_ld (j := 40) hA (by omega) (by omega) ?_
        intro v_7 v_7_e v_7_r
        have v_7_r : 0 ≤ v_7.toInt ∧ v_7.toInt ≤ 840 := v_7_r
        have hw3 : WFm A v_6.toInt v_7.toInt := by rw [v_6_e, v_7_e]; exact (LFA x6.toInt (by omega) (by omega)).2
        refine ok_call (s_d_termOf hF hA (by omega) (by assumption)) ?_
        rintro ⟨v_8, F_9, A_10, J_11⟩ ⟨hF_9, hA_10, F_9_o, A_10_o, v_8_p⟩
        dsimp only at hF_9 hA_10 F_9_o A_10_o v_8_p ⊢
        have r_12 : 0 ≤ (F_9 18).toInt ∧ (F_9 18).toInt ≤ 1 := hF_9 18
        have r_13 : 0 ≤ (F 18).toInt ∧ (F 18).toInt ≤ 1 := hF 18
        have f_14 : (F_9 18).toInt = (F 18).toInt := congrArg Int32.toInt (F_9_o 18 (by decide))
        have VF_9A_10 : VMs F_9 A_10 := VFA.fr (F_9_o 18 (by decide)) (fun q h1 h2 => A_10_o q (by intro e; simp at e <;> omega))
        have LF_9A_10 : ∀ b, x6.toInt ≤ b → b < x5.toInt → LWm A_10 b := fun b h1 h2 => (LFA b h1 h2).fr (fun q h3 h4 => A_10_o q (by intro e; simp at e <;> omega))
        have TF_9A_10 : 0 ≤ ai A_10 54 x1.toInt ∧ ai A_10 54 x1.toInt < ai A_10 22 (6 * (F_9 18).toInt + x3.toInt) := by rw [ai_fr (A_10_o 54 (by decide)), ai_fr (A_10_o 22 (by decide)), F_9_o 18 (by decide)] <;> exact TFA
        have EF_9A_10 : ai A_10 22 (6 * (F_9 18).toInt + x3.toInt) = ai A 22 (6 * (F 18).toInt + x3.toInt) := by rw [ai_fr (A_10_o 22 (by decide)), F_9_o 18 (by decide)] <;> exact EFA
        have r_15 : 0 ≤ (F_9 63).toInt ∧ (F_9 63).toInt ≤ 1 := hF_9 63
        refine ok_cond (fun c_16 => ?_) (fun c_16 => ?_)
        · rw [i_eq] at c_16
          refine ok_cond (fun c_17 => ?_) (fun c_17 => ?_)
          · rw [i_ge] at c_17
            refine ok_call (s_d_stepsOf hF_9 hA_10 (by omega)) ?_
            intro v_18 v_18_p
            have v_18_p : v_18.toInt = ai A_10 22 (6 * (F_9 18).toInt + x3.toInt) ∧ 0 ≤ v_18.toInt ∧ v_18.toInt ≤ 6 := v_18_p
            refine ok_cond (fun c_19 => ?_) (fun c_19 => ?_)
            · rw [i_lt] at c_19
              refine ok_some ?_
              refine ⟨hF_9, hA_10, (fun q hq => (F_9_o q hq)), (fun q hq => (A_10_o q hq)), ?_⟩
              show 0 ≤ (v_8 : Int32).toInt ∧ (v_8 : Int32).toInt < _; exact ⟨by omega, by omega⟩
            · rw [i_nlt] at c_19
              refine ok_call (s_d_stepsOf hF_9 hA_10 (by omega)) ?_
              intro v_20 v_20_p
              have v_20_p : v_20.toInt = ai A_10 22 (6 * (F_9 18).toInt + x3.toInt) ∧ 0 ≤ v_20.toInt ∧ v_20.toInt ≤ 6 := v_20_p
              refine ok_some ?_
              have l_21 : (1 : Int32).toInt = 1 := by decide
              have e_22 := i_sub (x := v_20) (y := 1) (by omega) (by omega)
              refine ⟨hF_9, hA_10, (fun q hq => (F_9_o q hq)), (fun q hq => (A_10_o q hq)), ?_⟩
              show 0 ≤ ((v_20 - 1) : Int32).toInt ∧ ((v_20 - 1) : Int32).toInt < _; exact ⟨by omega, by omega⟩
          · rw [i_nge] at c_17
            refine ok_some ?_
            refine ⟨hF_9, hA_10, (fun q hq => (F_9_o q hq)), (fun q hq => (A_10_o q hq)), ?_⟩
            show 0 ≤ (0 : Int32).toInt ∧ (0 : Int32).toInt < _; exact ⟨by omega, by omega⟩
        · rw [i_neq] at c_16
          refine ok_ld (j := 54) hA_10 (by omega) (by omega) ?_
          intro v_23 v_23_e v_23_r
          refine ok_some ?_
          refine ⟨hF_9, hA_10, (fun q hq => (F_9_o q hq)), (fun q hq => (A_10_o q hq)), ?_⟩
          show 0 ≤ (v_23 : Int32).toInt ∧ (v_23 : Int32).toInt < _; exact ⟨by omega, by omega⟩
      · rw [i_neq] at c_5
        refine ok_ld (j := 37) hA (by omega) (by omega) ?_
        intro v_24 v_24_e v_24_r
        have v_24_r : 0 ≤ v_24.toInt ∧ v_24.toInt ≤ 840 := v_24_r
        refine ok_ld (j := 38) hA (by omega) (by omega) ?_
        intro v_25 v_25_e v_25_r
        have v_25_r : 0 ≤ v_25.toInt ∧ v_25.toInt ≤ 840 := v_25_r
        have hw := (LFA x6.toInt (by omega) (by omega)).1 (by omega)
        have hw1 : WFm A v_24.toInt v_25.toInt := by rw [v_24_e, v_25_e]; exact hw.1
        refine ok_call (s_d_termOf hF hA (by omega) (by assumption)) ?_
        rintro ⟨v_26, F_27, A_28, J_29⟩ ⟨hF_27, hA_28, F_27_o, A_28_o, v_26_p⟩
        dsimp only at hF_27 hA_28 F_27_o A_28_o v_26_p ⊢
        have r_30 : 0 ≤ (F_27 18).toInt ∧ (F_27 18).toInt ≤ 1 := hF_27 18
        have r_31 : 0 ≤ (F 18).toInt ∧ (F 18).toInt ≤ 1 := hF 18
        have f_32 : (F_27 18).toInt = (F 18).toInt := congrArg Int32.toInt (F_27_o 18 (by decide))
        have VF_27A_28 : VMs F_27 A_28 := VFA.fr (F_27_o 18 (by decide)) (fun q h1 h2 => A_28_o q (by intro e; simp at e <;> omega))
        have LF_27A_28 : ∀ b, x6.toInt ≤ b → b < x5.toInt → LWm A_28 b := fun b h1 h2 => (LFA b h1 h2).fr (fun q h3 h4 => A_28_o q (by intro e; simp at e <;> omega))
        have TF_27A_28 : 0 ≤ ai A_28 54 x1.toInt ∧ ai A_28 54 x1.toInt < ai A_28 22 (6 * (F_27 18).toInt + x3.toInt) := by rw [ai_fr (A_28_o 54 (by decide)), ai_fr (A_28_o 22 (by decide)), F_27_o 18 (by decide)] <;> exact TFA
        have EF_27A_28 : ai A_28 22 (6 * (F_27 18).toInt + x3.toInt) = ai A 22 (6 * (F 18).toInt + x3.toInt) := by rw [ai_fr (A_28_o 22 (by decide)), F_27_o 18 (by decide)] <;> exact EFA
        refine ok_ld (j := 38) hA_28 (by omega) (by omega) ?_
        intro v_33 v_33_e v_33_r
        have v_33_r : 0 ≤ v_33.toInt ∧ v_33.toInt ≤ 840 := v_33_r
        refine ok_ld (j := 39) hA_28 (by omega) (by omega) ?_
        intro v_34 v_34_e v_34_r
        have v_34_r : 0 ≤ v_34.toInt ∧ v_34.toInt ≤ 840 := v_34_r
        have hw2 : WFm A_28 v_33.toInt v_34.toInt := by rw [v_33_e, v_34_e]; exact ((LF_27A_28 x6.toInt (by omega) (by omega)).1 (by rw [ai_fr (A_28_o 36 (by decide))]; omega)).2
        refine ok_call (s_d_termOf hF_27 hA_28 (by omega) (by assumption)) ?_
        rintro ⟨v_35, F_36, A_37, J_38⟩ ⟨hF_36, hA_37, F_36_o, A_37_o, v_35_p⟩
        dsimp only at hF_36 hA_37 F_36_o A_37_o v_35_p ⊢
        have r_39 : 0 ≤ (F_36 18).toInt ∧ (F_36 18).toInt ≤ 1 := hF_36 18
        have f_40 : (F_36 18).toInt = (F_27 18).toInt := congrArg Int32.toInt (F_36_o 18 (by decide))
        have VF_36A_37 : VMs F_36 A_37 := VF_27A_28.fr (F_36_o 18 (by decide)) (fun q h1 h2 => A_37_o q (by intro e; simp at e <;> omega))
        have LF_36A_37 : ∀ b, x6.toInt ≤ b → b < x5.toInt → LWm A_37 b := fun b h1 h2 => (LF_27A_28 b h1 h2).fr (fun q h3 h4 => A_37_o q (by intro e; simp at e <;> omega))
        have TF_36A_37 : 0 ≤ ai A_37 54 x1.toInt ∧ ai A_37 54 x1.toInt < ai A_37 22 (6 * (F_36 18).toInt + x3.toInt) := by rw [ai_fr (A_37_o 54 (by decide)), ai_fr (A_37_o 22 (by decide)), F_36_o 18 (by decide)] <;> exact TF_27A_28
        have EF_36A_37 : ai A_37 22 (6 * (F_36 18).toInt + x3.toInt) = ai A 22 (6 * (F 18).toInt + x3.toInt) := by rw [ai_fr (A_37_o 22 (by decide)), F_36_o 18 (by decide)] <;> exact EF_27A_28
        have r_41 : 0 ≤ (F_36 63).toInt ∧ (F_36 63).toInt ≤ 1 := hF_36 63
        refine ok_cond (fun c_42 => ?_) (fun c_42 => ?_)
        · rw [i_eq] at c_42
          refine ok_cond (fun c_43 => ?_) (fun c_43 => ?_)
          · rw [i_lt] at c_43
            unfold d_tells_211
            refine ok_ld (j := 39) hA_37 (by omega) (by omega) ?_
            intro v_44 v_44_e v_44_r
            have v_44_r : 0 ≤ v_44.toInt ∧ v_44.toInt ≤ 840 := v_44_r
            refine ok_ld (j := 40) hA_37 (by omega) (by omega) ?_
            intro v_45 v_45_e v_45_r
            have v_45_r : 0 ≤ v_45.toInt ∧ v_45.toInt ≤ 840 := v_45_r
            have hw3 : WFm A_37 v_44.toInt v_45.toInt := by rw [v_44_e, v_45_e]; exact (LF_36A_37 x6.toInt (by omega) (by omega)).2
            refine ok_call (s_d_termOf hF_36 hA_37 (by omega) (by assumption)) ?_
            rintro ⟨v_46, F_47, A_48, J_49⟩ ⟨hF_47, hA_48, F_47_o, A_48_o, v_46_p⟩
            dsimp only at hF_47 hA_48 F_47_o A_48_o v_46_p ⊢
            have r_50 : 0 ≤ (F_47 18).toInt ∧ (F_47 18).toInt ≤ 1 := hF_47 18
            have f_51 : (F_47 18).toInt = (F_36 18).toInt := congrArg Int32.toInt (F_47_o 18 (by decide))
            have VF_47A_48 : VMs F_47 A_48 := VF_36A_37.fr (F_47_o 18 (by decide)) (fun q h1 h2 => A_48_o q (by intro e; simp at e <;> omega))
            have LF_47A_48 : ∀ b, x6.toInt ≤ b → b < x5.toInt → LWm A_48 b := fun b h1 h2 => (LF_36A_37 b h1 h2).fr (fun q h3 h4 => A_48_o q (by intro e; simp at e <;> omega))
            have TF_47A_48 : 0 ≤ ai A_48 54 x1.toInt ∧ ai A_48 54 x1.toInt < ai A_48 22 (6 * (F_47 18).toInt + x3.toInt) := by rw [ai_fr (A_48_o 54 (by decide)), ai_fr (A_48_o 22 (by decide)), F_47_o 18 (by decide)] <;> exact TF_36A_37
            have EF_47A_48 : ai A_48 22 (6 * (F_47 18).toInt + x3.toInt) = ai A 22 (6 * (F 18).toInt + x3.toInt) := by rw [ai_fr (A_48_o 22 (by decide)), F_47_o 18 (by decide)] <;> exact EF_36A_37
            have r_52 : 0 ≤ (F_47 63).toInt ∧ (F_47 63).toInt ≤ 1 := hF_47 63
            refine ok_cond (fun c_53 => ?_) (fun c_53 => ?_)
            · rw [i_eq] at c_53
              refine ok_cond (fun c_54 => ?_) (fun c_54 => ?_)
              · rw [i_ge] at c_54
                refine ok_call (s_d_stepsOf hF_47 hA_48 (by omega)) ?_
                intro v_55 v_55_p
                have v_55_p : v_55.toInt = ai A_48 22 (6 * (F_47 18).toInt + x3.toInt) ∧ 0 ≤ v_55.toInt ∧ v_55.toInt ≤ 6 := v_55_p
                refine ok_cond (fun c_56 => ?_) (fun c_56 => ?_)
                · rw [i_lt] at c_56
                  refine ok_some ?_
                  refine ⟨hF_47, hA_48, (fun q hq => (((F_47_o q hq).trans (F_36_o q hq)).trans (F_27_o q hq))), (fun q hq => (((A_48_o q hq).trans (A_37_o q hq)).trans (A_28_o q hq))), ?_⟩
                  show 0 ≤ (v_46 : Int32).toInt ∧ (v_46 : Int32).toInt < _; exact ⟨by omega, by omega⟩
                · rw [i_nlt] at c_56
                  refine ok_call (s_d_stepsOf hF_47 hA_48 (by omega)) ?_
                  intro v_57 v_57_p
                  have v_57_p : v_57.toInt = ai A_48 22 (6 * (F_47 18).toInt + x3.toInt) ∧ 0 ≤ v_57.toInt ∧ v_57.toInt ≤ 6 := v_57_p
                  refine ok_some ?_
                  have l_58 : (1 : Int32).toInt = 1 := by decide
                  have e_59 := i_sub (x := v_57) (y := 1) (by omega) (by omega)
                  refine ⟨hF_47, hA_48, (fun q hq => (((F_47_o q hq).trans (F_36_o q hq)).trans (F_27_o q hq))), (fun q hq => (((A_48_o q hq).trans (A_37_o q hq)).trans (A_28_o q hq))), ?_⟩
                  show 0 ≤ ((v_57 - 1) : Int32).toInt ∧ ((v_57 - 1) : Int32).toInt < _; exact ⟨by omega, by omega⟩
              · rw [i_nge] at c_54
                refine ok_some ?_
                refine ⟨hF_47, hA_48, (fun q hq => (((F_47_o q hq).trans (F_36_o q hq)).trans (F_27_o q hq))), (fun q hq => (((A_48_o q hq).trans (A_37_o q hq)).trans (A_28_o q hq))), ?_⟩
                show 0 ≤ (0 : Int32).toInt ∧ (0 : Int32).toInt < _; exact ⟨by omega, by omega⟩
            · rw [i_neq] at c_53
              refine ok_ld (j := 54) hA_48 (by omega) (by omega) ?_
              intro v_60 v_60_e v_60_r
              refine ok_some ?_
              refine ⟨hF_47, hA_48, (fun q hq => (((F_47_o q hq).trans (F_36_o q hq)).trans (F_27_o q hq))), (fun q hq => (((A_48_o q hq).trans (A_37_o q hq)).trans (A_28_o q hq))), ?_⟩
              show 0 ≤ (v_60 : Int32).toInt ∧ (v_60 : Int32).toInt < _; exact ⟨by omega, by omega⟩
          · rw [i_nlt] at c_43
            have l_61 : (1 : Int32).toInt = 1 := by decide
            have e_62 := i_add (x := x6) (y := 1) (by omega) (by omega)
            refine ok_mono (ih hF_36 hA_37 (VF_36A_37) (fun b h1 h2 => LF_36A_37 b (by omega) h2) (TF_36A_37) (by omega) (by omega)) ?_
            rintro ⟨v_63, F_64, A_65, J_66⟩ ⟨hF_64, hA_65, F_64_o, A_65_o, v_63_p⟩
            dsimp only at hF_64 hA_65 F_64_o A_65_o v_63_p ⊢
            have v_63_p : 0 ≤ v_63.toInt ∧ v_63.toInt < ai A_37 22 (6 * (F_36 18).toInt + x3.toInt) := v_63_p
            have VF_64A_65 : VMs F_64 A_65 := VF_36A_37.fr (F_64_o 18 (by decide)) (fun q h1 h2 => A_65_o q (by intro e; simp at e <;> omega))
            have LF_64A_65 : ∀ b, x6.toInt ≤ b → b < x5.toInt → LWm A_65 b := fun b h1 h2 => (LF_36A_37 b h1 h2).fr (fun q h3 h4 => A_65_o q (by intro e; simp at e <;> omega))
            have TF_64A_65 : 0 ≤ ai A_65 54 x1.toInt ∧ ai A_65 54 x1.toInt < ai A_65 22 (6 * (F_64 18).toInt + x3.toInt) := by rw [ai_fr (A_65_o 54 (by decide)), ai_fr (A_65_o 22 (by decide)), F_64_o 18 (by decide)] <;> exact TF_36A_37
            have EF_64A_65 : ai A_65 22 (6 * (F_64 18).toInt + x3.toInt) = ai A 22 (6 * (F 18).toInt + x3.toInt) := by rw [ai_fr (A_65_o 22 (by decide)), F_64_o 18 (by decide)] <;> exact EF_36A_37
            refine ⟨hF_64, hA_65, (fun q hq => (((F_64_o q hq).trans (F_36_o q hq)).trans (F_27_o q hq))), (fun q hq => (((A_65_o q hq).trans (A_37_o q hq)).trans (A_28_o q hq))), ?_⟩
            show 0 ≤ (v_63 : Int32).toInt ∧ (v_63 : Int32).toInt < _; exact ⟨by omega, by omega⟩
        · rw [i_neq] at c_42
          refine ok_ld (j := 54) hA_37 (by omega) (by omega) ?_
          intro v_67 v_67_e v_67_r
          refine ok_some ?_
          refine ⟨hF_36, hA_37, (fun q hq => ((F_36_o q hq).trans (F_27_o q hq))), (fun q hq => ((A_37_o q hq).trans (A_28_o q hq))), ?_⟩
          show 0 ≤ (v_67 : Int32).toInt ∧ (v_67 : Int32).toInt < _; exact ⟨by omega, by omega⟩
set_option maxRecDepth 10000 in
theorem s_d_tells {n : Nat} {F : Nat → Int32} {A : Nat → Nat → Int32} {J : Nat → Nat → Int64} {x1 : Int32} {x2 : Int32} (hF : IFm F) (hA : IAm A) (hn : 600 ≤ n) (VFA : VMs F A) (hx : x1.toInt < ai A 29 (F 18).toInt) (hs : SVm F A (ai A 48 (42 + x1.toInt)) (ai A 54 x1.toInt)) (rx1 : 0 ≤ x1.toInt ∧ x1.toInt ≤ 5) : ok (d_tells n F A J x1 x2) (fun r => IFm r.2.1 ∧ IAm r.2.2.1 ∧ (∀ q, q ∉ ([63] : List Nat) → r.2.1 q = F q) ∧ (∀ q, q ∉ ([45, 46] : List Nat) → r.2.2.1 q = A q) ∧ 0 ≤ r.1.toInt ∧ r.1.toInt < ai A 22 (6 * (F 18).toInt + ai A 48 (42 + x1.toInt))) := by
  have r18 : 0 ≤ (F 18).toInt ∧ (F 18).toInt ≤ 1 := hF 18
  have UFA := hs
  have XFA : ai A 48 = ai A 48 := rfl
  have YFA : ∀ q, 8 ≤ q → q ≤ 43 → A q = A q := fun _ _ _ => rfl
  obtain ⟨g1, g2, g3, g4⟩ := id hs
  have t19 : 0 ≤ ai A 19 (F 18).toInt ∧ ai A 19 (F 18).toInt ≤ 6 := hA 19 _ (by omega)
  have t22 : 0 ≤ ai A 22 (6 * (F 18).toInt + ai A 48 (42 + x1.toInt)) ∧ ai A 22 (6 * (F 18).toInt + ai A 48 (42 + x1.toInt)) ≤ 6 := hA 22 _ (by omega)
  unfold d_tells
  have l_1 : (42 : Int32).toInt = 42 := by decide
  have e_2 := i_add (x := 42) (y := x1) (by omega) (by omega)
  refine ok_ld (j := 48) hA (by omega) (by omega) ?_
  intro v_3 v_3_e v_3_r
  have w1 : v_3.toInt = ai A 48 (42 + x1.toInt) := by rw [v_3_e]; congr 1 <;> omega
  have l_4 : (6 : Int32).toInt = 6 := by decide
  have r_5 : 0 ≤ (F 18).toInt ∧ (F 18).toInt ≤ 1 := hF 18
  have e_6 := i_mulL (c := 6) (k := 6) (x := (F 18)) (by decide) (by omega) (by omega)
  have e_7 := i_add (x := (6 * (F 18))) (y := x1) (by omega) (by omega)
  refine ok_ld (j := 34) hA (by omega) (by omega) ?_
  intro v_8 v_8_e v_8_r
  have v_8_r : 0 ≤ v_8.toInt ∧ v_8.toInt ≤ 100 := v_8_r
  refine ok_ld (j := 35) hA (by omega) (by omega) ?_
  intro v_9 v_9_e v_9_r
  have v_9_r : 0 ≤ v_9.toInt ∧ v_9.toInt ≤ 100 := v_9_r
  have e34 : ai A 34 (6 * F 18 + x1).toInt = ai A 34 (6 * (F 18).toInt + x1.toInt) := by congr 1 <;> omega
  have e35 : ai A 35 (6 * F 18 + x1).toInt = ai A 35 (6 * (F 18).toInt + x1.toInt) := by congr 1 <;> omega
  refine ok_ld (j := 54) hA (by omega) (by omega) ?_
  intro v_10 v_10_e v_10_r
  have l_11 : (0 : Int32).toInt = 0 := by decide
  refine ok_st (j := 45) hA (by omega) (by omega) (trivial) ?_
  intro A_12 hA_12 A_12_o A_12_s A_12_n
  have VFA_12 : VMs F A_12 := VFA.fr rfl (fun q h1 h2 => A_12_o q (by omega))
  have UFA_12 : SVm F A_12 (ai A_12 48 (42 + x1.toInt)) (ai A_12 54 x1.toInt) := by rw [ai_fr (A_12_o 48 (by decide)), ai_fr (A_12_o 54 (by decide))]; exact UFA.fr rfl (A_12_o 19 (by decide)) (A_12_o 22 (by decide))
  have XFA_12 : ai A_12 48 = ai A 48 := (ai_fr (A_12_o 48 (by decide))).trans XFA
  have YFA_12 : ∀ q, 8 ≤ q → q ≤ 43 → A_12 q = A q := fun q h1 h2 => (A_12_o q (by omega)).trans (YFA q h1 h2)
  refine ok_ld (j := 54) hA_12 (by omega) (by omega) ?_
  intro v_13 v_13_e v_13_r
  obtain ⟨p1, p2, p3, p4⟩ := id UFA_12
  rw [XFA_12, ai_fr (YFA_12 22 (by decide) (by decide))] at p4
  have e_14 := i_mulL (c := 6) (k := 6) (x := v_3) (by decide) (by omega) (by omega)
  have e_15 := i_add (x := 6) (y := (6 * v_3)) (by omega) (by omega)
  have e_16 := i_add (x := (6 + (6 * v_3))) (y := v_13) (by omega) (by omega)
  refine ok_ld (j := 48) hA_12 (by omega) (by omega) ?_
  intro v_17 v_17_e v_17_r
  have l_18 : (1 : Int32).toInt = 1 := by decide
  refine ok_st (j := 45) hA_12 (by omega) (by omega) (trivial) ?_
  intro A_19 hA_19 A_19_o A_19_s A_19_n
  have VFA_19 : VMs F A_19 := VFA_12.fr rfl (fun q h1 h2 => A_19_o q (by omega))
  have UFA_19 : SVm F A_19 (ai A_19 48 (42 + x1.toInt)) (ai A_19 54 x1.toInt) := by rw [ai_fr (A_19_o 48 (by decide)), ai_fr (A_19_o 54 (by decide))]; exact UFA_12.fr rfl (A_19_o 19 (by decide)) (A_19_o 22 (by decide))
  have XFA_19 : ai A_19 48 = ai A 48 := (ai_fr (A_19_o 48 (by decide))).trans XFA_12
  have YFA_19 : ∀ q, 8 ≤ q → q ≤ 43 → A_19 q = A q := fun q h1 h2 => (A_19_o q (by omega)).trans (YFA_12 q h1 h2)
  refine ok_call (s_d_stepsOf hF hA_19 (by omega)) ?_
  intro v_20 v_20_p
  have v_20_p : v_20.toInt = ai A_19 22 (6 * (F 18).toInt + v_3.toInt) ∧ 0 ≤ v_20.toInt ∧ v_20.toInt ≤ 6 := v_20_p
  have l_21 : (2 : Int32).toInt = 2 := by decide
  refine ok_st (j := 45) hA_19 (by omega) (by omega) (trivial) ?_
  intro A_22 hA_22 A_22_o A_22_s A_22_n
  have VFA_22 : VMs F A_22 := VFA_19.fr rfl (fun q h1 h2 => A_22_o q (by omega))
  have UFA_22 : SVm F A_22 (ai A_22 48 (42 + x1.toInt)) (ai A_22 54 x1.toInt) := by rw [ai_fr (A_22_o 48 (by decide)), ai_fr (A_22_o 54 (by decide))]; exact UFA_19.fr rfl (A_22_o 19 (by decide)) (A_22_o 22 (by decide))
  have XFA_22 : ai A_22 48 = ai A 48 := (ai_fr (A_22_o 48 (by decide))).trans XFA_19
  have YFA_22 : ∀ q, 8 ≤ q → q ≤ 43 → A_22 q = A q := fun q h1 h2 => (A_22_o q (by omega)).trans (YFA_19 q h1 h2)
  have l_23 : (3 : Int32).toInt = 3 := by decide
  refine ok_st (j := 45) hA_22 (by omega) (by omega) (trivial) ?_
  intro A_24 hA_24 A_24_o A_24_s A_24_n
  have VFA_24 : VMs F A_24 := VFA_22.fr rfl (fun q h1 h2 => A_24_o q (by omega))
  have UFA_24 : SVm F A_24 (ai A_24 48 (42 + x1.toInt)) (ai A_24 54 x1.toInt) := by rw [ai_fr (A_24_o 48 (by decide)), ai_fr (A_24_o 54 (by decide))]; exact UFA_22.fr rfl (A_24_o 19 (by decide)) (A_24_o 22 (by decide))
  have XFA_24 : ai A_24 48 = ai A 48 := (ai_fr (A_24_o 48 (by decide))).trans XFA_22
  have YFA_24 : ∀ q, 8 ≤ q → q ≤ 43 → A_24 q = A q := fun q h1 h2 => (A_24_o q (by omega)).trans (YFA_22 q h1 h2)
  refine ok_ld (j := 48) hA_24 (by omega) (by omega) ?_
  intro v_25 v_25_e v_25_r
  have l_26 : (4 : Int32).toInt = 4 := by decide
  refine ok_st (j := 45) hA_24 (by omega) (by omega) (trivial) ?_
  intro A_27 hA_27 A_27_o A_27_s A_27_n
  have VFA_27 : VMs F A_27 := VFA_24.fr rfl (fun q h1 h2 => A_27_o q (by omega))
  have UFA_27 : SVm F A_27 (ai A_27 48 (42 + x1.toInt)) (ai A_27 54 x1.toInt) := by rw [ai_fr (A_27_o 48 (by decide)), ai_fr (A_27_o 54 (by decide))]; exact UFA_24.fr rfl (A_27_o 19 (by decide)) (A_27_o 22 (by decide))
  have XFA_27 : ai A_27 48 = ai A 48 := (ai_fr (A_27_o 48 (by decide))).trans XFA_24
  have YFA_27 : ∀ q, 8 ≤ q → q ≤ 43 → A_27 q = A q := fun q h1 h2 => (A_27_o q (by omega)).trans (YFA_24 q h1 h2)
  refine ok_ld (j := 55) hA_27 (by omega) (by omega) ?_
  intro v_28 v_28_e v_28_r
  have l_29 : (5 : Int32).toInt = 5 := by decide
  refine ok_st (j := 45) hA_27 (by omega) (by omega) (trivial) ?_
  intro A_30 hA_30 A_30_o A_30_s A_30_n
  have VFA_30 : VMs F A_30 := VFA_27.fr rfl (fun q h1 h2 => A_30_o q (by omega))
  have UFA_30 : SVm F A_30 (ai A_30 48 (42 + x1.toInt)) (ai A_30 54 x1.toInt) := by rw [ai_fr (A_30_o 48 (by decide)), ai_fr (A_30_o 54 (by decide))]; exact UFA_27.fr rfl (A_30_o 19 (by decide)) (A_30_o 22 (by decide))
  have XFA_30 : ai A_30 48 = ai A 48 := (ai_fr (A_30_o 48 (by decide))).trans XFA_27
  have YFA_30 : ∀ q, 8 ≤ q → q ≤ 43 → A_30 q = A q := fun q h1 h2 => (A_30_o q (by omega)).trans (YFA_27 q h1 h2)
  refine ok_pfz hF (by omega) (⟨by omega, by omega⟩) ?_
  intro F_31 hF_31 F_31_k F_31_o
  have VF_31A_30 : VMs F_31 A_30 := VFA_30.fr (F_31_o 18 (by decide)) (fun _ _ _ => rfl)
  have UF_31A_30 : SVm F_31 A_30 (ai A_30 48 (42 + x1.toInt)) (ai A_30 54 x1.toInt) := UFA_30.fr (F_31_o 18 (by decide)) rfl rfl
  have XF_31A_30 : ai A_30 48 = ai A 48 := XFA_30
  have YF_31A_30 : ∀ q, 8 ≤ q → q ≤ 43 → A_30 q = A q := YFA_30
  have hT0 : 0 ≤ ai A_30 54 x1.toInt ∧ ai A_30 54 x1.toInt < ai A_30 22 (6 * (F_31 18).toInt + v_3.toInt) := by rw [w1, ← XF_31A_30]; exact ⟨UF_31A_30.2.2.1, UF_31A_30.2.2.2⟩
  have hb0 : ∀ b, v_8.toInt ≤ b → b < v_9.toInt → LWm A_30 b := fun b h1 h2 => (VFA.2.2.2.2 x1.toInt (by omega) (by omega) b (by omega) (by omega)).fr YF_31A_30
  refine ok_mono (s_d_tells_130 hF_31 hA_30 (VF_31A_30) (hb0) (hT0) (by omega) (by omega) (by omega) (by omega) (by omega)) ?_
  rintro ⟨v_32, F_33, A_34, J_35⟩ ⟨hF_33, hA_34, F_33_o, A_34_o, v_32_p⟩
  dsimp only at hF_33 hA_34 F_33_o A_34_o v_32_p ⊢
  have v_32_p : 0 ≤ v_32.toInt ∧ v_32.toInt < ai A_30 22 (6 * (F_31 18).toInt + v_3.toInt) := v_32_p
  have VF_33A_34 : VMs F_33 A_34 := VF_31A_30.fr (F_33_o 18 (by decide)) (fun q h1 h2 => A_34_o q (by intro e; simp at e <;> omega))
  have z := v_32_p.2
  rw [ai_fr (YF_31A_30 22 (by decide) (by decide)), F_31_o 18 (by decide), w1] at z
  refine ⟨hF_33, hA_34, (fun q hq => ((F_33_o q hq).trans (F_31_o q (fun e => hq (by rw [e]; decide))))), (fun q hq => (((((((A_34_o q (fun e => hq ((by decide : ∀ x, x ∈ ([46] : List Nat) → x ∈ ([45, 46] : List Nat)) q e))).trans (A_30_o q (fun e => hq (by rw [e]; decide)))).trans (A_27_o q (fun e => hq (by rw [e]; decide)))).trans (A_24_o q (fun e => hq (by rw [e]; decide)))).trans (A_22_o q (fun e => hq (by rw [e]; decide)))).trans (A_19_o q (fun e => hq (by rw [e]; decide)))).trans (A_12_o q (fun e => hq (by rw [e]; decide))))), ?_⟩
  exact ⟨v_32_p.1, z⟩
