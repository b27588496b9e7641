set_option maxRecDepth 10000 in
theorem s_d_isDigit  {x0 : Int32}  : ok (d_isDigit x0) (fun v => (v.toInt = 0 ∨ (v.toInt = 1 ∧ 48 ≤ x0.toInt ∧ x0.toInt ≤ 57)) ∧ (v.toInt ≠ 0 ∨ x0.toInt < 48 ∨ 57 < x0.toInt)) := by
  unfold d_isDigit
  have l_1 : (48 : Int32).toInt = 48 := by decide
  refine ok_cond (fun c_2 => ?_) (fun c_2 => ?_)
  · rw [i_lt] at c_2
    refine ok_some ?_
    have l_3 : (0 : Int32).toInt = 0 := by decide
    exact ⟨by omega, by omega⟩
  · rw [i_nlt] at c_2
    have l_4 : (57 : Int32).toInt = 57 := by decide
    refine ok_cond (fun c_5 => ?_) (fun c_5 => ?_)
    · rw [i_gt] at c_5
      refine ok_some ?_
      have l_6 : (0 : Int32).toInt = 0 := by decide
      exact ⟨by omega, by omega⟩
    · rw [i_ngt] at c_5
      refine ok_some ?_
      have l_7 : (1 : Int32).toInt = 1 := by decide
      exact ⟨by omega, by omega⟩
set_option maxRecDepth 10000 in
theorem s_d_isLetter  {x0 : Int32}  : ok (d_isLetter x0) (fun v => (v.toInt = 0 ∨ (v.toInt = 1 ∧ 97 ≤ x0.toInt ∧ x0.toInt ≤ 122)) ∧ (v.toInt ≠ 0 ∨ x0.toInt < 97 ∨ 122 < x0.toInt)) := by
  unfold d_isLetter
  have l_1 : (97 : Int32).toInt = 97 := by decide
  refine ok_cond (fun c_2 => ?_) (fun c_2 => ?_)
  · rw [i_lt] at c_2
    refine ok_some ?_
    have l_3 : (0 : Int32).toInt = 0 := by decide
    exact ⟨by omega, by omega⟩
  · rw [i_nlt] at c_2
    have l_4 : (122 : Int32).toInt = 122 := by decide
    refine ok_cond (fun c_5 => ?_) (fun c_5 => ?_)
    · rw [i_gt] at c_5
      refine ok_some ?_
      have l_6 : (0 : Int32).toInt = 0 := by decide
      exact ⟨by omega, by omega⟩
    · rw [i_ngt] at c_5
      refine ok_some ?_
      have l_7 : (1 : Int32).toInt = 1 := by decide
      exact ⟨by omega, by omega⟩
set_option maxRecDepth 10000 in
theorem s_d_appends  {x0 : Int64} {x2 : Int32}  : ok (d_appends x0 x2) (fun v => True) := by
  unfold d_appends
  have l_1 : (0 : Int32).toInt = 0 := by decide
  refine ok_cond (fun c_2 => ?_) (fun c_2 => ?_)
  · rw [i_ne] at c_2
    refine ok_some ?_
    (first | trivial | omega | exact ⟨by omega, by omega⟩ | assumption)
  · rw [i_nne] at c_2
    refine ok_some ?_
    (first | trivial | omega | exact ⟨by omega, by omega⟩ | assumption)
set_option maxRecDepth 10000 in
theorem s_d_token {F : Nat → Int32} {A : Nat → Nat → Int32} {J : Nat → Nat → Int64} {x1 : Int32} {x2 : Int32} {x3 : Int32} {x4 : Int64} (hF : IFm F) (hA : IAm A) (ht : (F 10).toInt ≤ 400) (rx3 : 0 ≤ x3.toInt ∧ x3.toInt ≤ 9999) : ok (d_token F A J x1 x2 x3 x4) (fun r => IFm r.2.1 ∧ IAm r.2.2.1 ∧ (∀ q, q ∉ ([10] : List Nat) → r.2.1 q = F q) ∧ (∀ q, q ∉ ([3, 4, 5] : List Nat) → r.2.2.1 q = A q) ∧ (r.2.1 10).toInt = (F 10).toInt + 1) := by
  have r18 : 0 ≤ (F 18).toInt ∧ (F 18).toInt ≤ 1 := hF 18
  unfold d_token
  have r_1 : 0 ≤ (F 10).toInt ∧ (F 10).toInt ≤ 402 := hF 10
  refine ok_st (j := 3) hA (by omega) (by omega) (trivial) ?_
  intro A_2 hA_2 A_2_o A_2_s A_2_n
  refine ok_st (j := 4) hA_2 (by omega) (by omega) (trivial) ?_
  intro A_3 hA_3 A_3_o A_3_s A_3_n
  refine ok_st (j := 5) hA_3 (by omega) (by omega) (⟨by omega, by omega⟩) ?_
  intro A_4 hA_4 A_4_o A_4_s A_4_n
  refine ok_stJ1 (by omega) (by omega) ?_
  intro J_5
  have l_6 : (1 : Int32).toInt = 1 := by decide
  have e_7 := i_add (x := (F 10)) (y := 1) (by omega) (by omega)
  refine ok_pf hF (⟨by omega, by omega⟩) ?_
  intro F_8 hF_8 F_8_k F_8_o
  have f10 : (F_8 10).toInt = (F 10).toInt + 1 := by rw [F_8_k]; omega
  refine ok_some ?_
  refine ⟨hF_8, hA_4, (fun q hq => (F_8_o q (fun e => hq (by rw [e]; decide)))), (fun q hq => (((A_4_o q (fun e => hq (by rw [e]; decide))).trans (A_3_o q (fun e => hq (by rw [e]; decide)))).trans (A_2_o q (fun e => hq (by rw [e]; decide))))), ?_⟩
  exact f10
set_option maxRecDepth 10000 in
theorem s_d_sign {F : Nat → Int32} {A : Nat → Nat → Int32} {J : Nat → Nat → Int64} {x1 : Int32} {x2 : Int32} {x3 : Int32} (hF : IFm F) (hA : IAm A) (ht : (F 10).toInt ≤ 400) : ok (d_sign F A J x1 x2 x3) (fun r => IFm r.2.1 ∧ IAm r.2.2.1 ∧ (∀ q, q ∉ ([10] : List Nat) → r.2.1 q = F q) ∧ (∀ q, q ∉ ([3, 4, 5] : List Nat) → r.2.2.1 q = A q) ∧ r.1.toInt = 1 ∧ (r.2.1 10).toInt = (F 10).toInt + 1) := by
  have r18 : 0 ≤ (F 18).toInt ∧ (F 18).toInt ≤ 1 := hF 18
  unfold d_sign
  have l_1 : (59 : Int32).toInt = 59 := by decide
  refine ok_cond (fun c_2 => ?_) (fun c_2 => ?_)
  · rw [i_ne] at c_2
    have l_3 : (61 : Int32).toInt = 61 := by decide
    refine ok_cond (fun c_4 => ?_) (fun c_4 => ?_)
    · rw [i_ne] at c_4
      have l_5 : (40 : Int32).toInt = 40 := by decide
      refine ok_cond (fun c_6 => ?_) (fun c_6 => ?_)
      · rw [i_ne] at c_6
        have l_7 : (41 : Int32).toInt = 41 := by decide
        refine ok_cond (fun c_8 => ?_) (fun c_8 => ?_)
        · rw [i_ne] at c_8
          unfold d_sign_43
          have l_9 : (43 : Int32).toInt = 43 := by decide
          refine ok_cond (fun c_10 => ?_) (fun c_10 => ?_)
          · rw [i_ne] at c_10
            unfold d_sign_55
            have l_11 : (45 : Int32).toInt = 45 := by decide
            refine ok_cond (fun c_12 => ?_) (fun c_12 => ?_)
            · rw [i_ne] at c_12
              unfold d_sign_65
              have l_13 : (42 : Int32).toInt = 42 := by decide
              refine ok_cond (fun c_14 => ?_) (fun c_14 => ?_)
              · rw [i_ne] at c_14
                unfold d_sign_75
                have l_15 : (47 : Int32).toInt = 47 := by decide
                refine ok_cond (fun c_16 => ?_) (fun c_16 => ?_)
                · rw [i_ne] at c_16
                  unfold d_sign_85
                  have l_17 : (60 : Int32).toInt = 60 := by decide
                  refine ok_cond (fun c_18 => ?_) (fun c_18 => ?_)
                  · rw [i_ne] at c_18
                    unfold d_sign_95
                    have l_19 : (0 : Int32).toInt = 0 := by decide
                    refine ok_call (s_d_token hF hA (by omega) (by omega)) ?_
                    rintro ⟨u_20, F_21, A_22, J_23⟩ ⟨hF_21, hA_22, F_21_o, A_22_o, u_20_p⟩
                    dsimp only at hF_21 hA_22 F_21_o A_22_o u_20_p ⊢
                    have u_20_p : (F_21 10).toInt = (F 10).toInt + 1 := u_20_p
                    have r_24 : 0 ≤ (F_21 18).toInt ∧ (F_21 18).toInt ≤ 1 := hF_21 18
                    have r_25 : 0 ≤ (F 18).toInt ∧ (F 18).toInt ≤ 1 := hF 18
                    have f_26 : (F_21 18).toInt = (F 18).toInt := congrArg Int32.toInt (F_21_o 18 (by decide))
                    refine ok_some ?_
                    have l_27 : (1 : Int32).toInt = 1 := by decide
                    refine ⟨hF_21, hA_22, (fun q hq => (F_21_o q hq)), (fun q hq => (A_22_o q hq)), ?_⟩
                    exact ⟨by omega, by omega⟩
                  · rw [i_nne] at c_18
                    unfold d_sign_95
                    have l_28 : (0 : Int32).toInt = 0 := by decide
                    refine ok_call (s_d_token hF hA (by omega) (by omega)) ?_
                    rintro ⟨u_29, F_30, A_31, J_32⟩ ⟨hF_30, hA_31, F_30_o, A_31_o, u_29_p⟩
                    dsimp only at hF_30 hA_31 F_30_o A_31_o u_29_p ⊢
                    have u_29_p : (F_30 10).toInt = (F 10).toInt + 1 := u_29_p
                    have r_33 : 0 ≤ (F_30 18).toInt ∧ (F_30 18).toInt ≤ 1 := hF_30 18
                    have r_34 : 0 ≤ (F 18).toInt ∧ (F 18).toInt ≤ 1 := hF 18
                    have f_35 : (F_30 18).toInt = (F 18).toInt := congrArg Int32.toInt (F_30_o 18 (by decide))
                    refine ok_some ?_
                    have l_36 : (1 : Int32).toInt = 1 := by decide
                    refine ⟨hF_30, hA_31, (fun q hq => (F_30_o q hq)), (fun q hq => (A_31_o q hq)), ?_⟩
                    exact ⟨by omega, by omega⟩
                · rw [i_nne] at c_16
                  unfold d_sign_85
                  have l_37 : (60 : Int32).toInt = 60 := by decide
                  refine ok_cond (fun c_38 => ?_) (fun c_38 => ?_)
                  · rw [i_ne] at c_38
                    unfold d_sign_95
                    have l_39 : (0 : Int32).toInt = 0 := by decide
                    refine ok_call (s_d_token hF hA (by omega) (by omega)) ?_
                    rintro ⟨u_40, F_41, A_42, J_43⟩ ⟨hF_41, hA_42, F_41_o, A_42_o, u_40_p⟩
                    dsimp only at hF_41 hA_42 F_41_o A_42_o u_40_p ⊢
                    have u_40_p : (F_41 10).toInt = (F 10).toInt + 1 := u_40_p
                    have r_44 : 0 ≤ (F_41 18).toInt ∧ (F_41 18).toInt ≤ 1 := hF_41 18
                    have r_45 : 0 ≤ (F 18).toInt ∧ (F 18).toInt ≤ 1 := hF 18
                    have f_46 : (F_41 18).toInt = (F 18).toInt := congrArg Int32.toInt (F_41_o 18 (by decide))
                    refine ok_some ?_
                    have l_47 : (1 : Int32).toInt = 1 := by decide
                    refine ⟨hF_41, hA_42, (fun q hq => (F_41_o q hq)), (fun q hq => (A_42_o q hq)), ?_⟩
                    exact ⟨by omega, by omega⟩
                  · rw [i_nne] at c_38
                    unfold d_sign_95
                    have l_48 : (0 : Int32).toInt = 0 := by decide
                    refine ok_call (s_d_token hF hA (by omega) (by omega)) ?_
                    rintro ⟨u_49, F_50, A_51, J_52⟩ ⟨hF_50, hA_51, F_50_o, A_51_o, u_49_p⟩
                    dsimp only at hF_50 hA_51 F_50_o A_51_o u_49_p ⊢
                    have u_49_p : (F_50 10).toInt = (F 10).toInt + 1 := u_49_p
                    have r_53 : 0 ≤ (F_50 18).toInt ∧ (F_50 18).toInt ≤ 1 := hF_50 18
                    have r_54 : 0 ≤ (F 18).toInt ∧ (F 18).toInt ≤ 1 := hF 18
                    have f_55 : (F_50 18).toInt = (F 18).toInt := congrArg Int32.toInt (F_50_o 18 (by decide))
                    refine ok_some ?_
                    have l_56 : (1 : Int32).toInt = 1 := by decide
                    refine ⟨hF_50, hA_51, (fun q hq => (F_50_o q hq)), (fun q hq => (A_51_o q hq)), ?_⟩
                    exact ⟨by omega, by omega⟩
              · rw [i_nne] at c_14
                unfold d_sign_75
                have l_57 : (47 : Int32).toInt = 47 := by decide
                refine ok_cond (fun c_58 => ?_) (fun c_58 => ?_)
                · rw [i_ne] at c_58
                  unfold d_sign_85
                  have l_59 : (60 : Int32).toInt = 60 := by decide
                  refine ok_cond (fun c_60 => ?_) (fun c_60 => ?_)
                  · rw [i_ne] at c_60
                    unfold d_sign_95
                    have l_61 : (0 : Int32).toInt = 0 := by decide
                    refine ok_call (s_d_token hF hA (by omega) (by omega)) ?_
                    rintro ⟨u_62, F_63, A_64, J_65⟩ ⟨hF_63, hA_64, F_63_o, A_64_o, u_62_p⟩
                    dsimp only at hF_63 hA_64 F_63_o A_64_o u_62_p ⊢
                    have u_62_p : (F_63 10).toInt = (F 10).toInt + 1 := u_62_p
                    have r_66 : 0 ≤ (F_63 18).toInt ∧ (F_63 18).toInt ≤ 1 := hF_63 18
                    have r_67 : 0 ≤ (F 18).toInt ∧ (F 18).toInt ≤ 1 := hF 18
                    have f_68 : (F_63 18).toInt = (F 18).toInt := congrArg Int32.toInt (F_63_o 18 (by decide))
                    refine ok_some ?_
                    have l_69 : (1 : Int32).toInt = 1 := by decide
                    refine ⟨hF_63, hA_64, (fun q hq => (F_63_o q hq)), (fun q hq => (A_64_o q hq)), ?_⟩
                    exact ⟨by omega, by omega⟩
                  · rw [i_nne] at c_60
                    unfold d_sign_95
                    have l_70 : (0 : Int32).toInt = 0 := by decide
                    refine ok_call (s_d_token hF hA (by omega) (by omega)) ?_
                    rintro ⟨u_71, F_72, A_73, J_74⟩ ⟨hF_72, hA_73, F_72_o, A_73_o, u_71_p⟩
                    dsimp only at hF_72 hA_73 F_72_o A_73_o u_71_p ⊢
                    have u_71_p : (F_72 10).toInt = (F 10).toInt + 1 := u_71_p
                    have r_75 : 0 ≤ (F_72 18).toInt ∧ (F_72 18).toInt ≤ 1 := hF_72 18
                    have r_76 : 0 ≤ (F 18).toInt ∧ (F 18).toInt ≤ 1 := hF 18
                    have f_77 : (F_72 18).toInt = (F 18).toInt := congrArg Int32.toInt (F_72_o 18 (by decide))
                    refine ok_some ?_
                    have l_78 : (1 : Int32).toInt = 1 := by decide
                    refine ⟨hF_72, hA_73, (fun q hq => (F_72_o q hq)), (fun q hq => (A_73_o q hq)), ?_⟩
                    exact ⟨by omega, by omega⟩
                · rw [i_nne] at c_58
                  unfold d_sign_85
                  have l_79 : (60 : Int32).toInt = 60 := by decide
                  refine ok_cond (fun c_80 => ?_) (fun c_80 => ?_)
                  · rw [i_ne] at c_80
                    unfold d_sign_95
                    have l_81 : (0 : Int32).toInt = 0 := by decide
                    refine ok_call (s_d_token hF hA (by omega) (by omega)) ?_
                    rintro ⟨u_82, F_83, A_84, J_85⟩ ⟨hF_83, hA_84, F_83_o, A_84_o, u_82_p⟩
                    dsimp only at hF_83 hA_84 F_83_o A_84_o u_82_p ⊢
                    have u_82_p : (F_83 10).toInt = (F 10).toInt + 1 := u_82_p
                    have r_86 : 0 ≤ (F_83 18).toInt ∧ (F_83 18).toInt ≤ 1 := hF_83 18
                    have r_87 : 0 ≤ (F 18).toInt ∧ (F 18).toInt ≤ 1 := hF 18
                    have f_88 : (F_83 18).toInt = (F 18).toInt := congrArg Int32.toInt (F_83_o 18 (by decide))
                    refine ok_some ?_
                    have l_89 : (1 : Int32).toInt = 1 := by decide
                    refine ⟨hF_83, hA_84, (fun q hq => (F_83_o q hq)), (fun q hq => (A_84_o q hq)), ?_⟩
                    exact ⟨by omega, by omega⟩
                  · rw [i_nne] at c_80
                    unfold d_sign_95
                    have l_90 : (0 : Int32).toInt = 0 := by decide
                    refine ok_call (s_d_token hF hA (by omega) (by omega)) ?_
                    rintro ⟨u_91, F_92, A_93, J_94⟩ ⟨hF_92, hA_93, F_92_o, A_93_o, u_91_p⟩
                    dsimp only at hF_92 hA_93 F_92_o A_93_o u_91_p ⊢
                    have u_91_p : (F_92 10).toInt = (F 10).toInt + 1 := u_91_p
                    have r_95 : 0 ≤ (F_92 18).toInt ∧ (F_92 18).toInt ≤ 1 := hF_92 18
                    have r_96 : 0 ≤ (F 18).toInt ∧ (F 18).toInt ≤ 1 := hF 18
                    have f_97 : (F_92 18).toInt = (F 18).toInt := congrArg Int32.toInt (F_92_o 18 (by decide))
                    refine ok_some ?_
                    have l_98 : (1 : Int32).toInt = 1 := by decide
                    refine ⟨hF_92, hA_93, (fun q hq => (F_92_o q hq)), (fun q hq => (A_93_o q hq)), ?_⟩
                    exact ⟨by omega, by omega⟩
            · rw [i_nne] at c_12
              unfold d_sign_65
              have l_99 : (42 : Int32).toInt = 42 := by decide
              refine ok_cond (fun c_100 => ?_) (fun c_100 => ?_)
              · rw [i_ne] at c_100
                unfold d_sign_75
                have l_101 : (47 : Int32).toInt = 47 := by decide
                refine ok_cond (fun c_102 => ?_) (fun c_102 => ?_)
                · rw [i_ne] at c_102
                  unfold d_sign_85
                  have l_103 : (60 : Int32).toInt = 60 := by decide
                  refine ok_cond (fun c_104 => ?_) (fun c_104 => ?_)
                  · rw [i_ne] at c_104
                    unfold d_sign_95
                    have l_105 : (0 : Int32).toInt = 0 := by decide
                    refine ok_call (s_d_token hF hA (by omega) (by omega)) ?_
                    rintro ⟨u_106, F_107, A_108, J_109⟩ ⟨hF_107, hA_108, F_107_o, A_108_o, u_106_p⟩
                    dsimp only at hF_107 hA_108 F_107_o A_108_o u_106_p ⊢
                    have u_106_p : (F_107 10).toInt = (F 10).toInt + 1 := u_106_p
                    have r_110 : 0 ≤ (F_107 18).toInt ∧ (F_107 18).toInt ≤ 1 := hF_107 18
                    have r_111 : 0 ≤ (F 18).toInt ∧ (F 18).toInt ≤ 1 := hF 18
                    have f_112 : (F_107 18).toInt = (F 18).toInt := congrArg Int32.toInt (F_107_o 18 (by decide))
                    refine ok_some ?_
                    have l_113 : (1 : Int32).toInt = 1 := by decide
                    refine ⟨hF_107, hA_108, (fun q hq => (F_107_o q hq)), (fun q hq => (A_108_o q hq)), ?_⟩
                    exact ⟨by omega, by omega⟩
                  · rw [i_nne] at c_104
                    unfold d_sign_95
                    have l_114 : (0 : Int32).toInt = 0 := by decide
                    refine ok_call (s_d_token hF hA (by omega) (by omega)) ?_
                    rintro ⟨u_115, F_116, A_117, J_118⟩ ⟨hF_116, hA_117, F_116_o, A_117_o, u_115_p⟩
                    dsimp only at hF_116 hA_117 F_116_o A_117_o u_115_p ⊢
                    have u_115_p : (F_116 10).toInt = (F 10).toInt + 1 := u_115_p
                    have r_119 : 0 ≤ (F_116 18).toInt ∧ (F_116 18).toInt ≤ 1 := hF_116 18
                    have r_120 : 0 ≤ (F 18).toInt ∧ (F 18).toInt ≤ 1 := hF 18
                    have f_121 : (F_116 18).toInt = (F 18).toInt := congrArg Int32.toInt (F_116_o 18 (by decide))
                    refine ok_some ?_
                    have l_122 : (1 : Int32).toInt = 1 := by decide
                    refine ⟨hF_116, hA_117, (fun q hq => (F_116_o q hq)), (fun q hq => (A_117_o q hq)), ?_⟩
                    exact ⟨by omega, by omega⟩
                · rw [i_nne] at c_102
                  unfold d_sign_85
                  have l_123 : (60 : Int32).toInt = 60 := by decide
                  refine ok_cond (fun c_124 => ?_) (fun c_124 => ?_)
                  · rw [i_ne] at c_124
                    unfold d_sign_95
                    have l_125 : (0 : Int32).toInt = 0 := by decide
                    refine ok_call (s_d_token hF hA (by omega) (by omega)) ?_
                    rintro ⟨u_126, F_127, A_128, J_129⟩ ⟨hF_127, hA_128, F_127_o, A_128_o, u_126_p⟩
                    dsimp only at hF_127 hA_128 F_127_o A_128_o u_126_p ⊢
                    have u_126_p : (F_127 10).toInt = (F 10).toInt + 1 := u_126_p
                    have r_130 : 0 ≤ (F_127 18).toInt ∧ (F_127 18).toInt ≤ 1 := hF_127 18
                    have r_131 : 0 ≤ (F 18).toInt ∧ (F 18).toInt ≤ 1 := hF 18
                    have f_132 : (F_127 18).toInt = (F 18).toInt := congrArg Int32.toInt (F_127_o 18 (by decide))
                    refine ok_some ?_
                    have l_133 : (1 : Int32).toInt = 1 := by decide
                    refine ⟨hF_127, hA_128, (fun q hq => (F_127_o q hq)), (fun q hq => (A_128_o q hq)), ?_⟩
                    exact ⟨by omega, by omega⟩
                  · rw [i_nne] at c_124
                    unfold d_sign_95
                    have l_134 : (0 : Int32).toInt = 0 := by decide
                    refine ok_call (s_d_token hF hA (by omega) (by omega)) ?_
                    rintro ⟨u_135, F_136, A_137, J_138⟩ ⟨hF_136, hA_137, F_136_o, A_137_o, u_135_p⟩
                    dsimp only at hF_136 hA_137 F_136_o A_137_o u_135_p ⊢
                    have u_135_p : (F_136 10).toInt = (F 10).toInt + 1 := u_135_p
                    have r_139 : 0 ≤ (F_136 18).toInt ∧ (F_136 18).toInt ≤ 1 := hF_136 18
                    have r_140 : 0 ≤ (F 18).toInt ∧ (F 18).toInt ≤ 1 := hF 18
                    have f_141 : (F_136 18).toInt = (F 18).toInt := congrArg Int32.toInt (F_136_o 18 (by decide))
                    refine ok_some ?_
                    have l_142 : (1 : Int32).toInt = 1 := by decide
                    refine ⟨hF_136, hA_137, (fun q hq => (F_136_o q hq)), (fun q hq => (A_137_o q hq)), ?_⟩
                    exact ⟨by omega, by omega⟩
              · rw [i_nne] at c_100
                unfold d_sign_75
                have l_143 : (47 : Int32).toInt = 47 := by decide
                refine ok_cond (fun c_144 => ?_) (fun c_144 => ?_)
                · rw [i_ne] at c_144
                  unfold d_sign_85
                  have l_145 : (60 : Int32).toInt = 60 := by decide
                  refine ok_cond (fun c_146 => ?_) (fun c_146 => ?_)
                  · rw [i_ne] at c_146
                    unfold d_sign_95
                    have l_147 : (0 : Int32).toInt = 0 := by decide
                    refine ok_call (s_d_token hF hA (by omega) (by omega)) ?_
                    rintro ⟨u_148, F_149, A_150, J_151⟩ ⟨hF_149, hA_150, F_149_o, A_150_o, u_148_p⟩
                    dsimp only at hF_149 hA_150 F_149_o A_150_o u_148_p ⊢
                    have u_148_p : (F_149 10).toInt = (F 10).toInt + 1 := u_148_p
                    have r_152 : 0 ≤ (F_149 18).toInt ∧ (F_149 18).toInt ≤ 1 := hF_149 18
                    have r_153 : 0 ≤ (F 18).toInt ∧ (F 18).toInt ≤ 1 := hF 18
                    have f_154 : (F_149 18).toInt = (F 18).toInt := congrArg Int32.toInt (F_149_o 18 (by decide))
                    refine ok_some ?_
                    have l_155 : (1 : Int32).toInt = 1 := by decide
                    refine ⟨hF_149, hA_150, (fun q hq => (F_149_o q hq)), (fun q hq => (A_150_o q hq)), ?_⟩
                    exact ⟨by omega, by omega⟩
                  · rw [i_nne] at c_146
                    unfold d_sign_95
                    have l_156 : (0 : Int32).toInt = 0 := by decide
                    refine ok_call (s_d_token hF hA (by omega) (by omega)) ?_
                    rintro ⟨u_157, F_158, A_159, J_160⟩ ⟨hF_158, hA_159, F_158_o, A_159_o, u_157_p⟩
                    dsimp only at hF_158 hA_159 F_158_o A_159_o u_157_p ⊢
                    have u_157_p : (F_158 10).toInt = (F 10).toInt + 1 := u_157_p
                    have r_161 : 0 ≤ (F_158 18).toInt ∧ (F_158 18).toInt ≤ 1 := hF_158 18
                    have r_162 : 0 ≤ (F 18).toInt ∧ (F 18).toInt ≤ 1 := hF 18
                    have f_163 : (F_158 18).toInt = (F 18).toInt := congrArg Int32.toInt (F_158_o 18 (by decide))
                    refine ok_some ?_
                    have l_164 : (1 : Int32).toInt = 1 := by decide
                    refine ⟨hF_158, hA_159, (fun q hq => (F_158_o q hq)), (fun q hq => (A_159_o q hq)), ?_⟩
                    exact ⟨by omega, by omega⟩
                · rw [i_nne] at c_144
                  unfold d_sign_85
                  have l_165 : (60 : Int32).toInt = 60 := by decide
                  refine ok_cond (fun c_166 => ?_) (fun c_166 => ?_)
                  · rw [i_ne] at c_166
                    unfold d_sign_95
                    have l_167 : (0 : Int32).toInt = 0 := by decide
                    refine ok_call (s_d_token hF hA (by omega) (by omega)) ?_
                    rintro ⟨u_168, F_169, A_170, J_171⟩ ⟨hF_169, hA_170, F_169_o, A_170_o, u_168_p⟩
                    dsimp only at hF_169 hA_170 F_169_o A_170_o u_168_p ⊢
                    have u_168_p : (F_169 10).toInt = (F 10).toInt + 1 := u_168_p
                    have r_172 : 0 ≤ (F_169 18).toInt ∧ (F_169 18).toInt ≤ 1 := hF_169 18
                    have r_173 : 0 ≤ (F 18).toInt ∧ (F 18).toInt ≤ 1 := hF 18
                    have f_174 : (F_169 18).toInt = (F 18).toInt := congrArg Int32.toInt (F_169_o 18 (by decide))
                    refine ok_some ?_
                    have l_175 : (1 : Int32).toInt = 1 := by decide
                    refine ⟨hF_169, hA_170, (fun q hq => (F_169_o q hq)), (fun q hq => (A_170_o q hq)), ?_⟩
                    exact ⟨by omega, by omega⟩
                  · rw [i_nne] at c_166
                    unfold d_sign_95
                    have l_176 : (0 : Int32).toInt = 0 := by decide
                    refine ok_call (s_d_token hF hA (by omega) (by omega)) ?_
                    rintro ⟨u_177, F_178, A_179, J_180⟩ ⟨hF_178, hA_179, F_178_o, A_179_o, u_177_p⟩
                    dsimp only at hF_178 hA_179 F_178_o A_179_o u_177_p ⊢
                    have u_177_p : (F_178 10).toInt = (F 10).toInt + 1 := u_177_p
                    have r_181 : 0 ≤ (F_178 18).toInt ∧ (F_178 18).toInt ≤ 1 := hF_178 18
                    have r_182 : 0 ≤ (F 18).toInt ∧ (F 18).toInt ≤ 1 := hF 18
                    have f_183 : (F_178 18).toInt = (F 18).toInt := congrArg Int32.toInt (F_178_o 18 (by decide))
                    refine ok_some ?_
                    have l_184 : (1 : Int32).toInt = 1 := by decide
                    refine ⟨hF_178, hA_179, (fun q hq => (F_178_o q hq)), (fun q hq => (A_179_o q hq)), ?_⟩
                    exact ⟨by omega, by omega⟩
          · rw [i_nne] at c_10
            unfold d_sign_55
            have l_185 : (45 : Int32).toInt = 45 := by decide
            refine ok_cond (fun c_186 => ?_) (fun c_186 => ?_)
            · rw [i_ne] at c_186
              unfold d_sign_65
              have l_187 : (42 : Int32).toInt = 42 := by decide
              refine ok_cond (fun c_188 => ?_) (fun c_188 => ?_)
              · rw [i_ne] at c_188
                unfold d_sign_75
                have l_189 : (47 : Int32).toInt = 47 := by decide
                refine ok_cond (fun c_190 => ?_) (fun c_190 => ?_)
                · rw [i_ne] at c_190
                  unfold d_sign_85
                  have l_191 : (60 : Int32).toInt = 60 := by decide
                  refine ok_cond (fun c_192 => ?_) (fun c_192 => ?_)
                  · rw [i_ne] at c_192
                    unfold d_sign_95
                    have l_193 : (0 : Int32).toInt = 0 := by decide
                    refine ok_call (s_d_token hF hA (by omega) (by omega)) ?_
                    rintro ⟨u_194, F_195, A_196, J_197⟩ ⟨hF_195, hA_196, F_195_o, A_196_o, u_194_p⟩
                    dsimp only at hF_195 hA_196 F_195_o A_196_o u_194_p ⊢
                    have u_194_p : (F_195 10).toInt = (F 10).toInt + 1 := u_194_p
                    have r_198 : 0 ≤ (F_195 18).toInt ∧ (F_195 18).toInt ≤ 1 := hF_195 18
                    have r_199 : 0 ≤ (F 18).toInt ∧ (F 18).toInt ≤ 1 := hF 18
                    have f_200 : (F_195 18).toInt = (F 18).toInt := congrArg Int32.toInt (F_195_o 18 (by decide))
                    refine ok_some ?_
                    have l_201 : (1 : Int32).toInt = 1 := by decide
                    refine ⟨hF_195, hA_196, (fun q hq => (F_195_o q hq)), (fun q hq => (A_196_o q hq)), ?_⟩
                    exact ⟨by omega, by omega⟩
                  · rw [i_nne] at c_192
                    unfold d_sign_95
                    have l_202 : (0 : Int32).toInt = 0 := by decide
                    refine ok_call (s_d_token hF hA (by omega) (by omega)) ?_
                    rintro ⟨u_203, F_204, A_205, J_206⟩ ⟨hF_204, hA_205, F_204_o, A_205_o, u_203_p⟩
                    dsimp only at hF_204 hA_205 F_204_o A_205_o u_203_p ⊢
                    have u_203_p : (F_204 10).toInt = (F 10).toInt + 1 := u_203_p
                    have r_207 : 0 ≤ (F_204 18).toInt ∧ (F_204 18).toInt ≤ 1 := hF_204 18
                    have r_208 : 0 ≤ (F 18).toInt ∧ (F 18).toInt ≤ 1 := hF 18
                    have f_209 : (F_204 18).toInt = (F 18).toInt := congrArg Int32.toInt (F_204_o 18 (by decide))
                    refine ok_some ?_
                    have l_210 : (1 : Int32).toInt = 1 := by decide
                    refine ⟨hF_204, hA_205, (fun q hq => (F_204_o q hq)), (fun q hq => (A_205_o q hq)), ?_⟩
                    exact ⟨by omega, by omega⟩
                · rw [i_nne] at c_190
                  unfold d_sign_85
                  have l_211 : (60 : Int32).toInt = 60 := by decide
                  refine ok_cond (fun c_212 => ?_) (fun c_212 => ?_)
                  · rw [i_ne] at c_212
                    unfold d_sign_95
                    have l_213 : (0 : Int32).toInt = 0 := by decide
                    refine ok_call (s_d_token hF hA (by omega) (by omega)) ?_
                    rintro ⟨u_214, F_215, A_216, J_217⟩ ⟨hF_215, hA_216, F_215_o, A_216_o, u_214_p⟩
                    dsimp only at hF_215 hA_216 F_215_o A_216_o u_214_p ⊢
                    have u_214_p : (F_215 10).toInt = (F 10).toInt + 1 := u_214_p
                    have r_218 : 0 ≤ (F_215 18).toInt ∧ (F_215 18).toInt ≤ 1 := hF_215 18
                    have r_219 : 0 ≤ (F 18).toInt ∧ (F 18).toInt ≤ 1 := hF 18
                    have f_220 : (F_215 18).toInt = (F 18).toInt := congrArg Int32.toInt (F_215_o 18 (by decide))
                    refine ok_some ?_
                    have l_221 : (1 : Int32).toInt = 1 := by decide
                    refine ⟨hF_215, hA_216, (fun q hq => (F_215_o q hq)), (fun q hq => (A_216_o q hq)), ?_⟩
                    exact ⟨by omega, by omega⟩
                  · rw [i_nne] at c_212
                    unfold d_sign_95
                    have l_222 : (0 : Int32).toInt = 0 := by decide
                    refine ok_call (s_d_token hF hA (by omega) (by omega)) ?_
                    rintro ⟨u_223, F_224, A_225, J_226⟩ ⟨hF_224, hA_225, F_224_o, A_225_o, u_223_p⟩
                    dsimp only at hF_224 hA_225 F_224_o A_225_o u_223_p ⊢
                    have u_223_p : (F_224 10).toInt = (F 10).toInt + 1 := u_223_p
                    have r_227 : 0 ≤ (F_224 18).toInt ∧ (F_224 18).toInt ≤ 1 := hF_224 18
                    have r_228 : 0 ≤ (F 18).toInt ∧ (F 18).toInt ≤ 1 := hF 18
                    have f_229 : (F_224 18).toInt = (F 18).toInt := congrArg Int32.toInt (F_224_o 18 (by decide))
                    refine ok_some ?_
                    have l_230 : (1 : Int32).toInt = 1 := by decide
                    refine ⟨hF_224, hA_225, (fun q hq => (F_224_o q hq)), (fun q hq => (A_225_o q hq)), ?_⟩
                    exact ⟨by omega, by omega⟩
              · rw [i_nne] at c_188
                unfold d_sign_75
                have l_231 : (47 : Int32).toInt = 47 := by decide
                refine ok_cond (fun c_232 => ?_) (fun c_232 => ?_)
                · rw [i_ne] at c_232
                  unfold d_sign_85
                  have l_233 : (60 : Int32).toInt = 60 := by decide
                  refine ok_cond (fun c_234 => ?_) (fun c_234 => ?_)
                  · rw [i_ne] at c_234
                    unfold d_sign_95
                    have l_235 : (0 : Int32).toInt = 0 := by decide
                    refine ok_call (s_d_token hF hA (by omega) (by omega)) ?_
                    rintro ⟨u_236, F_237, A_238, J_239⟩ ⟨hF_237, hA_238, F_237_o, A_238_o, u_236_p⟩
                    dsimp only at hF_237 hA_238 F_237_o A_238_o u_236_p ⊢
                    have u_236_p : (F_237 10).toInt = (F 10).toInt + 1 := u_236_p
                    have r_240 : 0 ≤ (F_237 18).toInt ∧ (F_237 18).toInt ≤ 1 := hF_237 18
                    have r_241 : 0 ≤ (F 18).toInt ∧ (F 18).toInt ≤ 1 := hF 18
                    have f_242 : (F_237 18).toInt = (F 18).toInt := congrArg Int32.toInt (F_237_o 18 (by decide))
                    refine ok_some ?_
                    have l_243 : (1 : Int32).toInt = 1 := by decide
                    refine ⟨hF_237, hA_238, (fun q hq => (F_237_o q hq)), (fun q hq => (A_238_o q hq)), ?_⟩
                    exact ⟨by omega, by omega⟩
                  · rw [i_nne] at c_234
                    unfold d_sign_95
                    have l_244 : (0 : Int32).toInt = 0 := by decide
                    refine ok_call (s_d_token hF hA (by omega) (by omega)) ?_
                    rintro ⟨u_245, F_246, A_247, J_248⟩ ⟨hF_246, hA_247, F_246_o, A_247_o, u_245_p⟩
                    dsimp only at hF_246 hA_247 F_246_o A_247_o u_245_p ⊢
                    have u_245_p : (F_246 10).toInt = (F 10).toInt + 1 := u_245_p
                    have r_249 : 0 ≤ (F_246 18).toInt ∧ (F_246 18).toInt ≤ 1 := hF_246 18
                    have r_250 : 0 ≤ (F 18).toInt ∧ (F 18).toInt ≤ 1 := hF 18
                    have f_251 : (F_246 18).toInt = (F 18).toInt := congrArg Int32.toInt (F_246_o 18 (by decide))
                    refine ok_some ?_
                    have l_252 : (1 : Int32).toInt = 1 := by decide
                    refine ⟨hF_246, hA_247, (fun q hq => (F_246_o q hq)), (fun q hq => (A_247_o q hq)), ?_⟩
                    exact ⟨by omega, by omega⟩
                · rw [i_nne] at c_232
                  unfold d_sign_85
                  have l_253 : (60 : Int32).toInt = 60 := by decide
                  refine ok_cond (fun c_254 => ?_) (fun c_254 => ?_)
                  · rw [i_ne] at c_254
                    unfold d_sign_95
                    have l_255 : (0 : Int32).toInt = 0 := by decide
                    refine ok_call (s_d_token hF hA (by omega) (by omega)) ?_
                    rintro ⟨u_256, F_257, A_258, J_259⟩ ⟨hF_257, hA_258, F_257_o, A_258_o, u_256_p⟩
                    dsimp only at hF_257 hA_258 F_257_o A_258_o u_256_p ⊢
                    have u_256_p : (F_257 10).toInt = (F 10).toInt + 1 := u_256_p
                    have r_260 : 0 ≤ (F_257 18).toInt ∧ (F_257 18).toInt ≤ 1 := hF_257 18
                    have r_261 : 0 ≤ (F 18).toInt ∧ (F 18).toInt ≤ 1 := hF 18
                    have f_262 : (F_257 18).toInt = (F 18).toInt := congrArg Int32.toInt (F_257_o 18 (by decide))
                    refine ok_some ?_
                    have l_263 : (1 : Int32).toInt = 1 := by decide
                    refine ⟨hF_257, hA_258, (fun q hq => (F_257_o q hq)), (fun q hq => (A_258_o q hq)), ?_⟩
                    exact ⟨by omega, by omega⟩
                  · rw [i_nne] at c_254
                    unfold d_sign_95
                    have l_264 : (0 : Int32).toInt = 0 := by decide
                    refine ok_call (s_d_token hF hA (by omega) (by omega)) ?_
                    rintro ⟨u_265, F_266, A_267, J_268⟩ ⟨hF_266, hA_267, F_266_o, A_267_o, u_265_p⟩
                    dsimp only at hF_266 hA_267 F_266_o A_267_o u_265_p ⊢
                    have u_265_p : (F_266 10).toInt = (F 10).toInt + 1 := u_265_p
                    have r_269 : 0 ≤ (F_266 18).toInt ∧ (F_266 18).toInt ≤ 1 := hF_266 18
                    have r_270 : 0 ≤ (F 18).toInt ∧ (F 18).toInt ≤ 1 := hF 18
                    have f_271 : (F_266 18).toInt = (F 18).toInt := congrArg Int32.toInt (F_266_o 18 (by decide))
                    refine ok_some ?_
                    have l_272 : (1 : Int32).toInt = 1 := by decide
                    refine ⟨hF_266, hA_267, (fun q hq => (F_266_o q hq)), (fun q hq => (A_267_o q hq)), ?_⟩
                    exact ⟨by omega, by omega⟩
            · rw [i_nne] at c_186
              unfold d_sign_65
              have l_273 : (42 : Int32).toInt = 42 := by decide
              refine ok_cond (fun c_274 => ?_) (fun c_274 => ?_)
              · rw [i_ne] at c_274
                unfold d_sign_75
                have l_275 : (47 : Int32).toInt = 47 := by decide
                refine ok_cond (fun c_276 => ?_) (fun c_276 => ?_)
                · rw [i_ne] at c_276
                  unfold d_sign_85
                  have l_277 : (60 : Int32).toInt = 60 := by decide
                  refine ok_cond (fun c_278 => ?_) (fun c_278 => ?_)
                  · rw [i_ne] at c_278
                    unfold d_sign_95
                    have l_279 : (0 : Int32).toInt = 0 := by decide
                    refine ok_call (s_d_token hF hA (by omega) (by omega)) ?_
                    rintro ⟨u_280, F_281, A_282, J_283⟩ ⟨hF_281, hA_282, F_281_o, A_282_o, u_280_p⟩
                    dsimp only at hF_281 hA_282 F_281_o A_282_o u_280_p ⊢
                    have u_280_p : (F_281 10).toInt = (F 10).toInt + 1 := u_280_p
                    have r_284 : 0 ≤ (F_281 18).toInt ∧ (F_281 18).toInt ≤ 1 := hF_281 18
                    have r_285 : 0 ≤ (F 18).toInt ∧ (F 18).toInt ≤ 1 := hF 18
                    have f_286 : (F_281 18).toInt = (F 18).toInt := congrArg Int32.toInt (F_281_o 18 (by decide))
                    refine ok_some ?_
                    have l_287 : (1 : Int32).toInt = 1 := by decide
                    refine ⟨hF_281, hA_282, (fun q hq => (F_281_o q hq)), (fun q hq => (A_282_o q hq)), ?_⟩
                    exact ⟨by omega, by omega⟩
                  · rw [i_nne] at c_278
                    unfold d_sign_95
                    have l_288 : (0 : Int32).toInt = 0 := by decide
                    refine ok_call (s_d_token hF hA (by omega) (by omega)) ?_
                    rintro ⟨u_289, F_290, A_291, J_292⟩ ⟨hF_290, hA_291, F_290_o, A_291_o, u_289_p⟩
                    dsimp only at hF_290 hA_291 F_290_o A_291_o u_289_p ⊢
                    have u_289_p : (F_290 10).toInt = (F 10).toInt + 1 := u_289_p
                    have r_293 : 0 ≤ (F_290 18).toInt ∧ (F_290 18).toInt ≤ 1 := hF_290 18
                    have r_294 : 0 ≤ (F 18).toInt ∧ (F 18).toInt ≤ 1 := hF 18
                    have f_295 : (F_290 18).toInt = (F 18).toInt := congrArg Int32.toInt (F_290_o 18 (by decide))
                    refine ok_some ?_
                    have l_296 : (1 : Int32).toInt = 1 := by decide
                    refine ⟨hF_290, hA_291, (fun q hq => (F_290_o q hq)), (fun q hq => (A_291_o q hq)), ?_⟩
                    exact ⟨by omega, by omega⟩
                · rw [i_nne] at c_276
                  unfold d_sign_85
                  have l_297 : (60 : Int32).toInt = 60 := by decide
                  refine ok_cond (fun c_298 => ?_) (fun c_298 => ?_)
                  · rw [i_ne] at c_298
                    unfold d_sign_95
                    have l_299 : (0 : Int32).toInt = 0 := by decide
                    refine ok_call (s_d_token hF hA (by omega) (by omega)) ?_
                    rintro ⟨u_300, F_301, A_302, J_303⟩ ⟨hF_301, hA_302, F_301_o, A_302_o, u_300_p⟩
                    dsimp only at hF_301 hA_302 F_301_o A_302_o u_300_p ⊢
                    have u_300_p : (F_301 10).toInt = (F 10).toInt + 1 := u_300_p
                    have r_304 : 0 ≤ (F_301 18).toInt ∧ (F_301 18).toInt ≤ 1 := hF_301 18
                    have r_305 : 0 ≤ (F 18).toInt ∧ (F 18).toInt ≤ 1 := hF 18
                    have f_306 : (F_301 18).toInt = (F 18).toInt := congrArg Int32.toInt (F_301_o 18 (by decide))
                    refine ok_some ?_
                    have l_307 : (1 : Int32).toInt = 1 := by decide
                    refine ⟨hF_301, hA_302, (fun q hq => (F_301_o q hq)), (fun q hq => (A_302_o q hq)), ?_⟩
                    exact ⟨by omega, by omega⟩
                  · rw [i_nne] at c_298
                    unfold d_sign_95
                    have l_308 : (0 : Int32).toInt = 0 := by decide
                    refine ok_call (s_d_token hF hA (by omega) (by omega)) ?_
                    rintro ⟨u_309, F_310, A_311, J_312⟩ ⟨hF_310, hA_311, F_310_o, A_311_o, u_309_p⟩
                    dsimp only at hF_310 hA_311 F_310_o A_311_o u_309_p ⊢
                    have u_309_p : (F_310 10).toInt = (F 10).toInt + 1 := u_309_p
                    have r_313 : 0 ≤ (F_310 18).toInt ∧ (F_310 18).toInt ≤ 1 := hF_310 18
                    have r_314 : 0 ≤ (F 18).toInt ∧ (F 18).toInt ≤ 1 := hF 18
                    have f_315 : (F_310 18).toInt = (F 18).toInt := congrArg Int32.toInt (F_310_o 18 (by decide))
                    refine ok_some ?_
                    have l_316 : (1 : Int32).toInt = 1 := by decide
                    refine ⟨hF_310, hA_311, (fun q hq => (F_310_o q hq)), (fun q hq => (A_311_o q hq)), ?_⟩
                    exact ⟨by omega, by omega⟩
              · rw [i_nne] at c_274
                unfold d_sign_75
                have l_317 : (47 : Int32).toInt = 47 := by decide
                refine ok_cond (fun c_318 => ?_) (fun c_318 => ?_)
                · rw [i_ne] at c_318
                  unfold d_sign_85
                  have l_319 : (60 : Int32).toInt = 60 := by decide
                  refine ok_cond (fun c_320 => ?_) (fun c_320 => ?_)
                  · rw [i_ne] at c_320
                    unfold d_sign_95
                    have l_321 : (0 : Int32).toInt = 0 := by decide
                    refine ok_call (s_d_token hF hA (by omega) (by omega)) ?_
                    rintro ⟨u_322, F_323, A_324, J_325⟩ ⟨hF_323, hA_324, F_323_o, A_324_o, u_322_p⟩
                    dsimp only at hF_323 hA_324 F_323_o A_324_o u_322_p ⊢
                    have u_322_p : (F_323 10).toInt = (F 10).toInt + 1 := u_322_p
                    have r_326 : 0 ≤ (F_323 18).toInt ∧ (F_323 18).toInt ≤ 1 := hF_323 18
                    have r_327 : 0 ≤ (F 18).toInt ∧ (F 18).toInt ≤ 1 := hF 18
                    have f_328 : (F_323 18).toInt = (F 18).toInt := congrArg Int32.toInt (F_323_o 18 (by decide))
                    refine ok_some ?_
                    have l_329 : (1 : Int32).toInt = 1 := by decide
                    refine ⟨hF_323, hA_324, (fun q hq => (F_323_o q hq)), (fun q hq => (A_324_o q hq)), ?_⟩
                    exact ⟨by omega, by omega⟩
                  · rw [i_nne] at c_320
                    unfold d_sign_95
                    have l_330 : (0 : Int32).toInt = 0 := by decide
                    refine ok_call (s_d_token hF hA (by omega) (by omega)) ?_
                    rintro ⟨u_331, F_332, A_333, J_334⟩ ⟨hF_332, hA_333, F_332_o, A_333_o, u_331_p⟩
                    dsimp only at hF_332 hA_333 F_332_o A_333_o u_331_p ⊢
                    have u_331_p : (F_332 10).toInt = (F 10).toInt + 1 := u_331_p
                    have r_335 : 0 ≤ (F_332 18).toInt ∧ (F_332 18).toInt ≤ 1 := hF_332 18
                    have r_336 : 0 ≤ (F 18).toInt ∧ (F 18).toInt ≤ 1 := hF 18
                    have f_337 : (F_332 18).toInt = (F 18).toInt := congrArg Int32.toInt (F_332_o 18 (by decide))
                    refine ok_some ?_
                    have l_338 : (1 : Int32).toInt = 1 := by decide
                    refine ⟨hF_332, hA_333, (fun q hq => (F_332_o q hq)), (fun q hq => (A_333_o q hq)), ?_⟩
                    exact ⟨by omega, by omega⟩
                · rw [i_nne] at c_318
                  unfold d_sign_85
                  have l_339 : (60 : Int32).toInt = 60 := by decide
                  refine ok_cond (fun c_340 => ?_) (fun c_340 => ?_)
                  · rw [i_ne] at c_340
                    unfold d_sign_95
                    have l_341 : (0 : Int32).toInt = 0 := by decide
                    refine ok_call (s_d_token hF hA (by omega) (by omega)) ?_
                    rintro ⟨u_342, F_343, A_344, J_345⟩ ⟨hF_343, hA_344, F_343_o, A_344_o, u_342_p⟩
                    dsimp only at hF_343 hA_344 F_343_o A_344_o u_342_p ⊢
                    have u_342_p : (F_343 10).toInt = (F 10).toInt + 1 := u_342_p
                    have r_346 : 0 ≤ (F_343 18).toInt ∧ (F_343 18).toInt ≤ 1 := hF_343 18
                    have r_347 : 0 ≤ (F 18).toInt ∧ (F 18).toInt ≤ 1 := hF 18
                    have f_348 : (F_343 18).toInt = (F 18).toInt := congrArg Int32.toInt (F_343_o 18 (by decide))
                    refine ok_some ?_
                    have l_349 : (1 : Int32).toInt = 1 := by decide
                    refine ⟨hF_343, hA_344, (fun q hq => (F_343_o q hq)), (fun q hq => (A_344_o q hq)), ?_⟩
                    exact ⟨by omega, by omega⟩
                  · rw [i_nne] at c_340
                    unfold d_sign_95
                    have l_350 : (0 : Int32).toInt = 0 := by decide
                    refine ok_call (s_d_token hF hA (by omega) (by omega)) ?_
                    rintro ⟨u_351, F_352, A_353, J_354⟩ ⟨hF_352, hA_353, F_352_o, A_353_o, u_351_p⟩
                    dsimp only at hF_352 hA_353 F_352_o A_353_o u_351_p ⊢
                    have u_351_p : (F_352 10).toInt = (F 10).toInt + 1 := u_351_p
                    have r_355 : 0 ≤ (F_352 18).toInt ∧ (F_352 18).toInt ≤ 1 := hF_352 18
                    have r_356 : 0 ≤ (F 18).toInt ∧ (F 18).toInt ≤ 1 := hF 18
                    have f_357 : (F_352 18).toInt = (F 18).toInt := congrArg Int32.toInt (F_352_o 18 (by decide))
                    refine ok_some ?_
                    have l_358 : (1 : Int32).toInt = 1 := by decide
                    refine ⟨hF_352, hA_353, (fun q hq => (F_352_o q hq)), (fun q hq => (A_353_o q hq)), ?_⟩
                    exact ⟨by omega, by omega⟩
        · rw [i_nne] at c_8
          unfold d_sign_43
          have l_359 : (43 : Int32).toInt = 43 := by decide
          refine ok_cond (fun c_360 => ?_) (fun c_360 => ?_)
          · rw [i_ne] at c_360
            unfold d_sign_55
            have l_361 : (45 : Int32).toInt = 45 := by decide
            refine ok_cond (fun c_362 => ?_) (fun c_362 => ?_)
            · rw [i_ne] at c_362
              unfold d_sign_65
              have l_363 : (42 : Int32).toInt = 42 := by decide
              refine ok_cond (fun c_364 => ?_) (fun c_364 => ?_)
              · rw [i_ne] at c_364
                unfold d_sign_75
                have l_365 : (47 : Int32).toInt = 47 := by decide
                refine ok_cond (fun c_366 => ?_) (fun c_366 => ?_)
                · rw [i_ne] at c_366
                  unfold d_sign_85
                  have l_367 : (60 : Int32).toInt = 60 := by decide
                  refine ok_cond (fun c_368 => ?_) (fun c_368 => ?_)
                  · rw [i_ne] at c_368
                    unfold d_sign_95
                    have l_369 : (0 : Int32).toInt = 0 := by decide
                    refine ok_call (s_d_token hF hA (by omega) (by omega)) ?_
                    rintro ⟨u_370, F_371, A_372, J_373⟩ ⟨hF_371, hA_372, F_371_o, A_372_o, u_370_p⟩
                    dsimp only at hF_371 hA_372 F_371_o A_372_o u_370_p ⊢
                    have u_370_p : (F_371 10).toInt = (F 10).toInt + 1 := u_370_p
                    have r_374 : 0 ≤ (F_371 18).toInt ∧ (F_371 18).toInt ≤ 1 := hF_371 18
                    have r_375 : 0 ≤ (F 18).toInt ∧ (F 18).toInt ≤ 1 := hF 18
                    have f_376 : (F_371 18).toInt = (F 18).toInt := congrArg Int32.toInt (F_371_o 18 (by decide))
                    refine ok_some ?_
                    have l_377 : (1 : Int32).toInt = 1 := by decide
                    refine ⟨hF_371, hA_372, (fun q hq => (F_371_o q hq)), (fun q hq => (A_372_o q hq)), ?_⟩
                    exact ⟨by omega, by omega⟩
                  · rw [i_nne] at c_368
                    unfold d_sign_95
                    have l_378 : (0 : Int32).toInt = 0 := by decide
                    refine ok_call (s_d_token hF hA (by omega) (by omega)) ?_
                    rintro ⟨u_379, F_380, A_381, J_382⟩ ⟨hF_380, hA_381, F_380_o, A_381_o, u_379_p⟩
                    dsimp only at hF_380 hA_381 F_380_o A_381_o u_379_p ⊢
                    have u_379_p : (F_380 10).toInt = (F 10).toInt + 1 := u_379_p
                    have r_383 : 0 ≤ (F_380 18).toInt ∧ (F_380 18).toInt ≤ 1 := hF_380 18
                    have r_384 : 0 ≤ (F 18).toInt ∧ (F 18).toInt ≤ 1 := hF 18
                    have f_385 : (F_380 18).toInt = (F 18).toInt := congrArg Int32.toInt (F_380_o 18 (by decide))
                    refine ok_some ?_
                    have l_386 : (1 : Int32).toInt = 1 := by decide
                    refine ⟨hF_380, hA_381, (fun q hq => (F_380_o q hq)), (fun q hq => (A_381_o q hq)), ?_⟩
                    exact ⟨by omega, by omega⟩
                · rw [i_nne] at c_366
                  unfold d_sign_85
                  have l_387 : (60 : Int32).toInt = 60 := by decide
                  refine ok_cond (fun c_388 => ?_) (fun c_388 => ?_)
                  · rw [i_ne] at c_388
                    unfold d_sign_95
                    have l_389 : (0 : Int32).toInt = 0 := by decide
                    refine ok_call (s_d_token hF hA (by omega) (by omega)) ?_
                    rintro ⟨u_390, F_391, A_392, J_393⟩ ⟨hF_391, hA_392, F_391_o, A_392_o, u_390_p⟩
                    dsimp only at hF_391 hA_392 F_391_o A_392_o u_390_p ⊢
                    have u_390_p : (F_391 10).toInt = (F 10).toInt + 1 := u_390_p
                    have r_394 : 0 ≤ (F_391 18).toInt ∧ (F_391 18).toInt ≤ 1 := hF_391 18
                    have r_395 : 0 ≤ (F 18).toInt ∧ (F 18).toInt ≤ 1 := hF 18
                    have f_396 : (F_391 18).toInt = (F 18).toInt := congrArg Int32.toInt (F_391_o 18 (by decide))
                    refine ok_some ?_
                    have l_397 : (1 : Int32).toInt = 1 := by decide
                    refine ⟨hF_391, hA_392, (fun q hq => (F_391_o q hq)), (fun q hq => (A_392_o q hq)), ?_⟩
                    exact ⟨by omega, by omega⟩
                  · rw [i_nne] at c_388
                    unfold d_sign_95
                    have l_398 : (0 : Int32).toInt = 0 := by decide
                    refine ok_call (s_d_token hF hA (by omega) (by omega)) ?_
                    rintro ⟨u_399, F_400, A_401, J_402⟩ ⟨hF_400, hA_401, F_400_o, A_401_o, u_399_p⟩
                    dsimp only at hF_400 hA_401 F_400_o A_401_o u_399_p ⊢
                    have u_399_p : (F_400 10).toInt = (F 10).toInt + 1 := u_399_p
                    have r_403 : 0 ≤ (F_400 18).toInt ∧ (F_400 18).toInt ≤ 1 := hF_400 18
                    have r_404 : 0 ≤ (F 18).toInt ∧ (F 18).toInt ≤ 1 := hF 18
                    have f_405 : (F_400 18).toInt = (F 18).toInt := congrArg Int32.toInt (F_400_o 18 (by decide))
                    refine ok_some ?_
                    have l_406 : (1 : Int32).toInt = 1 := by decide
                    refine ⟨hF_400, hA_401, (fun q hq => (F_400_o q hq)), (fun q hq => (A_401_o q hq)), ?_⟩
                    exact ⟨by omega, by omega⟩
              · rw [i_nne] at c_364
                unfold d_sign_75
                have l_407 : (47 : Int32).toInt = 47 := by decide
                refine ok_cond (fun c_408 => ?_) (fun c_408 => ?_)
                · rw [i_ne] at c_408
                  unfold d_sign_85
                  have l_409 : (60 : Int32).toInt = 60 := by decide
                  refine ok_cond (fun c_410 => ?_) (fun c_410 => ?_)
                  · rw [i_ne] at c_410
                    unfold d_sign_95
                    have l_411 : (0 : Int32).toInt = 0 := by decide
                    refine ok_call (s_d_token hF hA (by omega) (by omega)) ?_
                    rintro ⟨u_412, F_413, A_414, J_415⟩ ⟨hF_413, hA_414, F_413_o, A_414_o, u_412_p⟩
                    dsimp only at hF_413 hA_414 F_413_o A_414_o u_412_p ⊢
                    have u_412_p : (F_413 10).toInt = (F 10).toInt + 1 := u_412_p
                    have r_416 : 0 ≤ (F_413 18).toInt ∧ (F_413 18).toInt ≤ 1 := hF_413 18
                    have r_417 : 0 ≤ (F 18).toInt ∧ (F 18).toInt ≤ 1 := hF 18
                    have f_418 : (F_413 18).toInt = (F 18).toInt := congrArg Int32.toInt (F_413_o 18 (by decide))
                    refine ok_some ?_
                    have l_419 : (1 : Int32).toInt = 1 := by decide
                    refine ⟨hF_413, hA_414, (fun q hq => (F_413_o q hq)), (fun q hq => (A_414_o q hq)), ?_⟩
                    exact ⟨by omega, by omega⟩
                  · rw [i_nne] at c_410
                    unfold d_sign_95
                    have l_420 : (0 : Int32).toInt = 0 := by decide
                    refine ok_call (s_d_token hF hA (by omega) (by omega)) ?_
                    rintro ⟨u_421, F_422, A_423, J_424⟩ ⟨hF_422, hA_423, F_422_o, A_423_o, u_421_p⟩
                    dsimp only at hF_422 hA_423 F_422_o A_423_o u_421_p ⊢
                    have u_421_p : (F_422 10).toInt = (F 10).toInt + 1 := u_421_p
                    have r_425 : 0 ≤ (F_422 18).toInt ∧ (F_422 18).toInt ≤ 1 := hF_422 18
                    have r_426 : 0 ≤ (F 18).toInt ∧ (F 18).toInt ≤ 1 := hF 18
                    have f_427 : (F_422 18).toInt = (F 18).toInt := congrArg Int32.toInt (F_422_o 18 (by decide))
                    refine ok_some ?_
                    have l_428 : (1 : Int32).toInt = 1 := by decide
                    refine ⟨hF_422, hA_423, (fun q hq => (F_422_o q hq)), (fun q hq => (A_423_o q hq)), ?_⟩
                    exact ⟨by omega, by omega⟩
                · rw [i_nne] at c_408
                  unfold d_sign_85
                  have l_429 : (60 : Int32).toInt = 60 := by decide
                  refine ok_cond (fun c_430 => ?_) (fun c_430 => ?_)
                  · rw [i_ne] at c_430
                    unfold d_sign_95
                    have l_431 : (0 : Int32).toInt = 0 := by decide
                    refine ok_call (s_d_token hF hA (by omega) (by omega)) ?_
                    rintro ⟨u_432, F_433, A_434, J_435⟩ ⟨hF_433, hA_434, F_433_o, A_434_o, u_432_p⟩
                    dsimp only at hF_433 hA_434 F_433_o A_434_o u_432_p ⊢
                    have u_432_p : (F_433 10).toInt = (F 10).toInt + 1 := u_432_p
                    have r_436 : 0 ≤ (F_433 18).toInt ∧ (F_433 18).toInt ≤ 1 := hF_433 18
                    have r_437 : 0 ≤ (F 18).toInt ∧ (F 18).toInt ≤ 1 := hF 18
                    have f_438 : (F_433 18).toInt = (F 18).toInt := congrArg Int32.toInt (F_433_o 18 (by decide))
                    refine ok_some ?_
                    have l_439 : (1 : Int32).toInt = 1 := by decide
                    refine ⟨hF_433, hA_434, (fun q hq => (F_433_o q hq)), (fun q hq => (A_434_o q hq)), ?_⟩
                    exact ⟨by omega, by omega⟩
                  · rw [i_nne] at c_430
                    unfold d_sign_95
                    have l_440 : (0 : Int32).toInt = 0 := by decide
                    refine ok_call (s_d_token hF hA (by omega) (by omega)) ?_
                    rintro ⟨u_441, F_442, A_443, J_444⟩ ⟨hF_442, hA_443, F_442_o, A_443_o, u_441_p⟩
                    dsimp only at hF_442 hA_443 F_442_o A_443_o u_441_p ⊢
                    have u_441_p : (F_442 10).toInt = (F 10).toInt + 1 := u_441_p
                    have r_445 : 0 ≤ (F_442 18).toInt ∧ (F_442 18).toInt ≤ 1 := hF_442 18
                    have r_446 : 0 ≤ (F 18).toInt ∧ (F 18).toInt ≤ 1 := hF 18
                    have f_447 : (F_442 18).toInt = (F 18).toInt := congrArg Int32.toInt (F_442_o 18 (by decide))
                    refine ok_some ?_
                    have l_448 : (1 : Int32).toInt = 1 := by decide
                    refine ⟨hF_442, hA_443, (fun q hq => (F_442_o q hq)), (fun q hq => (A_443_o q hq)), ?_⟩
                    exact ⟨by omega, by omega⟩
            · rw [i_nne] at c_362
              unfold d_sign_65
              have l_449 : (42 : Int32).toInt = 42 := by decide
              refine ok_cond (fun c_450 => ?_) (fun c_450 => ?_)
              · rw [i_ne] at c_450
                unfold d_sign_75
                have l_451 : (47 : Int32).toInt = 47 := by decide
                refine ok_cond (fun c_452 => ?_) (fun c_452 => ?_)
                · rw [i_ne] at c_452
                  unfold d_sign_85
                  have l_453 : (60 : Int32).toInt = 60 := by decide
                  refine ok_cond (fun c_454 => ?_) (fun c_454 => ?_)
                  · rw [i_ne] at c_454
                    unfold d_sign_95
                    have l_455 : (0 : Int32).toInt = 0 := by decide
                    refine ok_call (s_d_token hF hA (by omega) (by omega)) ?_
                    rintro ⟨u_456, F_457, A_458, J_459⟩ ⟨hF_457, hA_458, F_457_o, A_458_o, u_456_p⟩
                    dsimp only at hF_457 hA_458 F_457_o A_458_o u_456_p ⊢
                    have u_456_p : (F_457 10).toInt = (F 10).toInt + 1 := u_456_p
                    have r_460 : 0 ≤ (F_457 18).toInt ∧ (F_457 18).toInt ≤ 1 := hF_457 18
                    have r_461 : 0 ≤ (F 18).toInt ∧ (F 18).toInt ≤ 1 := hF 18
                    have f_462 : (F_457 18).toInt = (F 18).toInt := congrArg Int32.toInt (F_457_o 18 (by decide))
                    refine ok_some ?_
                    have l_463 : (1 : Int32).toInt = 1 := by decide
                    refine ⟨hF_457, hA_458, (fun q hq => (F_457_o q hq)), (fun q hq => (A_458_o q hq)), ?_⟩
                    exact ⟨by omega, by omega⟩
                  · rw [i_nne] at c_454
                    unfold d_sign_95
                    have l_464 : (0 : Int32).toInt = 0 := by decide
                    refine ok_call (s_d_token hF hA (by omega) (by omega)) ?_
                    rintro ⟨u_465, F_466, A_467, J_468⟩ ⟨hF_466, hA_467, F_466_o, A_467_o, u_465_p⟩
                    dsimp only at hF_466 hA_467 F_466_o A_467_o u_465_p ⊢
                    have u_465_p : (F_466 10).toInt = (F 10).toInt + 1 := u_465_p
                    have r_469 : 0 ≤ (F_466 18).toInt ∧ (F_466 18).toInt ≤ 1 := hF_466 18
                    have r_470 : 0 ≤ (F 18).toInt ∧ (F 18).toInt ≤ 1 := hF 18
                    have f_471 : (F_466 18).toInt = (F 18).toInt := congrArg Int32.toInt (F_466_o 18 (by decide))
                    refine ok_some ?_
                    have l_472 : (1 : Int32).toInt = 1 := by decide
                    refine ⟨hF_466, hA_467, (fun q hq => (F_466_o q hq)), (fun q hq => (A_467_o q hq)), ?_⟩
                    exact ⟨by omega, by omega⟩
                · rw [i_nne] at c_452
                  unfold d_sign_85
                  have l_473 : (60 : Int32).toInt = 60 := by decide
                  refine ok_cond (fun c_474 => ?_) (fun c_474 => ?_)
                  · rw [i_ne] at c_474
                    unfold d_sign_95
                    have l_475 : (0 : Int32).toInt = 0 := by decide
                    refine ok_call (s_d_token hF hA (by omega) (by omega)) ?_
                    rintro ⟨u_476, F_477, A_478, J_479⟩ ⟨hF_477, hA_478, F_477_o, A_478_o, u_476_p⟩
                    dsimp only at hF_477 hA_478 F_477_o A_478_o u_476_p ⊢
                    have u_476_p : (F_477 10).toInt = (F 10).toInt + 1 := u_476_p
                    have r_480 : 0 ≤ (F_477 18).toInt ∧ (F_477 18).toInt ≤ 1 := hF_477 18
                    have r_481 : 0 ≤ (F 18).toInt ∧ (F 18).toInt ≤ 1 := hF 18
                    have f_482 : (F_477 18).toInt = (F 18).toInt := congrArg Int32.toInt (F_477_o 18 (by decide))
                    refine ok_some ?_
                    have l_483 : (1 : Int32).toInt = 1 := by decide
                    refine ⟨hF_477, hA_478, (fun q hq => (F_477_o q hq)), (fun q hq => (A_478_o q hq)), ?_⟩
                    exact ⟨by omega, by omega⟩
                  · rw [i_nne] at c_474
                    unfold d_sign_95
                    have l_484 : (0 : Int32).toInt = 0 := by decide
                    refine ok_call (s_d_token hF hA (by omega) (by omega)) ?_
                    rintro ⟨u_485, F_486, A_487, J_488⟩ ⟨hF_486, hA_487, F_486_o, A_487_o, u_485_p⟩
                    dsimp only at hF_486 hA_487 F_486_o A_487_o u_485_p ⊢
                    have u_485_p : (F_486 10).toInt = (F 10).toInt + 1 := u_485_p
                    have r_489 : 0 ≤ (F_486 18).toInt ∧ (F_486 18).toInt ≤ 1 := hF_486 18
                    have r_490 : 0 ≤ (F 18).toInt ∧ (F 18).toInt ≤ 1 := hF 18
                    have f_491 : (F_486 18).toInt = (F 18).toInt := congrArg Int32.toInt (F_486_o 18 (by decide))
                    refine ok_some ?_
                    have l_492 : (1 : Int32).toInt = 1 := by decide
                    refine ⟨hF_486, hA_487, (fun q hq => (F_486_o q hq)), (fun q hq => (A_487_o q hq)), ?_⟩
                    exact ⟨by omega, by omega⟩
              · rw [i_nne] at c_450
                unfold d_sign_75
                have l_493 : (47 : Int32).toInt = 47 := by decide
                refine ok_cond (fun c_494 => ?_) (fun c_494 => ?_)
                · rw [i_ne] at c_494
                  unfold d_sign_85
                  have l_495 : (60 : Int32).toInt = 60 := by decide
                  refine ok_cond (fun c_496 => ?_) (fun c_496 => ?_)
                  · rw [i_ne] at c_496
                    unfold d_sign_95
                    have l_497 : (0 : Int32).toInt = 0 := by decide
                    refine ok_call (s_d_token hF hA (by omega) (by omega)) ?_
                    rintro ⟨u_498, F_499, A_500, J_501⟩ ⟨hF_499, hA_500, F_499_o, A_500_o, u_498_p⟩
                    dsimp only at hF_499 hA_500 F_499_o A_500_o u_498_p ⊢
                    have u_498_p : (F_499 10).toInt = (F 10).toInt + 1 := u_498_p
                    have r_502 : 0 ≤ (F_499 18).toInt ∧ (F_499 18).toInt ≤ 1 := hF_499 18
                    have r_503 : 0 ≤ (F 18).toInt ∧ (F 18).toInt ≤ 1 := hF 18
                    have f_504 : (F_499 18).toInt = (F 18).toInt := congrArg Int32.toInt (F_499_o 18 (by decide))
                    refine ok_some ?_
                    have l_505 : (1 : Int32).toInt = 1 := by decide
                    refine ⟨hF_499, hA_500, (fun q hq => (F_499_o q hq)), (fun q hq => (A_500_o q hq)), ?_⟩
                    exact ⟨by omega, by omega⟩
                  · rw [i_nne] at c_496
                    unfold d_sign_95
                    have l_506 : (0 : Int32).toInt = 0 := by decide
                    refine ok_call (s_d_token hF hA (by omega) (by omega)) ?_
                    rintro ⟨u_507, F_508, A_509, J_510⟩ ⟨hF_508, hA_509, F_508_o, A_509_o, u_507_p⟩
                    dsimp only at hF_508 hA_509 F_508_o A_509_o u_507_p ⊢
                    have u_507_p : (F_508 10).toInt = (F 10).toInt + 1 := u_507_p
                    have r_511 : 0 ≤ (F_508 18).toInt ∧ (F_508 18).toInt ≤ 1 := hF_508 18
                    have r_512 : 0 ≤ (F 18).toInt ∧ (F 18).toInt ≤ 1 := hF 18
                    have f_513 : (F_508 18).toInt = (F 18).toInt := congrArg Int32.toInt (F_508_o 18 (by decide))
                    refine ok_some ?_
                    have l_514 : (1 : Int32).toInt = 1 := by decide
                    refine ⟨hF_508, hA_509, (fun q hq => (F_508_o q hq)), (fun q hq => (A_509_o q hq)), ?_⟩
                    exact ⟨by omega, by omega⟩
                · rw [i_nne] at c_494
                  unfold d_sign_85
                  have l_515 : (60 : Int32).toInt = 60 := by decide
                  refine ok_cond (fun c_516 => ?_) (fun c_516 => ?_)
                  · rw [i_ne] at c_516
                    unfold d_sign_95
                    have l_517 : (0 : Int32).toInt = 0 := by decide
                    refine ok_call (s_d_token hF hA (by omega) (by omega)) ?_
                    rintro ⟨u_518, F_519, A_520, J_521⟩ ⟨hF_519, hA_520, F_519_o, A_520_o, u_518_p⟩
                    dsimp only at hF_519 hA_520 F_519_o A_520_o u_518_p ⊢
                    have u_518_p : (F_519 10).toInt = (F 10).toInt + 1 := u_518_p
                    have r_522 : 0 ≤ (F_519 18).toInt ∧ (F_519 18).toInt ≤ 1 := hF_519 18
                    have r_523 : 0 ≤ (F 18).toInt ∧ (F 18).toInt ≤ 1 := hF 18
                    have f_524 : (F_519 18).toInt = (F 18).toInt := congrArg Int32.toInt (F_519_o 18 (by decide))
                    refine ok_some ?_
                    have l_525 : (1 : Int32).toInt = 1 := by decide
                    refine ⟨hF_519, hA_520, (fun q hq => (F_519_o q hq)), (fun q hq => (A_520_o q hq)), ?_⟩
                    exact ⟨by omega, by omega⟩
                  · rw [i_nne] at c_516
                    unfold d_sign_95
                    have l_526 : (0 : Int32).toInt = 0 := by decide
                    refine ok_call (s_d_token hF hA (by omega) (by omega)) ?_
                    rintro ⟨u_527, F_528, A_529, J_530⟩ ⟨hF_528, hA_529, F_528_o, A_529_o, u_527_p⟩
                    dsimp only at hF_528 hA_529 F_528_o A_529_o u_527_p ⊢
                    have u_527_p : (F_528 10).toInt = (F 10).toInt + 1 := u_527_p
                    have r_531 : 0 ≤ (F_528 18).toInt ∧ (F_528 18).toInt ≤ 1 := hF_528 18
                    have r_532 : 0 ≤ (F 18).toInt ∧ (F 18).toInt ≤ 1 := hF 18
                    have f_533 : (F_528 18).toInt = (F 18).toInt := congrArg Int32.toInt (F_528_o 18 (by decide))
                    refine ok_some ?_
                    have l_534 : (1 : Int32).toInt = 1 := by decide
                    refine ⟨hF_528, hA_529, (fun q hq => (F_528_o q hq)), (fun q hq => (A_529_o q hq)), ?_⟩
                    exact ⟨by omega, by omega⟩
          · rw [i_nne] at c_360
            unfold d_sign_55
            have l_535 : (45 : Int32).toInt = 45 := by decide
            refine ok_cond (fun c_536 => ?_) (fun c_536 => ?_)
            · rw [i_ne] at c_536
              unfold d_sign_65
              have l_537 : (42 : Int32).toInt = 42 := by decide
              refine ok_cond (fun c_538 => ?_) (fun c_538 => ?_)
              · rw [i_ne] at c_538
                unfold d_sign_75
                have l_539 : (47 : Int32).toInt = 47 := by decide
                refine ok_cond (fun c_540 => ?_) (fun c_540 => ?_)
                · rw [i_ne] at c_540
                  unfold d_sign_85
                  have l_541 : (60 : Int32).toInt = 60 := by decide
                  refine ok_cond (fun c_542 => ?_) (fun c_542 => ?_)
                  · rw [i_ne] at c_542
                    unfold d_sign_95
                    have l_543 : (0 : Int32).toInt = 0 := by decide
                    refine ok_call (s_d_token hF hA (by omega) (by omega)) ?_
                    rintro ⟨u_544, F_545, A_546, J_547⟩ ⟨hF_545, hA_546, F_545_o, A_546_o, u_544_p⟩
                    dsimp only at hF_545 hA_546 F_545_o A_546_o u_544_p ⊢
                    have u_544_p : (F_545 10).toInt = (F 10).toInt + 1 := u_544_p
                    have r_548 : 0 ≤ (F_545 18).toInt ∧ (F_545 18).toInt ≤ 1 := hF_545 18
                    have r_549 : 0 ≤ (F 18).toInt ∧ (F 18).toInt ≤ 1 := hF 18
                    have f_550 : (F_545 18).toInt = (F 18).toInt := congrArg Int32.toInt (F_545_o 18 (by decide))
                    refine ok_some ?_
                    have l_551 : (1 : Int32).toInt = 1 := by decide
                    refine ⟨hF_545, hA_546, (fun q hq => (F_545_o q hq)), (fun q hq => (A_546_o q hq)), ?_⟩
                    exact ⟨by omega, by omega⟩
                  · rw [i_nne] at c_542
                    unfold d_sign_95
                    have l_552 : (0 : Int32).toInt = 0 := by decide
                    refine ok_call (s_d_token hF hA (by omega) (by omega)) ?_
                    rintro ⟨u_553, F_554, A_555, J_556⟩ ⟨hF_554, hA_555, F_554_o, A_555_o, u_553_p⟩
                    dsimp only at hF_554 hA_555 F_554_o A_555_o u_553_p ⊢
                    have u_553_p : (F_554 10).toInt = (F 10).toInt + 1 := u_553_p
                    have r_557 : 0 ≤ (F_554 18).toInt ∧ (F_554 18).toInt ≤ 1 := hF_554 18
                    have r_558 : 0 ≤ (F 18).toInt ∧ (F 18).toInt ≤ 1 := hF 18
                    have f_559 : (F_554 18).toInt = (F 18).toInt := congrArg Int32.toInt (F_554_o 18 (by decide))
                    refine ok_some ?_
                    have l_560 : (1 : Int32).toInt = 1 := by decide
                    refine ⟨hF_554, hA_555, (fun q hq => (F_554_o q hq)), (fun q hq => (A_555_o q hq)), ?_⟩
                    exact ⟨by omega, by omega⟩
                · rw [i_nne] at c_540
                  unfold d_sign_85
                  have l_561 : (60 : Int32).toInt = 60 := by decide
                  refine ok_cond (fun c_562 => ?_) (fun c_562 => ?_)
                  · rw [i_ne] at c_562
                    unfold d_sign_95
                    have l_563 : (0 : Int32).toInt = 0 := by decide
                    refine ok_call (s_d_token hF hA (by omega) (by omega)) ?_
                    rintro ⟨u_564, F_565, A_566, J_567⟩ ⟨hF_565, hA_566, F_565_o, A_566_o, u_564_p⟩
                    dsimp only at hF_565 hA_566 F_565_o A_566_o u_564_p ⊢
                    have u_564_p : (F_565 10).toInt = (F 10).toInt + 1 := u_564_p
                    have r_568 : 0 ≤ (F_565 18).toInt ∧ (F_565 18).toInt ≤ 1 := hF_565 18
                    have r_569 : 0 ≤ (F 18).toInt ∧ (F 18).toInt ≤ 1 := hF 18
                    have f_570 : (F_565 18).toInt = (F 18).toInt := congrArg Int32.toInt (F_565_o 18 (by decide))
                    refine ok_some ?_
                    have l_571 : (1 : Int32).toInt = 1 := by decide
                    refine ⟨hF_565, hA_566, (fun q hq => (F_565_o q hq)), (fun q hq => (A_566_o q hq)), ?_⟩
                    exact ⟨by omega, by omega⟩
                  · rw [i_nne] at c_562
                    unfold d_sign_95
                    have l_572 : (0 : Int32).toInt = 0 := by decide
                    refine ok_call (s_d_token hF hA (by omega) (by omega)) ?_
                    rintro ⟨u_573, F_574, A_575, J_576⟩ ⟨hF_574, hA_575, F_574_o, A_575_o, u_573_p⟩
                    dsimp only at hF_574 hA_575 F_574_o A_575_o u_573_p ⊢
                    have u_573_p : (F_574 10).toInt = (F 10).toInt + 1 := u_573_p
                    have r_577 : 0 ≤ (F_574 18).toInt ∧ (F_574 18).toInt ≤ 1 := hF_574 18
                    have r_578 : 0 ≤ (F 18).toInt ∧ (F 18).toInt ≤ 1 := hF 18
                    have f_579 : (F_574 18).toInt = (F 18).toInt := congrArg Int32.toInt (F_574_o 18 (by decide))
                    refine ok_some ?_
                    have l_580 : (1 : Int32).toInt = 1 := by decide
                    refine ⟨hF_574, hA_575, (fun q hq => (F_574_o q hq)), (fun q hq => (A_575_o q hq)), ?_⟩
                    exact ⟨by omega, by omega⟩
              · rw [i_nne] at c_538
                unfold d_sign_75
                have l_581 : (47 : Int32).toInt = 47 := by decide
                refine ok_cond (fun c_582 => ?_) (fun c_582 => ?_)
                · rw [i_ne] at c_582
                  unfold d_sign_85
                  have l_583 : (60 : Int32).toInt = 60 := by decide
                  refine ok_cond (fun c_584 => ?_) (fun c_584 => ?_)
                  · rw [i_ne] at c_584
                    unfold d_sign_95
                    have l_585 : (0 : Int32).toInt = 0 := by decide
                    refine ok_call (s_d_token hF hA (by omega) (by omega)) ?_
                    rintro ⟨u_586, F_587, A_588, J_589⟩ ⟨hF_587, hA_588, F_587_o, A_588_o, u_586_p⟩
                    dsimp only at hF_587 hA_588 F_587_o A_588_o u_586_p ⊢
                    have u_586_p : (F_587 10).toInt = (F 10).toInt + 1 := u_586_p
                    have r_590 : 0 ≤ (F_587 18).toInt ∧ (F_587 18).toInt ≤ 1 := hF_587 18
                    have r_591 : 0 ≤ (F 18).toInt ∧ (F 18).toInt ≤ 1 := hF 18
                    have f_592 : (F_587 18).toInt = (F 18).toInt := congrArg Int32.toInt (F_587_o 18 (by decide))
                    refine ok_some ?_
                    have l_593 : (1 : Int32).toInt = 1 := by decide
                    refine ⟨hF_587, hA_588, (fun q hq => (F_587_o q hq)), (fun q hq => (A_588_o q hq)), ?_⟩
                    exact ⟨by omega, by omega⟩
                  · rw [i_nne] at c_584
                    unfold d_sign_95
                    have l_594 : (0 : Int32).toInt = 0 := by decide
                    refine ok_call (s_d_token hF hA (by omega) (by omega)) ?_
                    rintro ⟨u_595, F_596, A_597, J_598⟩ ⟨hF_596, hA_597, F_596_o, A_597_o, u_595_p⟩
                    dsimp only at hF_596 hA_597 F_596_o A_597_o u_595_p ⊢
                    have u_595_p : (F_596 10).toInt = (F 10).toInt + 1 := u_595_p
                    have r_599 : 0 ≤ (F_596 18).toInt ∧ (F_596 18).toInt ≤ 1 := hF_596 18
                    have r_600 : 0 ≤ (F 18).toInt ∧ (F 18).toInt ≤ 1 := hF 18
                    have f_601 : (F_596 18).toInt = (F 18).toInt := congrArg Int32.toInt (F_596_o 18 (by decide))
                    refine ok_some ?_
                    have l_602 : (1 : Int32).toInt = 1 := by decide
                    refine ⟨hF_596, hA_597, (fun q hq => (F_596_o q hq)), (fun q hq => (A_597_o q hq)), ?_⟩
                    exact ⟨by omega, by omega⟩
                · rw [i_nne] at c_582
                  unfold d_sign_85
                  have l_603 : (60 : Int32).toInt = 60 := by decide
                  refine ok_cond (fun c_604 => ?_) (fun c_604 => ?_)
                  · rw [i_ne] at c_604
                    unfold d_sign_95
                    have l_605 : (0 : Int32).toInt = 0 := by decide
                    refine ok_call (s_d_token hF hA (by omega) (by omega)) ?_
                    rintro ⟨u_606, F_607, A_608, J_609⟩ ⟨hF_607, hA_608, F_607_o, A_608_o, u_606_p⟩
                    dsimp only at hF_607 hA_608 F_607_o A_608_o u_606_p ⊢
                    have u_606_p : (F_607 10).toInt = (F 10).toInt + 1 := u_606_p
                    have r_610 : 0 ≤ (F_607 18).toInt ∧ (F_607 18).toInt ≤ 1 := hF_607 18
                    have r_611 : 0 ≤ (F 18).toInt ∧ (F 18).toInt ≤ 1 := hF 18
                    have f_612 : (F_607 18).toInt = (F 18).toInt := congrArg Int32.toInt (F_607_o 18 (by decide))
                    refine ok_some ?_
                    have l_613 : (1 : Int32).toInt = 1 := by decide
                    refine ⟨hF_607, hA_608, (fun q hq => (F_607_o q hq)), (fun q hq => (A_608_o q hq)), ?_⟩
                    exact ⟨by omega, by omega⟩
                  · rw [i_nne] at c_604
                    unfold d_sign_95
                    have l_614 : (0 : Int32).toInt = 0 := by decide
                    refine ok_call (s_d_token hF hA (by omega) (by omega)) ?_
                    rintro ⟨u_615, F_616, A_617, J_618⟩ ⟨hF_616, hA_617, F_616_o, A_617_o, u_615_p⟩
                    dsimp only at hF_616 hA_617 F_616_o A_617_o u_615_p ⊢
                    have u_615_p : (F_616 10).toInt = (F 10).toInt + 1 := u_615_p
                    have r_619 : 0 ≤ (F_616 18).toInt ∧ (F_616 18).toInt ≤ 1 := hF_616 18
                    have r_620 : 0 ≤ (F 18).toInt ∧ (F 18).toInt ≤ 1 := hF 18
                    have f_621 : (F_616 18).toInt = (F 18).toInt := congrArg Int32.toInt (F_616_o 18 (by decide))
                    refine ok_some ?_
                    have l_622 : (1 : Int32).toInt = 1 := by decide
                    refine ⟨hF_616, hA_617, (fun q hq => (F_616_o q hq)), (fun q hq => (A_617_o q hq)), ?_⟩
                    exact ⟨by omega, by omega⟩
            · rw [i_nne] at c_536
              unfold d_sign_65
              have l_623 : (42 : Int32).toInt = 42 := by decide
              refine ok_cond (fun c_624 => ?_) (fun c_624 => ?_)
              · rw [i_ne] at c_624
                unfold d_sign_75
                have l_625 : (47 : Int32).toInt = 47 := by decide
                refine ok_cond (fun c_626 => ?_) (fun c_626 => ?_)
                · rw [i_ne] at c_626
                  unfold d_sign_85
                  have l_627 : (60 : Int32).toInt = 60 := by decide
                  refine ok_cond (fun c_628 => ?_) (fun c_628 => ?_)
                  · rw [i_ne] at c_628
                    unfold d_sign_95
                    have l_629 : (0 : Int32).toInt = 0 := by decide
                    refine ok_call (s_d_token hF hA (by omega) (by omega)) ?_
                    rintro ⟨u_630, F_631, A_632, J_633⟩ ⟨hF_631, hA_632, F_631_o, A_632_o, u_630_p⟩
                    dsimp only at hF_631 hA_632 F_631_o A_632_o u_630_p ⊢
                    have u_630_p : (F_631 10).toInt = (F 10).toInt + 1 := u_630_p
                    have r_634 : 0 ≤ (F_631 18).toInt ∧ (F_631 18).toInt ≤ 1 := hF_631 18
                    have r_635 : 0 ≤ (F 18).toInt ∧ (F 18).toInt ≤ 1 := hF 18
                    have f_636 : (F_631 18).toInt = (F 18).toInt := congrArg Int32.toInt (F_631_o 18 (by decide))
                    refine ok_some ?_
                    have l_637 : (1 : Int32).toInt = 1 := by decide
                    refine ⟨hF_631, hA_632, (fun q hq => (F_631_o q hq)), (fun q hq => (A_632_o q hq)), ?_⟩
                    exact ⟨by omega, by omega⟩
                  · rw [i_nne] at c_628
                    unfold d_sign_95
                    have l_638 : (0 : Int32).toInt = 0 := by decide
                    refine ok_call (s_d_token hF hA (by omega) (by omega)) ?_
                    rintro ⟨u_639, F_640, A_641, J_642⟩ ⟨hF_640, hA_641, F_640_o, A_641_o, u_639_p⟩
                    dsimp only at hF_640 hA_641 F_640_o A_641_o u_639_p ⊢
                    have u_639_p : (F_640 10).toInt = (F 10).toInt + 1 := u_639_p
                    have r_643 : 0 ≤ (F_640 18).toInt ∧ (F_640 18).toInt ≤ 1 := hF_640 18
                    have r_644 : 0 ≤ (F 18).toInt ∧ (F 18).toInt ≤ 1 := hF 18
                    have f_645 : (F_640 18).toInt = (F 18).toInt := congrArg Int32.toInt (F_640_o 18 (by decide))
                    refine ok_some ?_
                    have l_646 : (1 : Int32).toInt = 1 := by decide
                    refine ⟨hF_640, hA_641, (fun q hq => (F_640_o q hq)), (fun q hq => (A_641_o q hq)), ?_⟩
                    exact ⟨by omega, by omega⟩
                · rw [i_nne] at c_626
                  unfold d_sign_85
                  have l_647 : (60 : Int32).toInt = 60 := by decide
                  refine ok_cond (fun c_648 => ?_) (fun c_648 => ?_)
                  · rw [i_ne] at c_648
                    unfold d_sign_95
                    have l_649 : (0 : Int32).toInt = 0 := by decide
                    refine ok_call (s_d_token hF hA (by omega) (by omega)) ?_
                    rintro ⟨u_650, F_651, A_652, J_653⟩ ⟨hF_651, hA_652, F_651_o, A_652_o, u_650_p⟩
                    dsimp only at hF_651 hA_652 F_651_o A_652_o u_650_p ⊢
                    have u_650_p : (F_651 10).toInt = (F 10).toInt + 1 := u_650_p
                    have r_654 : 0 ≤ (F_651 18).toInt ∧ (F_651 18).toInt ≤ 1 := hF_651 18
                    have r_655 : 0 ≤ (F 18).toInt ∧ (F 18).toInt ≤ 1 := hF 18
                    have f_656 : (F_651 18).toInt = (F 18).toInt := congrArg Int32.toInt (F_651_o 18 (by decide))
                    refine ok_some ?_
                    have l_657 : (1 : Int32).toInt = 1 := by decide
                    refine ⟨hF_651, hA_652, (fun q hq => (F_651_o q hq)), (fun q hq => (A_652_o q hq)), ?_⟩
                    exact ⟨by omega, by omega⟩
                  · rw [i_nne] at c_648
                    unfold d_sign_95
                    have l_658 : (0 : Int32).toInt = 0 := by decide
                    refine ok_call (s_d_token hF hA (by omega) (by omega)) ?_
                    rintro ⟨u_659, F_660, A_661, J_662⟩ ⟨hF_660, hA_661, F_660_o, A_661_o, u_659_p⟩
                    dsimp only at hF_660 hA_661 F_660_o A_661_o u_659_p ⊢
                    have u_659_p : (F_660 10).toInt = (F 10).toInt + 1 := u_659_p
                    have r_663 : 0 ≤ (F_660 18).toInt ∧ (F_660 18).toInt ≤ 1 := hF_660 18
                    have r_664 : 0 ≤ (F 18).toInt ∧ (F 18).toInt ≤ 1 := hF 18
                    have f_665 : (F_660 18).toInt = (F 18).toInt := congrArg Int32.toInt (F_660_o 18 (by decide))
                    refine ok_some ?_
                    have l_666 : (1 : Int32).toInt = 1 := by decide
                    refine ⟨hF_660, hA_661, (fun q hq => (F_660_o q hq)), (fun q hq => (A_661_o q hq)), ?_⟩
                    exact ⟨by omega, by omega⟩
              · rw [i_nne] at c_624
                unfold d_sign_75
                have l_667 : (47 : Int32).toInt = 47 := by decide
                refine ok_cond (fun c_668 => ?_) (fun c_668 => ?_)
                · rw [i_ne] at c_668
                  unfold d_sign_85
                  have l_669 : (60 : Int32).toInt = 60 := by decide
                  refine ok_cond (fun c_670 => ?_) (fun c_670 => ?_)
                  · rw [i_ne] at c_670
                    unfold d_sign_95
                    have l_671 : (0 : Int32).toInt = 0 := by decide
                    refine ok_call (s_d_token hF hA (by omega) (by omega)) ?_
                    rintro ⟨u_672, F_673, A_674, J_675⟩ ⟨hF_673, hA_674, F_673_o, A_674_o, u_672_p⟩
                    dsimp only at hF_673 hA_674 F_673_o A_674_o u_672_p ⊢
                    have u_672_p : (F_673 10).toInt = (F 10).toInt + 1 := u_672_p
                    have r_676 : 0 ≤ (F_673 18).toInt ∧ (F_673 18).toInt ≤ 1 := hF_673 18
                    have r_677 : 0 ≤ (F 18).toInt ∧ (F 18).toInt ≤ 1 := hF 18
                    have f_678 : (F_673 18).toInt = (F 18).toInt := congrArg Int32.toInt (F_673_o 18 (by decide))
                    refine ok_some ?_
                    have l_679 : (1 : Int32).toInt = 1 := by decide
                    refine ⟨hF_673, hA_674, (fun q hq => (F_673_o q hq)), (fun q hq => (A_674_o q hq)), ?_⟩
                    exact ⟨by omega, by omega⟩
                  · rw [i_nne] at c_670
                    unfold d_sign_95
                    have l_680 : (0 : Int32).toInt = 0 := by decide
                    refine ok_call (s_d_token hF hA (by omega) (by omega)) ?_
                    rintro ⟨u_681, F_682, A_683, J_684⟩ ⟨hF_682, hA_683, F_682_o, A_683_o, u_681_p⟩
                    dsimp only at hF_682 hA_683 F_682_o A_683_o u_681_p ⊢
                    have u_681_p : (F_682 10).toInt = (F 10).toInt + 1 := u_681_p
                    have r_685 : 0 ≤ (F_682 18).toInt ∧ (F_682 18).toInt ≤ 1 := hF_682 18
                    have r_686 : 0 ≤ (F 18).toInt ∧ (F 18).toInt ≤ 1 := hF 18
                    have f_687 : (F_682 18).toInt = (F 18).toInt := congrArg Int32.toInt (F_682_o 18 (by decide))
                    refine ok_some ?_
                    have l_688 : (1 : Int32).toInt = 1 := by decide
                    refine ⟨hF_682, hA_683, (fun q hq => (F_682_o q hq)), (fun q hq => (A_683_o q hq)), ?_⟩
                    exact ⟨by omega, by omega⟩
                · rw [i_nne] at c_668
                  unfold d_sign_85
                  have l_689 : (60 : Int32).toInt = 60 := by decide
                  refine ok_cond (fun c_690 => ?_) (fun c_690 => ?_)
                  · rw [i_ne] at c_690
                    unfold d_sign_95
                    have l_691 : (0 : Int32).toInt = 0 := by decide
                    refine ok_call (s_d_token hF hA (by omega) (by omega)) ?_
                    rintro ⟨u_692, F_693, A_694, J_695⟩ ⟨hF_693, hA_694, F_693_o, A_694_o, u_692_p⟩
                    dsimp only at hF_693 hA_694 F_693_o A_694_o u_692_p ⊢
                    have u_692_p : (F_693 10).toInt = (F 10).toInt + 1 := u_692_p
                    have r_696 : 0 ≤ (F_693 18).toInt ∧ (F_693 18).toInt ≤ 1 := hF_693 18
                    have r_697 : 0 ≤ (F 18).toInt ∧ (F 18).toInt ≤ 1 := hF 18
                    have f_698 : (F_693 18).toInt = (F 18).toInt := congrArg Int32.toInt (F_693_o 18 (by decide))
                    refine ok_some ?_
                    have l_699 : (1 : Int32).toInt = 1 := by decide
                    refine ⟨hF_693, hA_694, (fun q hq => (F_693_o q hq)), (fun q hq => (A_694_o q hq)), ?_⟩
                    exact ⟨by omega, by omega⟩
                  · rw [i_nne] at c_690
                    unfold d_sign_95
                    have l_700 : (0 : Int32).toInt = 0 := by decide
                    refine ok_call (s_d_token hF hA (by omega) (by omega)) ?_
                    rintro ⟨u_701, F_702, A_703, J_704⟩ ⟨hF_702, hA_703, F_702_o, A_703_o, u_701_p⟩
                    dsimp only at hF_702 hA_703 F_702_o A_703_o u_701_p ⊢
                    have u_701_p : (F_702 10).toInt = (F 10).toInt + 1 := u_701_p
                    have r_705 : 0 ≤ (F_702 18).toInt ∧ (F_702 18).toInt ≤ 1 := hF_702 18
                    have r_706 : 0 ≤ (F 18).toInt ∧ (F 18).toInt ≤ 1 := hF 18
                    have f_707 : (F_702 18).toInt = (F 18).toInt := congrArg Int32.toInt (F_702_o 18 (by decide))
                    refine ok_some ?_
                    have l_708 : (1 : Int32).toInt = 1 := by decide
                    refine ⟨hF_702, hA_703, (fun q hq => (F_702_o q hq)), (fun q hq => (A_703_o q hq)), ?_⟩
                    exact ⟨by omega, by omega⟩
      · rw [i_nne] at c_6
        unfold d_sign_43
        have l_709 : (43 : Int32).toInt = 43 := by decide
        refine ok_cond (fun c_710 => ?_) (fun c_710 => ?_)
        · rw [i_ne] at c_710
          unfold d_sign_55
          have l_711 : (45 : Int32).toInt = 45 := by decide
          refine ok_cond (fun c_712 => ?_) (fun c_712 => ?_)
          · rw [i_ne] at c_712
            unfold d_sign_65
            have l_713 : (42 : Int32).toInt = 42 := by decide
            refine ok_cond (fun c_714 => ?_) (fun c_714 => ?_)
            · rw [i_ne] at c_714
              unfold d_sign_75
              have l_715 : (47 : Int32).toInt = 47 := by decide
              refine ok_cond (fun c_716 => ?_) (fun c_716 => ?_)
              · rw [i_ne] at c_716
                unfold d_sign_85
                have l_717 : (60 : Int32).toInt = 60 := by decide
                refine ok_cond (fun c_718 => ?_) (fun c_718 => ?_)
                · rw [i_ne] at c_718
                  unfold d_sign_95
                  have l_719 : (0 : Int32).toInt = 0 := by decide
                  refine ok_call (s_d_token hF hA (by omega) (by omega)) ?_
                  rintro ⟨u_720, F_721, A_722, J_723⟩ ⟨hF_721, hA_722, F_721_o, A_722_o, u_720_p⟩
                  dsimp only at hF_721 hA_722 F_721_o A_722_o u_720_p ⊢
                  have u_720_p : (F_721 10).toInt = (F 10).toInt + 1 := u_720_p
                  have r_724 : 0 ≤ (F_721 18).toInt ∧ (F_721 18).toInt ≤ 1 := hF_721 18
                  have r_725 : 0 ≤ (F 18).toInt ∧ (F 18).toInt ≤ 1 := hF 18
                  have f_726 : (F_721 18).toInt = (F 18).toInt := congrArg Int32.toInt (F_721_o 18 (by decide))
                  refine ok_some ?_
                  have l_727 : (1 : Int32).toInt = 1 := by decide
                  refine ⟨hF_721, hA_722, (fun q hq => (F_721_o q hq)), (fun q hq => (A_722_o q hq)), ?_⟩
                  exact ⟨by omega, by omega⟩
                · rw [i_nne] at c_718
                  unfold d_sign_95
                  have l_728 : (0 : Int32).toInt = 0 := by decide
                  refine ok_call (s_d_token hF hA (by omega) (by omega)) ?_
                  rintro ⟨u_729, F_730, A_731, J_732⟩ ⟨hF_730, hA_731, F_730_o, A_731_o, u_729_p⟩
                  dsimp only at hF_730 hA_731 F_730_o A_731_o u_729_p ⊢
                  have u_729_p : (F_730 10).toInt = (F 10).toInt + 1 := u_729_p
                  have r_733 : 0 ≤ (F_730 18).toInt ∧ (F_730 18).toInt ≤ 1 := hF_730 18
                  have r_734 : 0 ≤ (F 18).toInt ∧ (F 18).toInt ≤ 1 := hF 18
                  have f_735 : (F_730 18).toInt = (F 18).toInt := congrArg Int32.toInt (F_730_o 18 (by decide))
                  refine ok_some ?_
                  have l_736 : (1 : Int32).toInt = 1 := by decide
                  refine ⟨hF_730, hA_731, (fun q hq => (F_730_o q hq)), (fun q hq => (A_731_o q hq)), ?_⟩
                  exact ⟨by omega, by omega⟩
              · rw [i_nne] at c_716
                unfold d_sign_85
                have l_737 : (60 : Int32).toInt = 60 := by decide
                refine ok_cond (fun c_738 => ?_) (fun c_738 => ?_)
                · rw [i_ne] at c_738
                  unfold d_sign_95
                  have l_739 : (0 : Int32).toInt = 0 := by decide
                  refine ok_call (s_d_token hF hA (by omega) (by omega)) ?_
                  rintro ⟨u_740, F_741, A_742, J_743⟩ ⟨hF_741, hA_742, F_741_o, A_742_o, u_740_p⟩
                  dsimp only at hF_741 hA_742 F_741_o A_742_o u_740_p ⊢
                  have u_740_p : (F_741 10).toInt = (F 10).toInt + 1 := u_740_p
                  have r_744 : 0 ≤ (F_741 18).toInt ∧ (F_741 18).toInt ≤ 1 := hF_741 18
                  have r_745 : 0 ≤ (F 18).toInt ∧ (F 18).toInt ≤ 1 := hF 18
                  have f_746 : (F_741 18).toInt = (F 18).toInt := congrArg Int32.toInt (F_741_o 18 (by decide))
                  refine ok_some ?_
                  have l_747 : (1 : Int32).toInt = 1 := by decide
                  refine ⟨hF_741, hA_742, (fun q hq => (F_741_o q hq)), (fun q hq => (A_742_o q hq)), ?_⟩
                  exact ⟨by omega, by omega⟩
                · rw [i_nne] at c_738
                  unfold d_sign_95
                  have l_748 : (0 : Int32).toInt = 0 := by decide
                  refine ok_call (s_d_token hF hA (by omega) (by omega)) ?_
                  rintro ⟨u_749, F_750, A_751, J_752⟩ ⟨hF_750, hA_751, F_750_o, A_751_o, u_749_p⟩
                  dsimp only at hF_750 hA_751 F_750_o A_751_o u_749_p ⊢
                  have u_749_p : (F_750 10).toInt = (F 10).toInt + 1 := u_749_p
                  have r_753 : 0 ≤ (F_750 18).toInt ∧ (F_750 18).toInt ≤ 1 := hF_750 18
                  have r_754 : 0 ≤ (F 18).toInt ∧ (F 18).toInt ≤ 1 := hF 18
                  have f_755 : (F_750 18).toInt = (F 18).toInt := congrArg Int32.toInt (F_750_o 18 (by decide))
                  refine ok_some ?_
                  have l_756 : (1 : Int32).toInt = 1 := by decide
                  refine ⟨hF_750, hA_751, (fun q hq => (F_750_o q hq)), (fun q hq => (A_751_o q hq)), ?_⟩
                  exact ⟨by omega, by omega⟩
            · rw [i_nne] at c_714
              unfold d_sign_75
              have l_757 : (47 : Int32).toInt = 47 := by decide
              refine ok_cond (fun c_758 => ?_) (fun c_758 => ?_)
              · rw [i_ne] at c_758
                unfold d_sign_85
                have l_759 : (60 : Int32).toInt = 60 := by decide
                refine ok_cond (fun c_760 => ?_) (fun c_760 => ?_)
                · rw [i_ne] at c_760
                  unfold d_sign_95
                  have l_761 : (0 : Int32).toInt = 0 := by decide
                  refine ok_call (s_d_token hF hA (by omega) (by omega)) ?_
                  rintro ⟨u_762, F_763, A_764, J_765⟩ ⟨hF_763, hA_764, F_763_o, A_764_o, u_762_p⟩
                  dsimp only at hF_763 hA_764 F_763_o A_764_o u_762_p ⊢
                  have u_762_p : (F_763 10).toInt = (F 10).toInt + 1 := u_762_p
                  have r_766 : 0 ≤ (F_763 18).toInt ∧ (F_763 18).toInt ≤ 1 := hF_763 18
                  have r_767 : 0 ≤ (F 18).toInt ∧ (F 18).toInt ≤ 1 := hF 18
                  have f_768 : (F_763 18).toInt = (F 18).toInt := congrArg Int32.toInt (F_763_o 18 (by decide))
                  refine ok_some ?_
                  have l_769 : (1 : Int32).toInt = 1 := by decide
                  refine ⟨hF_763, hA_764, (fun q hq => (F_763_o q hq)), (fun q hq => (A_764_o q hq)), ?_⟩
                  exact ⟨by omega, by omega⟩
                · rw [i_nne] at c_760
                  unfold d_sign_95
                  have l_770 : (0 : Int32).toInt = 0 := by decide
                  refine ok_call (s_d_token hF hA (by omega) (by omega)) ?_
                  rintro ⟨u_771, F_772, A_773, J_774⟩ ⟨hF_772, hA_773, F_772_o, A_773_o, u_771_p⟩
                  dsimp only at hF_772 hA_773 F_772_o A_773_o u_771_p ⊢
                  have u_771_p : (F_772 10).toInt = (F 10).toInt + 1 := u_771_p
                  have r_775 : 0 ≤ (F_772 18).toInt ∧ (F_772 18).toInt ≤ 1 := hF_772 18
                  have r_776 : 0 ≤ (F 18).toInt ∧ (F 18).toInt ≤ 1 := hF 18
                  have f_777 : (F_772 18).toInt = (F 18).toInt := congrArg Int32.toInt (F_772_o 18 (by decide))
                  refine ok_some ?_
                  have l_778 : (1 : Int32).toInt = 1 := by decide
                  refine ⟨hF_772, hA_773, (fun q hq => (F_772_o q hq)), (fun q hq => (A_773_o q hq)), ?_⟩
                  exact ⟨by omega, by omega⟩
              · rw [i_nne] at c_758
                unfold d_sign_85
                have l_779 : (60 : Int32).toInt = 60 := by decide
                refine ok_cond (fun c_780 => ?_) (fun c_780 => ?_)
                · rw [i_ne] at c_780
                  unfold d_sign_95
                  have l_781 : (0 : Int32).toInt = 0 := by decide
                  refine ok_call (s_d_token hF hA (by omega) (by omega)) ?_
                  rintro ⟨u_782, F_783, A_784, J_785⟩ ⟨hF_783, hA_784, F_783_o, A_784_o, u_782_p⟩
                  dsimp only at hF_783 hA_784 F_783_o A_784_o u_782_p ⊢
                  have u_782_p : (F_783 10).toInt = (F 10).toInt + 1 := u_782_p
                  have r_786 : 0 ≤ (F_783 18).toInt ∧ (F_783 18).toInt ≤ 1 := hF_783 18
                  have r_787 : 0 ≤ (F 18).toInt ∧ (F 18).toInt ≤ 1 := hF 18
                  have f_788 : (F_783 18).toInt = (F 18).toInt := congrArg Int32.toInt (F_783_o 18 (by decide))
                  refine ok_some ?_
                  have l_789 : (1 : Int32).toInt = 1 := by decide
                  refine ⟨hF_783, hA_784, (fun q hq => (F_783_o q hq)), (fun q hq => (A_784_o q hq)), ?_⟩
                  exact ⟨by omega, by omega⟩
                · rw [i_nne] at c_780
                  unfold d_sign_95
                  have l_790 : (0 : Int32).toInt = 0 := by decide
                  refine ok_call (s_d_token hF hA (by omega) (by omega)) ?_
                  rintro ⟨u_791, F_792, A_793, J_794⟩ ⟨hF_792, hA_793, F_792_o, A_793_o, u_791_p⟩
                  dsimp only at hF_792 hA_793 F_792_o A_793_o u_791_p ⊢
                  have u_791_p : (F_792 10).toInt = (F 10).toInt + 1 := u_791_p
                  have r_795 : 0 ≤ (F_792 18).toInt ∧ (F_792 18).toInt ≤ 1 := hF_792 18
                  have r_796 : 0 ≤ (F 18).toInt ∧ (F 18).toInt ≤ 1 := hF 18
                  have f_797 : (F_792 18).toInt = (F 18).toInt := congrArg Int32.toInt (F_792_o 18 (by decide))
                  refine ok_some ?_
                  have l_798 : (1 : Int32).toInt = 1 := by decide
                  refine ⟨hF_792, hA_793, (fun q hq => (F_792_o q hq)), (fun q hq => (A_793_o q hq)), ?_⟩
                  exact ⟨by omega, by omega⟩
          · rw [i_nne] at c_712
            unfold d_sign_65
            have l_799 : (42 : Int32).toInt = 42 := by decide
            refine ok_cond (fun c_800 => ?_) (fun c_800 => ?_)
            · rw [i_ne] at c_800
              unfold d_sign_75
              have l_801 : (47 : Int32).toInt = 47 := by decide
              refine ok_cond (fun c_802 => ?_) (fun c_802 => ?_)
              · rw [i_ne] at c_802
                unfold d_sign_85
                have l_803 : (60 : Int32).toInt = 60 := by decide
                refine ok_cond (fun c_804 => ?_) (fun c_804 => ?_)
                · rw [i_ne] at c_804
                  unfold d_sign_95
                  have l_805 : (0 : Int32).toInt = 0 := by decide
                  refine ok_call (s_d_token hF hA (by omega) (by omega)) ?_
                  rintro ⟨u_806, F_807, A_808, J_809⟩ ⟨hF_807, hA_808, F_807_o, A_808_o, u_806_p⟩
                  dsimp only at hF_807 hA_808 F_807_o A_808_o u_806_p ⊢
                  have u_806_p : (F_807 10).toInt = (F 10).toInt + 1 := u_806_p
                  have r_810 : 0 ≤ (F_807 18).toInt ∧ (F_807 18).toInt ≤ 1 := hF_807 18
                  have r_811 : 0 ≤ (F 18).toInt ∧ (F 18).toInt ≤ 1 := hF 18
                  have f_812 : (F_807 18).toInt = (F 18).toInt := congrArg Int32.toInt (F_807_o 18 (by decide))
                  refine ok_some ?_
                  have l_813 : (1 : Int32).toInt = 1 := by decide
                  refine ⟨hF_807, hA_808, (fun q hq => (F_807_o q hq)), (fun q hq => (A_808_o q hq)), ?_⟩
                  exact ⟨by omega, by omega⟩
                · rw [i_nne] at c_804
                  unfold d_sign_95
                  have l_814 : (0 : Int32).toInt = 0 := by decide
                  refine ok_call (s_d_token hF hA (by omega) (by omega)) ?_
                  rintro ⟨u_815, F_816, A_817, J_818⟩ ⟨hF_816, hA_817, F_816_o, A_817_o, u_815_p⟩
                  dsimp only at hF_816 hA_817 F_816_o A_817_o u_815_p ⊢
                  have u_815_p : (F_816 10).toInt = (F 10).toInt + 1 := u_815_p
                  have r_819 : 0 ≤ (F_816 18).toInt ∧ (F_816 18).toInt ≤ 1 := hF_816 18
                  have r_820 : 0 ≤ (F 18).toInt ∧ (F 18).toInt ≤ 1 := hF 18
                  have f_821 : (F_816 18).toInt = (F 18).toInt := congrArg Int32.toInt (F_816_o 18 (by decide))
                  refine ok_some ?_
                  have l_822 : (1 : Int32).toInt = 1 := by decide
                  refine ⟨hF_816, hA_817, (fun q hq => (F_816_o q hq)), (fun q hq => (A_817_o q hq)), ?_⟩
                  exact ⟨by omega, by omega⟩
              · rw [i_nne] at c_802
                unfold d_sign_85
                have l_823 : (60 : Int32).toInt = 60 := by decide
                refine ok_cond (fun c_824 => ?_) (fun c_824 => ?_)
                · rw [i_ne] at c_824
                  unfold d_sign_95
                  have l_825 : (0 : Int32).toInt = 0 := by decide
                  refine ok_call (s_d_token hF hA (by omega) (by omega)) ?_
                  rintro ⟨u_826, F_827, A_828, J_829⟩ ⟨hF_827, hA_828, F_827_o, A_828_o, u_826_p⟩
                  dsimp only at hF_827 hA_828 F_827_o A_828_o u_826_p ⊢
                  have u_826_p : (F_827 10).toInt = (F 10).toInt + 1 := u_826_p
                  have r_830 : 0 ≤ (F_827 18).toInt ∧ (F_827 18).toInt ≤ 1 := hF_827 18
                  have r_831 : 0 ≤ (F 18).toInt ∧ (F 18).toInt ≤ 1 := hF 18
                  have f_832 : (F_827 18).toInt = (F 18).toInt := congrArg Int32.toInt (F_827_o 18 (by decide))
                  refine ok_some ?_
                  have l_833 : (1 : Int32).toInt = 1 := by decide
                  refine ⟨hF_827, hA_828, (fun q hq => (F_827_o q hq)), (fun q hq => (A_828_o q hq)), ?_⟩
                  exact ⟨by omega, by omega⟩
                · rw [i_nne] at c_824
                  unfold d_sign_95
                  have l_834 : (0 : Int32).toInt = 0 := by decide
                  refine ok_call (s_d_token hF hA (by omega) (by omega)) ?_
                  rintro ⟨u_835, F_836, A_837, J_838⟩ ⟨hF_836, hA_837, F_836_o, A_837_o, u_835_p⟩
                  dsimp only at hF_836 hA_837 F_836_o A_837_o u_835_p ⊢
                  have u_835_p : (F_836 10).toInt = (F 10).toInt + 1 := u_835_p
                  have r_839 : 0 ≤ (F_836 18).toInt ∧ (F_836 18).toInt ≤ 1 := hF_836 18
                  have r_840 : 0 ≤ (F 18).toInt ∧ (F 18).toInt ≤ 1 := hF 18
                  have f_841 : (F_836 18).toInt = (F 18).toInt := congrArg Int32.toInt (F_836_o 18 (by decide))
                  refine ok_some ?_
                  have l_842 : (1 : Int32).toInt = 1 := by decide
                  refine ⟨hF_836, hA_837, (fun q hq => (F_836_o q hq)), (fun q hq => (A_837_o q hq)), ?_⟩
                  exact ⟨by omega, by omega⟩
            · rw [i_nne] at c_800
              unfold d_sign_75
              have l_843 : (47 : Int32).toInt = 47 := by decide
              refine ok_cond (fun c_844 => ?_) (fun c_844 => ?_)
              · rw [i_ne] at c_844
                unfold d_sign_85
                have l_845 : (60 : Int32).toInt = 60 := by decide
                refine ok_cond (fun c_846 => ?_) (fun c_846 => ?_)
                · rw [i_ne] at c_846
                  unfold d_sign_95
                  have l_847 : (0 : Int32).toInt = 0 := by decide
                  refine ok_call (s_d_token hF hA (by omega) (by omega)) ?_
                  rintro ⟨u_848, F_849, A_850, J_851⟩ ⟨hF_849, hA_850, F_849_o, A_850_o, u_848_p⟩
                  dsimp only at hF_849 hA_850 F_849_o A_850_o u_848_p ⊢
                  have u_848_p : (F_849 10).toInt = (F 10).toInt + 1 := u_848_p
                  have r_852 : 0 ≤ (F_849 18).toInt ∧ (F_849 18).toInt ≤ 1 := hF_849 18
                  have r_853 : 0 ≤ (F 18).toInt ∧ (F 18).toInt ≤ 1 := hF 18
                  have f_854 : (F_849 18).toInt = (F 18).toInt := congrArg Int32.toInt (F_849_o 18 (by decide))
                  refine ok_some ?_
                  have l_855 : (1 : Int32).toInt = 1 := by decide
                  refine ⟨hF_849, hA_850, (fun q hq => (F_849_o q hq)), (fun q hq => (A_850_o q hq)), ?_⟩
                  exact ⟨by omega, by omega⟩
                · rw [i_nne] at c_846
                  unfold d_sign_95
                  have l_856 : (0 : Int32).toInt = 0 := by decide
                  refine ok_call (s_d_token hF hA (by omega) (by omega)) ?_
                  rintro ⟨u_857, F_858, A_859, J_860⟩ ⟨hF_858, hA_859, F_858_o, A_859_o, u_857_p⟩
                  dsimp only at hF_858 hA_859 F_858_o A_859_o u_857_p ⊢
                  have u_857_p : (F_858 10).toInt = (F 10).toInt + 1 := u_857_p
                  have r_861 : 0 ≤ (F_858 18).toInt ∧ (F_858 18).toInt ≤ 1 := hF_858 18
                  have r_862 : 0 ≤ (F 18).toInt ∧ (F 18).toInt ≤ 1 := hF 18
                  have f_863 : (F_858 18).toInt = (F 18).toInt := congrArg Int32.toInt (F_858_o 18 (by decide))
                  refine ok_some ?_
                  have l_864 : (1 : Int32).toInt = 1 := by decide
                  refine ⟨hF_858, hA_859, (fun q hq => (F_858_o q hq)), (fun q hq => (A_859_o q hq)), ?_⟩
                  exact ⟨by omega, by omega⟩
              · rw [i_nne] at c_844
                unfold d_sign_85
                have l_865 : (60 : Int32).toInt = 60 := by decide
                refine ok_cond (fun c_866 => ?_) (fun c_866 => ?_)
                · rw [i_ne] at c_866
                  unfold d_sign_95
                  have l_867 : (0 : Int32).toInt = 0 := by decide
                  refine ok_call (s_d_token hF hA (by omega) (by omega)) ?_
                  rintro ⟨u_868, F_869, A_870, J_871⟩ ⟨hF_869, hA_870, F_869_o, A_870_o, u_868_p⟩
                  dsimp only at hF_869 hA_870 F_869_o A_870_o u_868_p ⊢
                  have u_868_p : (F_869 10).toInt = (F 10).toInt + 1 := u_868_p
                  have r_872 : 0 ≤ (F_869 18).toInt ∧ (F_869 18).toInt ≤ 1 := hF_869 18
                  have r_873 : 0 ≤ (F 18).toInt ∧ (F 18).toInt ≤ 1 := hF 18
                  have f_874 : (F_869 18).toInt = (F 18).toInt := congrArg Int32.toInt (F_869_o 18 (by decide))
                  refine ok_some ?_
                  have l_875 : (1 : Int32).toInt = 1 := by decide
                  refine ⟨hF_869, hA_870, (fun q hq => (F_869_o q hq)), (fun q hq => (A_870_o q hq)), ?_⟩
                  exact ⟨by omega, by omega⟩
                · rw [i_nne] at c_866
                  unfold d_sign_95
                  have l_876 : (0 : Int32).toInt = 0 := by decide
                  refine ok_call (s_d_token hF hA (by omega) (by omega)) ?_
                  rintro ⟨u_877, F_878, A_879, J_880⟩ ⟨hF_878, hA_879, F_878_o, A_879_o, u_877_p⟩
                  dsimp only at hF_878 hA_879 F_878_o A_879_o u_877_p ⊢
                  have u_877_p : (F_878 10).toInt = (F 10).toInt + 1 := u_877_p
                  have r_881 : 0 ≤ (F_878 18).toInt ∧ (F_878 18).toInt ≤ 1 := hF_878 18
                  have r_882 : 0 ≤ (F 18).toInt ∧ (F 18).toInt ≤ 1 := hF 18
                  have f_883 : (F_878 18).toInt = (F 18).toInt := congrArg Int32.toInt (F_878_o 18 (by decide))
                  refine ok_some ?_
                  have l_884 : (1 : Int32).toInt = 1 := by decide
                  refine ⟨hF_878, hA_879, (fun q hq => (F_878_o q hq)), (fun q hq => (A_879_o q hq)), ?_⟩
                  exact ⟨by omega, by omega⟩
        · rw [i_nne] at c_710
          unfold d_sign_55
          have l_885 : (45 : Int32).toInt = 45 := by decide
          refine ok_cond (fun c_886 => ?_) (fun c_886 => ?_)
          · rw [i_ne] at c_886
            unfold d_sign_65
            have l_887 : (42 : Int32).toInt = 42 := by decide
            refine ok_cond (fun c_888 => ?_) (fun c_888 => ?_)
            · rw [i_ne] at c_888
              unfold d_sign_75
              have l_889 : (47 : Int32).toInt = 47 := by decide
              refine ok_cond (fun c_890 => ?_) (fun c_890 => ?_)
              · rw [i_ne] at c_890
                unfold d_sign_85
                have l_891 : (60 : Int32).toInt = 60 := by decide
                refine ok_cond (fun c_892 => ?_) (fun c_892 => ?_)
                · rw [i_ne] at c_892
                  unfold d_sign_95
                  have l_893 : (0 : Int32).toInt = 0 := by decide
                  refine ok_call (s_d_token hF hA (by omega) (by omega)) ?_
                  rintro ⟨u_894, F_895, A_896, J_897⟩ ⟨hF_895, hA_896, F_895_o, A_896_o, u_894_p⟩
                  dsimp only at hF_895 hA_896 F_895_o A_896_o u_894_p ⊢
                  have u_894_p : (F_895 10).toInt = (F 10).toInt + 1 := u_894_p
                  have r_898 : 0 ≤ (F_895 18).toInt ∧ (F_895 18).toInt ≤ 1 := hF_895 18
                  have r_899 : 0 ≤ (F 18).toInt ∧ (F 18).toInt ≤ 1 := hF 18
                  have f_900 : (F_895 18).toInt = (F 18).toInt := congrArg Int32.toInt (F_895_o 18 (by decide))
                  refine ok_some ?_
                  have l_901 : (1 : Int32).toInt = 1 := by decide
                  refine ⟨hF_895, hA_896, (fun q hq => (F_895_o q hq)), (fun q hq => (A_896_o q hq)), ?_⟩
                  exact ⟨by omega, by omega⟩
                · rw [i_nne] at c_892
                  unfold d_sign_95
                  have l_902 : (0 : Int32).toInt = 0 := by decide
                  refine ok_call (s_d_token hF hA (by omega) (by omega)) ?_
                  rintro ⟨u_903, F_904, A_905, J_906⟩ ⟨hF_904, hA_905, F_904_o, A_905_o, u_903_p⟩
                  dsimp only at hF_904 hA_905 F_904_o A_905_o u_903_p ⊢
                  have u_903_p : (F_904 10).toInt = (F 10).toInt + 1 := u_903_p
                  have r_907 : 0 ≤ (F_904 18).toInt ∧ (F_904 18).toInt ≤ 1 := hF_904 18
                  have r_908 : 0 ≤ (F 18).toInt ∧ (F 18).toInt ≤ 1 := hF 18
                  have f_909 : (F_904 18).toInt = (F 18).toInt := congrArg Int32.toInt (F_904_o 18 (by decide))
                  refine ok_some ?_
                  have l_910 : (1 : Int32).toInt = 1 := by decide
                  refine ⟨hF_904, hA_905, (fun q hq => (F_904_o q hq)), (fun q hq => (A_905_o q hq)), ?_⟩
                  exact ⟨by omega, by omega⟩
              · rw [i_nne] at c_890
                unfold d_sign_85
                have l_911 : (60 : Int32).toInt = 60 := by decide
                refine ok_cond (fun c_912 => ?_) (fun c_912 => ?_)
                · rw [i_ne] at c_912
                  unfold d_sign_95
                  have l_913 : (0 : Int32).toInt = 0 := by decide
                  refine ok_call (s_d_token hF hA (by omega) (by omega)) ?_
                  rintro ⟨u_914, F_915, A_916, J_917⟩ ⟨hF_915, hA_916, F_915_o, A_916_o, u_914_p⟩
                  dsimp only at hF_915 hA_916 F_915_o A_916_o u_914_p ⊢
                  have u_914_p : (F_915 10).toInt = (F 10).toInt + 1 := u_914_p
                  have r_918 : 0 ≤ (F_915 18).toInt ∧ (F_915 18).toInt ≤ 1 := hF_915 18
                  have r_919 : 0 ≤ (F 18).toInt ∧ (F 18).toInt ≤ 1 := hF 18
                  have f_920 : (F_915 18).toInt = (F 18).toInt := congrArg Int32.toInt (F_915_o 18 (by decide))
                  refine ok_some ?_
                  have l_921 : (1 : Int32).toInt = 1 := by decide
                  refine ⟨hF_915, hA_916, (fun q hq => (F_915_o q hq)), (fun q hq => (A_916_o q hq)), ?_⟩
                  exact ⟨by omega, by omega⟩
                · rw [i_nne] at c_912
                  unfold d_sign_95
                  have l_922 : (0 : Int32).toInt = 0 := by decide
                  refine ok_call (s_d_token hF hA (by omega) (by omega)) ?_
                  rintro ⟨u_923, F_924, A_925, J_926⟩ ⟨hF_924, hA_925, F_924_o, A_925_o, u_923_p⟩
                  dsimp only at hF_924 hA_925 F_924_o A_925_o u_923_p ⊢
                  have u_923_p : (F_924 10).toInt = (F 10).toInt + 1 := u_923_p
                  have r_927 : 0 ≤ (F_924 18).toInt ∧ (F_924 18).toInt ≤ 1 := hF_924 18
                  have r_928 : 0 ≤ (F 18).toInt ∧ (F 18).toInt ≤ 1 := hF 18
                  have f_929 : (F_924 18).toInt = (F 18).toInt := congrArg Int32.toInt (F_924_o 18 (by decide))
                  refine ok_some ?_
                  have l_930 : (1 : Int32).toInt = 1 := by decide
                  refine ⟨hF_924, hA_925, (fun q hq => (F_924_o q hq)), (fun q hq => (A_925_o q hq)), ?_⟩
                  exact ⟨by omega, by omega⟩
            · rw [i_nne] at c_888
              unfold d_sign_75
              have l_931 : (47 : Int32).toInt = 47 := by decide
              refine ok_cond (fun c_932 => ?_) (fun c_932 => ?_)
              · rw [i_ne] at c_932
                unfold d_sign_85
                have l_933 : (60 : Int32).toInt = 60 := by decide
                refine ok_cond (fun c_934 => ?_) (fun c_934 => ?_)
                · rw [i_ne] at c_934
                  unfold d_sign_95
                  have l_935 : (0 : Int32).toInt = 0 := by decide
                  refine ok_call (s_d_token hF hA (by omega) (by omega)) ?_
                  rintro ⟨u_936, F_937, A_938, J_939⟩ ⟨hF_937, hA_938, F_937_o, A_938_o, u_936_p⟩
                  dsimp only at hF_937 hA_938 F_937_o A_938_o u_936_p ⊢
                  have u_936_p : (F_937 10).toInt = (F 10).toInt + 1 := u_936_p
                  have r_940 : 0 ≤ (F_937 18).toInt ∧ (F_937 18).toInt ≤ 1 := hF_937 18
                  have r_941 : 0 ≤ (F 18).toInt ∧ (F 18).toInt ≤ 1 := hF 18
                  have f_942 : (F_937 18).toInt = (F 18).toInt := congrArg Int32.toInt (F_937_o 18 (by decide))
                  refine ok_some ?_
                  have l_943 : (1 : Int32).toInt = 1 := by decide
                  refine ⟨hF_937, hA_938, (fun q hq => (F_937_o q hq)), (fun q hq => (A_938_o q hq)), ?_⟩
                  exact ⟨by omega, by omega⟩
                · rw [i_nne] at c_934
                  unfold d_sign_95
                  have l_944 : (0 : Int32).toInt = 0 := by decide
                  refine ok_call (s_d_token hF hA (by omega) (by omega)) ?_
                  rintro ⟨u_945, F_946, A_947, J_948⟩ ⟨hF_946, hA_947, F_946_o, A_947_o, u_945_p⟩
                  dsimp only at hF_946 hA_947 F_946_o A_947_o u_945_p ⊢
                  have u_945_p : (F_946 10).toInt = (F 10).toInt + 1 := u_945_p
                  have r_949 : 0 ≤ (F_946 18).toInt ∧ (F_946 18).toInt ≤ 1 := hF_946 18
                  have r_950 : 0 ≤ (F 18).toInt ∧ (F 18).toInt ≤ 1 := hF 18
                  have f_951 : (F_946 18).toInt = (F 18).toInt := congrArg Int32.toInt (F_946_o 18 (by decide))
                  refine ok_some ?_
                  have l_952 : (1 : Int32).toInt = 1 := by decide
                  refine ⟨hF_946, hA_947, (fun q hq => (F_946_o q hq)), (fun q hq => (A_947_o q hq)), ?_⟩
                  exact ⟨by omega, by omega⟩
              · rw [i_nne] at c_932
                unfold d_sign_85
                have l_953 : (60 : Int32).toInt = 60 := by decide
                refine ok_cond (fun c_954 => ?_) (fun c_954 => ?_)
                · rw [i_ne] at c_954
                  unfold d_sign_95
                  have l_955 : (0 : Int32).toInt = 0 := by decide
                  refine ok_call (s_d_token hF hA (by omega) (by omega)) ?_
                  rintro ⟨u_956, F_957, A_958, J_959⟩ ⟨hF_957, hA_958, F_957_o, A_958_o, u_956_p⟩
                  dsimp only at hF_957 hA_958 F_957_o A_958_o u_956_p ⊢
                  have u_956_p : (F_957 10).toInt = (F 10).toInt + 1 := u_956_p
                  have r_960 : 0 ≤ (F_957 18).toInt ∧ (F_957 18).toInt ≤ 1 := hF_957 18
                  have r_961 : 0 ≤ (F 18).toInt ∧ (F 18).toInt ≤ 1 := hF 18
                  have f_962 : (F_957 18).toInt = (F 18).toInt := congrArg Int32.toInt (F_957_o 18 (by decide))
                  refine ok_some ?_
                  have l_963 : (1 : Int32).toInt = 1 := by decide
                  refine ⟨hF_957, hA_958, (fun q hq => (F_957_o q hq)), (fun q hq => (A_958_o q hq)), ?_⟩
                  exact ⟨by omega, by omega⟩
                · rw [i_nne] at c_954
                  unfold d_sign_95
                  have l_964 : (0 : Int32).toInt = 0 := by decide
                  refine ok_call (s_d_token hF hA (by omega) (by omega)) ?_
                  rintro ⟨u_965, F_966, A_967, J_968⟩ ⟨hF_966, hA_967, F_966_o, A_967_o, u_965_p⟩
                  dsimp only at hF_966 hA_967 F_966_o A_967_o u_965_p ⊢
                  have u_965_p : (F_966 10).toInt = (F 10).toInt + 1 := u_965_p
                  have r_969 : 0 ≤ (F_966 18).toInt ∧ (F_966 18).toInt ≤ 1 := hF_966 18
                  have r_970 : 0 ≤ (F 18).toInt ∧ (F 18).toInt ≤ 1 := hF 18
                  have f_971 : (F_966 18).toInt = (F 18).toInt := congrArg Int32.toInt (F_966_o 18 (by decide))
                  refine ok_some ?_
                  have l_972 : (1 : Int32).toInt = 1 := by decide
                  refine ⟨hF_966, hA_967, (fun q hq => (F_966_o q hq)), (fun q hq => (A_967_o q hq)), ?_⟩
                  exact ⟨by omega, by omega⟩
          · rw [i_nne] at c_886
            unfold d_sign_65
            have l_973 : (42 : Int32).toInt = 42 := by decide
            refine ok_cond (fun c_974 => ?_) (fun c_974 => ?_)
            · rw [i_ne] at c_974
              unfold d_sign_75
              have l_975 : (47 : Int32).toInt = 47 := by decide
              refine ok_cond (fun c_976 => ?_) (fun c_976 => ?_)
              · rw [i_ne] at c_976
                unfold d_sign_85
                have l_977 : (60 : Int32).toInt = 60 := by decide
                refine ok_cond (fun c_978 => ?_) (fun c_978 => ?_)
                · rw [i_ne] at c_978
                  unfold d_sign_95
                  have l_979 : (0 : Int32).toInt = 0 := by decide
                  refine ok_call (s_d_token hF hA (by omega) (by omega)) ?_
                  rintro ⟨u_980, F_981, A_982, J_983⟩ ⟨hF_981, hA_982, F_981_o, A_982_o, u_980_p⟩
                  dsimp only at hF_981 hA_982 F_981_o A_982_o u_980_p ⊢
                  have u_980_p : (F_981 10).toInt = (F 10).toInt + 1 := u_980_p
                  have r_984 : 0 ≤ (F_981 18).toInt ∧ (F_981 18).toInt ≤ 1 := hF_981 18
                  have r_985 : 0 ≤ (F 18).toInt ∧ (F 18).toInt ≤ 1 := hF 18
                  have f_986 : (F_981 18).toInt = (F 18).toInt := congrArg Int32.toInt (F_981_o 18 (by decide))
                  refine ok_some ?_
                  have l_987 : (1 : Int32).toInt = 1 := by decide
                  refine ⟨hF_981, hA_982, (fun q hq => (F_981_o q hq)), (fun q hq => (A_982_o q hq)), ?_⟩
                  exact ⟨by omega, by omega⟩
                · rw [i_nne] at c_978
                  unfold d_sign_95
                  have l_988 : (0 : Int32).toInt = 0 := by decide
                  refine ok_call (s_d_token hF hA (by omega) (by omega)) ?_
                  rintro ⟨u_989, F_990, A_991, J_992⟩ ⟨hF_990, hA_991, F_990_o, A_991_o, u_989_p⟩
                  dsimp only at hF_990 hA_991 F_990_o A_991_o u_989_p ⊢
                  have u_989_p : (F_990 10).toInt = (F 10).toInt + 1 := u_989_p
                  have r_993 : 0 ≤ (F_990 18).toInt ∧ (F_990 18).toInt ≤ 1 := hF_990 18
                  have r_994 : 0 ≤ (F 18).toInt ∧ (F 18).toInt ≤ 1 := hF 18
                  have f_995 : (F_990 18).toInt = (F 18).toInt := congrArg Int32.toInt (F_990_o 18 (by decide))
                  refine ok_some ?_
                  have l_996 : (1 : Int32).toInt = 1 := by decide
                  refine ⟨hF_990, hA_991, (fun q hq => (F_990_o q hq)), (fun q hq => (A_991_o q hq)), ?_⟩
                  exact ⟨by omega, by omega⟩
              · rw [i_nne] at c_976
                unfold d_sign_85
                have l_997 : (60 : Int32).toInt = 60 := by decide
                refine ok_cond (fun c_998 => ?_) (fun c_998 => ?_)
                · rw [i_ne] at c_998
                  unfold d_sign_95
                  have l_999 : (0 : Int32).toInt = 0 := by decide
                  refine ok_call (s_d_token hF hA (by omega) (by omega)) ?_
                  rintro ⟨u_1000, F_1001, A_1002, J_1003⟩ ⟨hF_1001, hA_1002, F_1001_o, A_1002_o, u_1000_p⟩
                  dsimp only at hF_1001 hA_1002 F_1001_o A_1002_o u_1000_p ⊢
                  have u_1000_p : (F_1001 10).toInt = (F 10).toInt + 1 := u_1000_p
                  have r_1004 : 0 ≤ (F_1001 18).toInt ∧ (F_1001 18).toInt ≤ 1 := hF_1001 18
                  have r_1005 : 0 ≤ (F 18).toInt ∧ (F 18).toInt ≤ 1 := hF 18
                  have f_1006 : (F_1001 18).toInt = (F 18).toInt := congrArg Int32.toInt (F_1001_o 18 (by decide))
                  refine ok_some ?_
                  have l_1007 : (1 : Int32).toInt = 1 := by decide
                  refine ⟨hF_1001, hA_1002, (fun q hq => (F_1001_o q hq)), (fun q hq => (A_1002_o q hq)), ?_⟩
                  exact ⟨by omega, by omega⟩
                · rw [i_nne] at c_998
                  unfold d_sign_95
                  have l_1008 : (0 : Int32).toInt = 0 := by decide
                  refine ok_call (s_d_token hF hA (by omega) (by omega)) ?_
                  rintro ⟨u_1009, F_1010, A_1011, J_1012⟩ ⟨hF_1010, hA_1011, F_1010_o, A_1011_o, u_1009_p⟩
                  dsimp only at hF_1010 hA_1011 F_1010_o A_1011_o u_1009_p ⊢
                  have u_1009_p : (F_1010 10).toInt = (F 10).toInt + 1 := u_1009_p
                  have r_1013 : 0 ≤ (F_1010 18).toInt ∧ (F_1010 18).toInt ≤ 1 := hF_1010 18
                  have r_1014 : 0 ≤ (F 18).toInt ∧ (F 18).toInt ≤ 1 := hF 18
                  have f_1015 : (F_1010 18).toInt = (F 18).toInt := congrArg Int32.toInt (F_1010_o 18 (by decide))
                  refine ok_some ?_
                  have l_1016 : (1 : Int32).toInt = 1 := by decide
                  refine ⟨hF_1010, hA_1011, (fun q hq => (F_1010_o q hq)), (fun q hq => (A_1011_o q hq)), ?_⟩
                  exact ⟨by omega, by omega⟩
            · rw [i_nne] at c_974
              unfold d_sign_75
              have l_1017 : (47 : Int32).toInt = 47 := by decide
              refine ok_cond (fun c_1018 => ?_) (fun c_1018 => ?_)
              · rw [i_ne] at c_1018
                unfold d_sign_85
                have l_1019 : (60 : Int32).toInt = 60 := by decide
                refine ok_cond (fun c_1020 => ?_) (fun c_1020 => ?_)
                · rw [i_ne] at c_1020
                  unfold d_sign_95
                  have l_1021 : (0 : Int32).toInt = 0 := by decide
                  refine ok_call (s_d_token hF hA (by omega) (by omega)) ?_
                  rintro ⟨u_1022, F_1023, A_1024, J_1025⟩ ⟨hF_1023, hA_1024, F_1023_o, A_1024_o, u_1022_p⟩
                  dsimp only at hF_1023 hA_1024 F_1023_o A_1024_o u_1022_p ⊢
                  have u_1022_p : (F_1023 10).toInt = (F 10).toInt + 1 := u_1022_p
                  have r_1026 : 0 ≤ (F_1023 18).toInt ∧ (F_1023 18).toInt ≤ 1 := hF_1023 18
                  have r_1027 : 0 ≤ (F 18).toInt ∧ (F 18).toInt ≤ 1 := hF 18
                  have f_1028 : (F_1023 18).toInt = (F 18).toInt := congrArg Int32.toInt (F_1023_o 18 (by decide))
                  refine ok_some ?_
                  have l_1029 : (1 : Int32).toInt = 1 := by decide
                  refine ⟨hF_1023, hA_1024, (fun q hq => (F_1023_o q hq)), (fun q hq => (A_1024_o q hq)), ?_⟩
                  exact ⟨by omega, by omega⟩
                · rw [i_nne] at c_1020
                  unfold d_sign_95
                  have l_1030 : (0 : Int32).toInt = 0 := by decide
                  refine ok_call (s_d_token hF hA (by omega) (by omega)) ?_
                  rintro ⟨u_1031, F_1032, A_1033, J_1034⟩ ⟨hF_1032, hA_1033, F_1032_o, A_1033_o, u_1031_p⟩
                  dsimp only at hF_1032 hA_1033 F_1032_o A_1033_o u_1031_p ⊢
                  have u_1031_p : (F_1032 10).toInt = (F 10).toInt + 1 := u_1031_p
                  have r_1035 : 0 ≤ (F_1032 18).toInt ∧ (F_1032 18).toInt ≤ 1 := hF_1032 18
                  have r_1036 : 0 ≤ (F 18).toInt ∧ (F 18).toInt ≤ 1 := hF 18
                  have f_1037 : (F_1032 18).toInt = (F 18).toInt := congrArg Int32.toInt (F_1032_o 18 (by decide))
                  refine ok_some ?_
                  have l_1038 : (1 : Int32).toInt = 1 := by decide
                  refine ⟨hF_1032, hA_1033, (fun q hq => (F_1032_o q hq)), (fun q hq => (A_1033_o q hq)), ?_⟩
                  exact ⟨by omega, by omega⟩
              · rw [i_nne] at c_1018
                unfold d_sign_85
                have l_1039 : (60 : Int32).toInt = 60 := by decide
                refine ok_cond (fun c_1040 => ?_) (fun c_1040 => ?_)
                · rw [i_ne] at c_1040
                  unfold d_sign_95
                  have l_1041 : (0 : Int32).toInt = 0 := by decide
                  refine ok_call (s_d_token hF hA (by omega) (by omega)) ?_
                  rintro ⟨u_1042, F_1043, A_1044, J_1045⟩ ⟨hF_1043, hA_1044, F_1043_o, A_1044_o, u_1042_p⟩
                  dsimp only at hF_1043 hA_1044 F_1043_o A_1044_o u_1042_p ⊢
                  have u_1042_p : (F_1043 10).toInt = (F 10).toInt + 1 := u_1042_p
                  have r_1046 : 0 ≤ (F_1043 18).toInt ∧ (F_1043 18).toInt ≤ 1 := hF_1043 18
                  have r_1047 : 0 ≤ (F 18).toInt ∧ (F 18).toInt ≤ 1 := hF 18
                  have f_1048 : (F_1043 18).toInt = (F 18).toInt := congrArg Int32.toInt (F_1043_o 18 (by decide))
                  refine ok_some ?_
                  have l_1049 : (1 : Int32).toInt = 1 := by decide
                  refine ⟨hF_1043, hA_1044, (fun q hq => (F_1043_o q hq)), (fun q hq => (A_1044_o q hq)), ?_⟩
                  exact ⟨by omega, by omega⟩
                · rw [i_nne] at c_1040
                  unfold d_sign_95
                  have l_1050 : (0 : Int32).toInt = 0 := by decide
                  refine ok_call (s_d_token hF hA (by omega) (by omega)) ?_
                  rintro ⟨u_1051, F_1052, A_1053, J_1054⟩ ⟨hF_1052, hA_1053, F_1052_o, A_1053_o, u_1051_p⟩
                  dsimp only at hF_1052 hA_1053 F_1052_o A_1053_o u_1051_p ⊢
                  have u_1051_p : (F_1052 10).toInt = (F 10).toInt + 1 := u_1051_p
                  have r_1055 : 0 ≤ (F_1052 18).toInt ∧ (F_1052 18).toInt ≤ 1 := hF_1052 18
                  have r_1056 : 0 ≤ (F 18).toInt ∧ (F 18).toInt ≤ 1 := hF 18
                  have f_1057 : (F_1052 18).toInt = (F 18).toInt := congrArg Int32.toInt (F_1052_o 18 (by decide))
                  refine ok_some ?_
                  have l_1058 : (1 : Int32).toInt = 1 := by decide
                  refine ⟨hF_1052, hA_1053, (fun q hq => (F_1052_o q hq)), (fun q hq => (A_1053_o q hq)), ?_⟩
                  exact ⟨by omega, by omega⟩
    · rw [i_nne] at c_4
      unfold d_sign_43
      have l_1059 : (43 : Int32).toInt = 43 := by decide
      refine ok_cond (fun c_1060 => ?_) (fun c_1060 => ?_)
      · rw [i_ne] at c_1060
        unfold d_sign_55
        have l_1061 : (45 : Int32).toInt = 45 := by decide
        refine ok_cond (fun c_1062 => ?_) (fun c_1062 => ?_)
        · rw [i_ne] at c_1062
          unfold d_sign_65
          have l_1063 : (42 : Int32).toInt = 42 := by decide
          refine ok_cond (fun c_1064 => ?_) (fun c_1064 => ?_)
          · rw [i_ne] at c_1064
            unfold d_sign_75
            have l_1065 : (47 : Int32).toInt = 47 := by decide
            refine ok_cond (fun c_1066 => ?_) (fun c_1066 => ?_)
            · rw [i_ne] at c_1066
              unfold d_sign_85
              have l_1067 : (60 : Int32).toInt = 60 := by decide
              refine ok_cond (fun c_1068 => ?_) (fun c_1068 => ?_)
              · rw [i_ne] at c_1068
                unfold d_sign_95
                have l_1069 : (0 : Int32).toInt = 0 := by decide
                refine ok_call (s_d_token hF hA (by omega) (by omega)) ?_
                rintro ⟨u_1070, F_1071, A_1072, J_1073⟩ ⟨hF_1071, hA_1072, F_1071_o, A_1072_o, u_1070_p⟩
                dsimp only at hF_1071 hA_1072 F_1071_o A_1072_o u_1070_p ⊢
                have u_1070_p : (F_1071 10).toInt = (F 10).toInt + 1 := u_1070_p
                have r_1074 : 0 ≤ (F_1071 18).toInt ∧ (F_1071 18).toInt ≤ 1 := hF_1071 18
                have r_1075 : 0 ≤ (F 18).toInt ∧ (F 18).toInt ≤ 1 := hF 18
                have f_1076 : (F_1071 18).toInt = (F 18).toInt := congrArg Int32.toInt (F_1071_o 18 (by decide))
                refine ok_some ?_
                have l_1077 : (1 : Int32).toInt = 1 := by decide
                refine ⟨hF_1071, hA_1072, (fun q hq => (F_1071_o q hq)), (fun q hq => (A_1072_o q hq)), ?_⟩
                exact ⟨by omega, by omega⟩
              · rw [i_nne] at c_1068
                unfold d_sign_95
                have l_1078 : (0 : Int32).toInt = 0 := by decide
                refine ok_call (s_d_token hF hA (by omega) (by omega)) ?_
                rintro ⟨u_1079, F_1080, A_1081, J_1082⟩ ⟨hF_1080, hA_1081, F_1080_o, A_1081_o, u_1079_p⟩
                dsimp only at hF_1080 hA_1081 F_1080_o A_1081_o u_1079_p ⊢
                have u_1079_p : (F_1080 10).toInt = (F 10).toInt + 1 := u_1079_p
                have r_1083 : 0 ≤ (F_1080 18).toInt ∧ (F_1080 18).toInt ≤ 1 := hF_1080 18
                have r_1084 : 0 ≤ (F 18).toInt ∧ (F 18).toInt ≤ 1 := hF 18
                have f_1085 : (F_1080 18).toInt = (F 18).toInt := congrArg Int32.toInt (F_1080_o 18 (by decide))
                refine ok_some ?_
                have l_1086 : (1 : Int32).toInt = 1 := by decide
                refine ⟨hF_1080, hA_1081, (fun q hq => (F_1080_o q hq)), (fun q hq => (A_1081_o q hq)), ?_⟩
                exact ⟨by omega, by omega⟩
            · rw [i_nne] at c_1066
              unfold d_sign_85
              have l_1087 : (60 : Int32).toInt = 60 := by decide
              refine ok_cond (fun c_1088 => ?_) (fun c_1088 => ?_)
              · rw [i_ne] at c_1088
                unfold d_sign_95
                have l_1089 : (0 : Int32).toInt = 0 := by decide
                refine ok_call (s_d_token hF hA (by omega) (by omega)) ?_
                rintro ⟨u_1090, F_1091, A_1092, J_1093⟩ ⟨hF_1091, hA_1092, F_1091_o, A_1092_o, u_1090_p⟩
                dsimp only at hF_1091 hA_1092 F_1091_o A_1092_o u_1090_p ⊢
                have u_1090_p : (F_1091 10).toInt = (F 10).toInt + 1 := u_1090_p
                have r_1094 : 0 ≤ (F_1091 18).toInt ∧ (F_1091 18).toInt ≤ 1 := hF_1091 18
                have r_1095 : 0 ≤ (F 18).toInt ∧ (F 18).toInt ≤ 1 := hF 18
                have f_1096 : (F_1091 18).toInt = (F 18).toInt := congrArg Int32.toInt (F_1091_o 18 (by decide))
                refine ok_some ?_
                have l_1097 : (1 : Int32).toInt = 1 := by decide
                refine ⟨hF_1091, hA_1092, (fun q hq => (F_1091_o q hq)), (fun q hq => (A_1092_o q hq)), ?_⟩
                exact ⟨by omega, by omega⟩
              · rw [i_nne] at c_1088
                unfold d_sign_95
                have l_1098 : (0 : Int32).toInt = 0 := by decide
                refine ok_call (s_d_token hF hA (by omega) (by omega)) ?_
                rintro ⟨u_1099, F_1100, A_1101, J_1102⟩ ⟨hF_1100, hA_1101, F_1100_o, A_1101_o, u_1099_p⟩
                dsimp only at hF_1100 hA_1101 F_1100_o A_1101_o u_1099_p ⊢
                have u_1099_p : (F_1100 10).toInt = (F 10).toInt + 1 := u_1099_p
                have r_1103 : 0 ≤ (F_1100 18).toInt ∧ (F_1100 18).toInt ≤ 1 := hF_1100 18
                have r_1104 : 0 ≤ (F 18).toInt ∧ (F 18).toInt ≤ 1 := hF 18
                have f_1105 : (F_1100 18).toInt = (F 18).toInt := congrArg Int32.toInt (F_1100_o 18 (by decide))
                refine ok_some ?_
                have l_1106 : (1 : Int32).toInt = 1 := by decide
                refine ⟨hF_1100, hA_1101, (fun q hq => (F_1100_o q hq)), (fun q hq => (A_1101_o q hq)), ?_⟩
                exact ⟨by omega, by omega⟩
          · rw [i_nne] at c_1064
            unfold d_sign_75
            have l_1107 : (47 : Int32).toInt = 47 := by decide
            refine ok_cond (fun c_1108 => ?_) (fun c_1108 => ?_)
            · rw [i_ne] at c_1108
              unfold d_sign_85
              have l_1109 : (60 : Int32).toInt = 60 := by decide
              refine ok_cond (fun c_1110 => ?_) (fun c_1110 => ?_)
              · rw [i_ne] at c_1110
                unfold d_sign_95
                have l_1111 : (0 : Int32).toInt = 0 := by decide
                refine ok_call (s_d_token hF hA (by omega) (by omega)) ?_
                rintro ⟨u_1112, F_1113, A_1114, J_1115⟩ ⟨hF_1113, hA_1114, F_1113_o, A_1114_o, u_1112_p⟩
                dsimp only at hF_1113 hA_1114 F_1113_o A_1114_o u_1112_p ⊢
                have u_1112_p : (F_1113 10).toInt = (F 10).toInt + 1 := u_1112_p
                have r_1116 : 0 ≤ (F_1113 18).toInt ∧ (F_1113 18).toInt ≤ 1 := hF_1113 18
                have r_1117 : 0 ≤ (F 18).toInt ∧ (F 18).toInt ≤ 1 := hF 18
                have f_1118 : (F_1113 18).toInt = (F 18).toInt := congrArg Int32.toInt (F_1113_o 18 (by decide))
                refine ok_some ?_
                have l_1119 : (1 : Int32).toInt = 1 := by decide
                refine ⟨hF_1113, hA_1114, (fun q hq => (F_1113_o q hq)), (fun q hq => (A_1114_o q hq)), ?_⟩
                exact ⟨by omega, by omega⟩
              · rw [i_nne] at c_1110
                unfold d_sign_95
                have l_1120 : (0 : Int32).toInt = 0 := by decide
                refine ok_call (s_d_token hF hA (by omega) (by omega)) ?_
                rintro ⟨u_1121, F_1122, A_1123, J_1124⟩ ⟨hF_1122, hA_1123, F_1122_o, A_1123_o, u_1121_p⟩
                dsimp only at hF_1122 hA_1123 F_1122_o A_1123_o u_1121_p ⊢
                have u_1121_p : (F_1122 10).toInt = (F 10).toInt + 1 := u_1121_p
                have r_1125 : 0 ≤ (F_1122 18).toInt ∧ (F_1122 18).toInt ≤ 1 := hF_1122 18
                have r_1126 : 0 ≤ (F 18).toInt ∧ (F 18).toInt ≤ 1 := hF 18
                have f_1127 : (F_1122 18).toInt = (F 18).toInt := congrArg Int32.toInt (F_1122_o 18 (by decide))
                refine ok_some ?_
                have l_1128 : (1 : Int32).toInt = 1 := by decide
                refine ⟨hF_1122, hA_1123, (fun q hq => (F_1122_o q hq)), (fun q hq => (A_1123_o q hq)), ?_⟩
                exact ⟨by omega, by omega⟩
            · rw [i_nne] at c_1108
              unfold d_sign_85
              have l_1129 : (60 : Int32).toInt = 60 := by decide
              refine ok_cond (fun c_1130 => ?_) (fun c_1130 => ?_)
              · rw [i_ne] at c_1130
                unfold d_sign_95
                have l_1131 : (0 : Int32).toInt = 0 := by decide
                refine ok_call (s_d_token hF hA (by omega) (by omega)) ?_
                rintro ⟨u_1132, F_1133, A_1134, J_1135⟩ ⟨hF_1133, hA_1134, F_1133_o, A_1134_o, u_1132_p⟩
                dsimp only at hF_1133 hA_1134 F_1133_o A_1134_o u_1132_p ⊢
                have u_1132_p : (F_1133 10).toInt = (F 10).toInt + 1 := u_1132_p
                have r_1136 : 0 ≤ (F_1133 18).toInt ∧ (F_1133 18).toInt ≤ 1 := hF_1133 18
                have r_1137 : 0 ≤ (F 18).toInt ∧ (F 18).toInt ≤ 1 := hF 18
                have f_1138 : (F_1133 18).toInt = (F 18).toInt := congrArg Int32.toInt (F_1133_o 18 (by decide))
                refine ok_some ?_
                have l_1139 : (1 : Int32).toInt = 1 := by decide
                refine ⟨hF_1133, hA_1134, (fun q hq => (F_1133_o q hq)), (fun q hq => (A_1134_o q hq)), ?_⟩
                exact ⟨by omega, by omega⟩
              · rw [i_nne] at c_1130
                unfold d_sign_95
                have l_1140 : (0 : Int32).toInt = 0 := by decide
                refine ok_call (s_d_token hF hA (by omega) (by omega)) ?_
                rintro ⟨u_1141, F_1142, A_1143, J_1144⟩ ⟨hF_1142, hA_1143, F_1142_o, A_1143_o, u_1141_p⟩
                dsimp only at hF_1142 hA_1143 F_1142_o A_1143_o u_1141_p ⊢
                have u_1141_p : (F_1142 10).toInt = (F 10).toInt + 1 := u_1141_p
                have r_1145 : 0 ≤ (F_1142 18).toInt ∧ (F_1142 18).toInt ≤ 1 := hF_1142 18
                have r_1146 : 0 ≤ (F 18).toInt ∧ (F 18).toInt ≤ 1 := hF 18
                have f_1147 : (F_1142 18).toInt = (F 18).toInt := congrArg Int32.toInt (F_1142_o 18 (by decide))
                refine ok_some ?_
                have l_1148 : (1 : Int32).toInt = 1 := by decide
                refine ⟨hF_1142, hA_1143, (fun q hq => (F_1142_o q hq)), (fun q hq => (A_1143_o q hq)), ?_⟩
                exact ⟨by omega, by omega⟩
        · rw [i_nne] at c_1062
          unfold d_sign_65
          have l_1149 : (42 : Int32).toInt = 42 := by decide
          refine ok_cond (fun c_1150 => ?_) (fun c_1150 => ?_)
          · rw [i_ne] at c_1150
            unfold d_sign_75
            have l_1151 : (47 : Int32).toInt = 47 := by decide
            refine ok_cond (fun c_1152 => ?_) (fun c_1152 => ?_)
            · rw [i_ne] at c_1152
              unfold d_sign_85
              have l_1153 : (60 : Int32).toInt = 60 := by decide
              refine ok_cond (fun c_1154 => ?_) (fun c_1154 => ?_)
              · rw [i_ne] at c_1154
                unfold d_sign_95
                have l_1155 : (0 : Int32).toInt = 0 := by decide
                refine ok_call (s_d_token hF hA (by omega) (by omega)) ?_
                rintro ⟨u_1156, F_1157, A_1158, J_1159⟩ ⟨hF_1157, hA_1158, F_1157_o, A_1158_o, u_1156_p⟩
                dsimp only at hF_1157 hA_1158 F_1157_o A_1158_o u_1156_p ⊢
                have u_1156_p : (F_1157 10).toInt = (F 10).toInt + 1 := u_1156_p
                have r_1160 : 0 ≤ (F_1157 18).toInt ∧ (F_1157 18).toInt ≤ 1 := hF_1157 18
                have r_1161 : 0 ≤ (F 18).toInt ∧ (F 18).toInt ≤ 1 := hF 18
                have f_1162 : (F_1157 18).toInt = (F 18).toInt := congrArg Int32.toInt (F_1157_o 18 (by decide))
                refine ok_some ?_
                have l_1163 : (1 : Int32).toInt = 1 := by decide
                refine ⟨hF_1157, hA_1158, (fun q hq => (F_1157_o q hq)), (fun q hq => (A_1158_o q hq)), ?_⟩
                exact ⟨by omega, by omega⟩
              · rw [i_nne] at c_1154
                unfold d_sign_95
                have l_1164 : (0 : Int32).toInt = 0 := by decide
                refine ok_call (s_d_token hF hA (by omega) (by omega)) ?_
                rintro ⟨u_1165, F_1166, A_1167, J_1168⟩ ⟨hF_1166, hA_1167, F_1166_o, A_1167_o, u_1165_p⟩
                dsimp only at hF_1166 hA_1167 F_1166_o A_1167_o u_1165_p ⊢
                have u_1165_p : (F_1166 10).toInt = (F 10).toInt + 1 := u_1165_p
                have r_1169 : 0 ≤ (F_1166 18).toInt ∧ (F_1166 18).toInt ≤ 1 := hF_1166 18
                have r_1170 : 0 ≤ (F 18).toInt ∧ (F 18).toInt ≤ 1 := hF 18
                have f_1171 : (F_1166 18).toInt = (F 18).toInt := congrArg Int32.toInt (F_1166_o 18 (by decide))
                refine ok_some ?_
                have l_1172 : (1 : Int32).toInt = 1 := by decide
                refine ⟨hF_1166, hA_1167, (fun q hq => (F_1166_o q hq)), (fun q hq => (A_1167_o q hq)), ?_⟩
                exact ⟨by omega, by omega⟩
            · rw [i_nne] at c_1152
              unfold d_sign_85
              have l_1173 : (60 : Int32).toInt = 60 := by decide
              refine ok_cond (fun c_1174 => ?_) (fun c_1174 => ?_)
              · rw [i_ne] at c_1174
                unfold d_sign_95
                have l_1175 : (0 : Int32).toInt = 0 := by decide
                refine ok_call (s_d_token hF hA (by omega) (by omega)) ?_
                rintro ⟨u_1176, F_1177, A_1178, J_1179⟩ ⟨hF_1177, hA_1178, F_1177_o, A_1178_o, u_1176_p⟩
                dsimp only at hF_1177 hA_1178 F_1177_o A_1178_o u_1176_p ⊢
                have u_1176_p : (F_1177 10).toInt = (F 10).toInt + 1 := u_1176_p
                have r_1180 : 0 ≤ (F_1177 18).toInt ∧ (F_1177 18).toInt ≤ 1 := hF_1177 18
                have r_1181 : 0 ≤ (F 18).toInt ∧ (F 18).toInt ≤ 1 := hF 18
                have f_1182 : (F_1177 18).toInt = (F 18).toInt := congrArg Int32.toInt (F_1177_o 18 (by decide))
                refine ok_some ?_
                have l_1183 : (1 : Int32).toInt = 1 := by decide
                refine ⟨hF_1177, hA_1178, (fun q hq => (F_1177_o q hq)), (fun q hq => (A_1178_o q hq)), ?_⟩
                exact ⟨by omega, by omega⟩
              · rw [i_nne] at c_1174
                unfold d_sign_95
                have l_1184 : (0 : Int32).toInt = 0 := by decide
                refine ok_call (s_d_token hF hA (by omega) (by omega)) ?_
                rintro ⟨u_1185, F_1186, A_1187, J_1188⟩ ⟨hF_1186, hA_1187, F_1186_o, A_1187_o, u_1185_p⟩
                dsimp only at hF_1186 hA_1187 F_1186_o A_1187_o u_1185_p ⊢
                have u_1185_p : (F_1186 10).toInt = (F 10).toInt + 1 := u_1185_p
                have r_1189 : 0 ≤ (F_1186 18).toInt ∧ (F_1186 18).toInt ≤ 1 := hF_1186 18
                have r_1190 : 0 ≤ (F 18).toInt ∧ (F 18).toInt ≤ 1 := hF 18
                have f_1191 : (F_1186 18).toInt = (F 18).toInt := congrArg Int32.toInt (F_1186_o 18 (by decide))
                refine ok_some ?_
                have l_1192 : (1 : Int32).toInt = 1 := by decide
                refine ⟨hF_1186, hA_1187, (fun q hq => (F_1186_o q hq)), (fun q hq => (A_1187_o q hq)), ?_⟩
                exact ⟨by omega, by omega⟩
          · rw [i_nne] at c_1150
            unfold d_sign_75
            have l_1193 : (47 : Int32).toInt = 47 := by decide
            refine ok_cond (fun c_1194 => ?_) (fun c_1194 => ?_)
            · rw [i_ne] at c_1194
              unfold d_sign_85
              have l_1195 : (60 : Int32).toInt = 60 := by decide
              refine ok_cond (fun c_1196 => ?_) (fun c_1196 => ?_)
              · rw [i_ne] at c_1196
                unfold d_sign_95
                have l_1197 : (0 : Int32).toInt = 0 := by decide
                refine ok_call (s_d_token hF hA (by omega) (by omega)) ?_
                rintro ⟨u_1198, F_1199, A_1200, J_1201⟩ ⟨hF_1199, hA_1200, F_1199_o, A_1200_o, u_1198_p⟩
                dsimp only at hF_1199 hA_1200 F_1199_o A_1200_o u_1198_p ⊢
                have u_1198_p : (F_1199 10).toInt = (F 10).toInt + 1 := u_1198_p
                have r_1202 : 0 ≤ (F_1199 18).toInt ∧ (F_1199 18).toInt ≤ 1 := hF_1199 18
                have r_1203 : 0 ≤ (F 18).toInt ∧ (F 18).toInt ≤ 1 := hF 18
                have f_1204 : (F_1199 18).toInt = (F 18).toInt := congrArg Int32.toInt (F_1199_o 18 (by decide))
                refine ok_some ?_
                have l_1205 : (1 : Int32).toInt = 1 := by decide
                refine ⟨hF_1199, hA_1200, (fun q hq => (F_1199_o q hq)), (fun q hq => (A_1200_o q hq)), ?_⟩
                exact ⟨by omega, by omega⟩
              · rw [i_nne] at c_1196
                unfold d_sign_95
                have l_1206 : (0 : Int32).toInt = 0 := by decide
                refine ok_call (s_d_token hF hA (by omega) (by omega)) ?_
                rintro ⟨u_1207, F_1208, A_1209, J_1210⟩ ⟨hF_1208, hA_1209, F_1208_o, A_1209_o, u_1207_p⟩
                dsimp only at hF_1208 hA_1209 F_1208_o A_1209_o u_1207_p ⊢
                have u_1207_p : (F_1208 10).toInt = (F 10).toInt + 1 := u_1207_p
                have r_1211 : 0 ≤ (F_1208 18).toInt ∧ (F_1208 18).toInt ≤ 1 := hF_1208 18
                have r_1212 : 0 ≤ (F 18).toInt ∧ (F 18).toInt ≤ 1 := hF 18
                have f_1213 : (F_1208 18).toInt = (F 18).toInt := congrArg Int32.toInt (F_1208_o 18 (by decide))
                refine ok_some ?_
                have l_1214 : (1 : Int32).toInt = 1 := by decide
                refine ⟨hF_1208, hA_1209, (fun q hq => (F_1208_o q hq)), (fun q hq => (A_1209_o q hq)), ?_⟩
                exact ⟨by omega, by omega⟩
            · rw [i_nne] at c_1194
              unfold d_sign_85
              have l_1215 : (60 : Int32).toInt = 60 := by decide
              refine ok_cond (fun c_1216 => ?_) (fun c_1216 => ?_)
              · rw [i_ne] at c_1216
                unfold d_sign_95
                have l_1217 : (0 : Int32).toInt = 0 := by decide
                refine ok_call (s_d_token hF hA (by omega) (by omega)) ?_
                rintro ⟨u_1218, F_1219, A_1220, J_1221⟩ ⟨hF_1219, hA_1220, F_1219_o, A_1220_o, u_1218_p⟩
                dsimp only at hF_1219 hA_1220 F_1219_o A_1220_o u_1218_p ⊢
                have u_1218_p : (F_1219 10).toInt = (F 10).toInt + 1 := u_1218_p
                have r_1222 : 0 ≤ (F_1219 18).toInt ∧ (F_1219 18).toInt ≤ 1 := hF_1219 18
                have r_1223 : 0 ≤ (F 18).toInt ∧ (F 18).toInt ≤ 1 := hF 18
                have f_1224 : (F_1219 18).toInt = (F 18).toInt := congrArg Int32.toInt (F_1219_o 18 (by decide))
                refine ok_some ?_
                have l_1225 : (1 : Int32).toInt = 1 := by decide
                refine ⟨hF_1219, hA_1220, (fun q hq => (F_1219_o q hq)), (fun q hq => (A_1220_o q hq)), ?_⟩
                exact ⟨by omega, by omega⟩
              · rw [i_nne] at c_1216
                unfold d_sign_95
                have l_1226 : (0 : Int32).toInt = 0 := by decide
                refine ok_call (s_d_token hF hA (by omega) (by omega)) ?_
                rintro ⟨u_1227, F_1228, A_1229, J_1230⟩ ⟨hF_1228, hA_1229, F_1228_o, A_1229_o, u_1227_p⟩
                dsimp only at hF_1228 hA_1229 F_1228_o A_1229_o u_1227_p ⊢
                have u_1227_p : (F_1228 10).toInt = (F 10).toInt + 1 := u_1227_p
                have r_1231 : 0 ≤ (F_1228 18).toInt ∧ (F_1228 18).toInt ≤ 1 := hF_1228 18
                have r_1232 : 0 ≤ (F 18).toInt ∧ (F 18).toInt ≤ 1 := hF 18
                have f_1233 : (F_1228 18).toInt = (F 18).toInt := congrArg Int32.toInt (F_1228_o 18 (by decide))
                refine ok_some ?_
                have l_1234 : (1 : Int32).toInt = 1 := by decide
                refine ⟨hF_1228, hA_1229, (fun q hq => (F_1228_o q hq)), (fun q hq => (A_1229_o q hq)), ?_⟩
                exact ⟨by omega, by omega⟩
      · rw [i_nne] at c_1060
        unfold d_sign_55
        have l_1235 : (45 : Int32).toInt = 45 := by decide
        refine ok_cond (fun c_1236 => ?_) (fun c_1236 => ?_)
        · rw [i_ne] at c_1236
          unfold d_sign_65
          have l_1237 : (42 : Int32).toInt = 42 := by decide
          refine ok_cond (fun c_1238 => ?_) (fun c_1238 => ?_)
          · rw [i_ne] at c_1238
            unfold d_sign_75
            have l_1239 : (47 : Int32).toInt = 47 := by decide
            refine ok_cond (fun c_1240 => ?_) (fun c_1240 => ?_)
            · rw [i_ne] at c_1240
              unfold d_sign_85
              have l_1241 : (60 : Int32).toInt = 60 := by decide
              refine ok_cond (fun c_1242 => ?_) (fun c_1242 => ?_)
              · rw [i_ne] at c_1242
                unfold d_sign_95
                have l_1243 : (0 : Int32).toInt = 0 := by decide
                refine ok_call (s_d_token hF hA (by omega) (by omega)) ?_
                rintro ⟨u_1244, F_1245, A_1246, J_1247⟩ ⟨hF_1245, hA_1246, F_1245_o, A_1246_o, u_1244_p⟩
                dsimp only at hF_1245 hA_1246 F_1245_o A_1246_o u_1244_p ⊢
                have u_1244_p : (F_1245 10).toInt = (F 10).toInt + 1 := u_1244_p
                have r_1248 : 0 ≤ (F_1245 18).toInt ∧ (F_1245 18).toInt ≤ 1 := hF_1245 18
                have r_1249 : 0 ≤ (F 18).toInt ∧ (F 18).toInt ≤ 1 := hF 18
                have f_1250 : (F_1245 18).toInt = (F 18).toInt := congrArg Int32.toInt (F_1245_o 18 (by decide))
                refine ok_some ?_
                have l_1251 : (1 : Int32).toInt = 1 := by decide
                refine ⟨hF_1245, hA_1246, (fun q hq => (F_1245_o q hq)), (fun q hq => (A_1246_o q hq)), ?_⟩
                exact ⟨by omega, by omega⟩
              · rw [i_nne] at c_1242
                unfold d_sign_95
                have l_1252 : (0 : Int32).toInt = 0 := by decide
                refine ok_call (s_d_token hF hA (by omega) (by omega)) ?_
                rintro ⟨u_1253, F_1254, A_1255, J_1256⟩ ⟨hF_1254, hA_1255, F_1254_o, A_1255_o, u_1253_p⟩
                dsimp only at hF_1254 hA_1255 F_1254_o A_1255_o u_1253_p ⊢
                have u_1253_p : (F_1254 10).toInt = (F 10).toInt + 1 := u_1253_p
                have r_1257 : 0 ≤ (F_1254 18).toInt ∧ (F_1254 18).toInt ≤ 1 := hF_1254 18
                have r_1258 : 0 ≤ (F 18).toInt ∧ (F 18).toInt ≤ 1 := hF 18
                have f_1259 : (F_1254 18).toInt = (F 18).toInt := congrArg Int32.toInt (F_1254_o 18 (by decide))
                refine ok_some ?_
                have l_1260 : (1 : Int32).toInt = 1 := by decide
                refine ⟨hF_1254, hA_1255, (fun q hq => (F_1254_o q hq)), (fun q hq => (A_1255_o q hq)), ?_⟩
                exact ⟨by omega, by omega⟩
            · rw [i_nne] at c_1240
              unfold d_sign_85
              have l_1261 : (60 : Int32).toInt = 60 := by decide
              refine ok_cond (fun c_1262 => ?_) (fun c_1262 => ?_)
              · rw [i_ne] at c_1262
                unfold d_sign_95
                have l_1263 : (0 : Int32).toInt = 0 := by decide
                refine ok_call (s_d_token hF hA (by omega) (by omega)) ?_
                rintro ⟨u_1264, F_1265, A_1266, J_1267⟩ ⟨hF_1265, hA_1266, F_1265_o, A_1266_o, u_1264_p⟩
                dsimp only at hF_1265 hA_1266 F_1265_o A_1266_o u_1264_p ⊢
                have u_1264_p : (F_1265 10).toInt = (F 10).toInt + 1 := u_1264_p
                have r_1268 : 0 ≤ (F_1265 18).toInt ∧ (F_1265 18).toInt ≤ 1 := hF_1265 18
                have r_1269 : 0 ≤ (F 18).toInt ∧ (F 18).toInt ≤ 1 := hF 18
                have f_1270 : (F_1265 18).toInt = (F 18).toInt := congrArg Int32.toInt (F_1265_o 18 (by decide))
                refine ok_some ?_
                have l_1271 : (1 : Int32).toInt = 1 := by decide
                refine ⟨hF_1265, hA_1266, (fun q hq => (F_1265_o q hq)), (fun q hq => (A_1266_o q hq)), ?_⟩
                exact ⟨by omega, by omega⟩
              · rw [i_nne] at c_1262
                unfold d_sign_95
                have l_1272 : (0 : Int32).toInt = 0 := by decide
                refine ok_call (s_d_token hF hA (by omega) (by omega)) ?_
                rintro ⟨u_1273, F_1274, A_1275, J_1276⟩ ⟨hF_1274, hA_1275, F_1274_o, A_1275_o, u_1273_p⟩
                dsimp only at hF_1274 hA_1275 F_1274_o A_1275_o u_1273_p ⊢
                have u_1273_p : (F_1274 10).toInt = (F 10).toInt + 1 := u_1273_p
                have r_1277 : 0 ≤ (F_1274 18).toInt ∧ (F_1274 18).toInt ≤ 1 := hF_1274 18
                have r_1278 : 0 ≤ (F 18).toInt ∧ (F 18).toInt ≤ 1 := hF 18
                have f_1279 : (F_1274 18).toInt = (F 18).toInt := congrArg Int32.toInt (F_1274_o 18 (by decide))
                refine ok_some ?_
                have l_1280 : (1 : Int32).toInt = 1 := by decide
                refine ⟨hF_1274, hA_1275, (fun q hq => (F_1274_o q hq)), (fun q hq => (A_1275_o q hq)), ?_⟩
                exact ⟨by omega, by omega⟩
          · rw [i_nne] at c_1238
            unfold d_sign_75
            have l_1281 : (47 : Int32).toInt = 47 := by decide
            refine ok_cond (fun c_1282 => ?_) (fun c_1282 => ?_)
            · rw [i_ne] at c_1282
              unfold d_sign_85
              have l_1283 : (60 : Int32).toInt = 60 := by decide
              refine ok_cond (fun c_1284 => ?_) (fun c_1284 => ?_)
              · rw [i_ne] at c_1284
                unfold d_sign_95
                have l_1285 : (0 : Int32).toInt = 0 := by decide
                refine ok_call (s_d_token hF hA (by omega) (by omega)) ?_
                rintro ⟨u_1286, F_1287, A_1288, J_1289⟩ ⟨hF_1287, hA_1288, F_1287_o, A_1288_o, u_1286_p⟩
                dsimp only at hF_1287 hA_1288 F_1287_o A_1288_o u_1286_p ⊢
                have u_1286_p : (F_1287 10).toInt = (F 10).toInt + 1 := u_1286_p
                have r_1290 : 0 ≤ (F_1287 18).toInt ∧ (F_1287 18).toInt ≤ 1 := hF_1287 18
                have r_1291 : 0 ≤ (F 18).toInt ∧ (F 18).toInt ≤ 1 := hF 18
                have f_1292 : (F_1287 18).toInt = (F 18).toInt := congrArg Int32.toInt (F_1287_o 18 (by decide))
                refine ok_some ?_
                have l_1293 : (1 : Int32).toInt = 1 := by decide
                refine ⟨hF_1287, hA_1288, (fun q hq => (F_1287_o q hq)), (fun q hq => (A_1288_o q hq)), ?_⟩
                exact ⟨by omega, by omega⟩
              · rw [i_nne] at c_1284
                unfold d_sign_95
                have l_1294 : (0 : Int32).toInt = 0 := by decide
                refine ok_call (s_d_token hF hA (by omega) (by omega)) ?_
                rintro ⟨u_1295, F_1296, A_1297, J_1298⟩ ⟨hF_1296, hA_1297, F_1296_o, A_1297_o, u_1295_p⟩
                dsimp only at hF_1296 hA_1297 F_1296_o A_1297_o u_1295_p ⊢
                have u_1295_p : (F_1296 10).toInt = (F 10).toInt + 1 := u_1295_p
                have r_1299 : 0 ≤ (F_1296 18).toInt ∧ (F_1296 18).toInt ≤ 1 := hF_1296 18
                have r_1300 : 0 ≤ (F 18).toInt ∧ (F 18).toInt ≤ 1 := hF 18
                have f_1301 : (F_1296 18).toInt = (F 18).toInt := congrArg Int32.toInt (F_1296_o 18 (by decide))
                refine ok_some ?_
                have l_1302 : (1 : Int32).toInt = 1 := by decide
                refine ⟨hF_1296, hA_1297, (fun q hq => (F_1296_o q hq)), (fun q hq => (A_1297_o q hq)), ?_⟩
                exact ⟨by omega, by omega⟩
            · rw [i_nne] at c_1282
              unfold d_sign_85
              have l_1303 : (60 : Int32).toInt = 60 := by decide
              refine ok_cond (fun c_1304 => ?_) (fun c_1304 => ?_)
              · rw [i_ne] at c_1304
                unfold d_sign_95
                have l_1305 : (0 : Int32).toInt = 0 := by decide
                refine ok_call (s_d_token hF hA (by omega) (by omega)) ?_
                rintro ⟨u_1306, F_1307, A_1308, J_1309⟩ ⟨hF_1307, hA_1308, F_1307_o, A_1308_o, u_1306_p⟩
                dsimp only at hF_1307 hA_1308 F_1307_o A_1308_o u_1306_p ⊢
                have u_1306_p : (F_1307 10).toInt = (F 10).toInt + 1 := u_1306_p
                have r_1310 : 0 ≤ (F_1307 18).toInt ∧ (F_1307 18).toInt ≤ 1 := hF_1307 18
                have r_1311 : 0 ≤ (F 18).toInt ∧ (F 18).toInt ≤ 1 := hF 18
                have f_1312 : (F_1307 18).toInt = (F 18).toInt := congrArg Int32.toInt (F_1307_o 18 (by decide))
                refine ok_some ?_
                have l_1313 : (1 : Int32).toInt = 1 := by decide
                refine ⟨hF_1307, hA_1308, (fun q hq => (F_1307_o q hq)), (fun q hq => (A_1308_o q hq)), ?_⟩
                exact ⟨by omega, by omega⟩
              · rw [i_nne] at c_1304
                unfold d_sign_95
                have l_1314 : (0 : Int32).toInt = 0 := by decide
                refine ok_call (s_d_token hF hA (by omega) (by omega)) ?_
                rintro ⟨u_1315, F_1316, A_1317, J_1318⟩ ⟨hF_1316, hA_1317, F_1316_o, A_1317_o, u_1315_p⟩
                dsimp only at hF_1316 hA_1317 F_1316_o A_1317_o u_1315_p ⊢
                have u_1315_p : (F_1316 10).toInt = (F 10).toInt + 1 := u_1315_p
                have r_1319 : 0 ≤ (F_1316 18).toInt ∧ (F_1316 18).toInt ≤ 1 := hF_1316 18
                have r_1320 : 0 ≤ (F 18).toInt ∧ (F 18).toInt ≤ 1 := hF 18
                have f_1321 : (F_1316 18).toInt = (F 18).toInt := congrArg Int32.toInt (F_1316_o 18 (by decide))
                refine ok_some ?_
                have l_1322 : (1 : Int32).toInt = 1 := by decide
                refine ⟨hF_1316, hA_1317, (fun q hq => (F_1316_o q hq)), (fun q hq => (A_1317_o q hq)), ?_⟩
                exact ⟨by omega, by omega⟩
        · rw [i_nne] at c_1236
          unfold d_sign_65
          have l_1323 : (42 : Int32).toInt = 42 := by decide
          refine ok_cond (fun c_1324 => ?_) (fun c_1324 => ?_)
          · rw [i_ne] at c_1324
            unfold d_sign_75
            have l_1325 : (47 : Int32).toInt = 47 := by decide
            refine ok_cond (fun c_1326 => ?_) (fun c_1326 => ?_)
            · rw [i_ne] at c_1326
              unfold d_sign_85
              have l_1327 : (60 : Int32).toInt = 60 := by decide
              refine ok_cond (fun c_1328 => ?_) (fun c_1328 => ?_)
              · rw [i_ne] at c_1328
                unfold d_sign_95
                have l_1329 : (0 : Int32).toInt = 0 := by decide
                refine ok_call (s_d_token hF hA (by omega) (by omega)) ?_
                rintro ⟨u_1330, F_1331, A_1332, J_1333⟩ ⟨hF_1331, hA_1332, F_1331_o, A_1332_o, u_1330_p⟩
                dsimp only at hF_1331 hA_1332 F_1331_o A_1332_o u_1330_p ⊢
                have u_1330_p : (F_1331 10).toInt = (F 10).toInt + 1 := u_1330_p
                have r_1334 : 0 ≤ (F_1331 18).toInt ∧ (F_1331 18).toInt ≤ 1 := hF_1331 18
                have r_1335 : 0 ≤ (F 18).toInt ∧ (F 18).toInt ≤ 1 := hF 18
                have f_1336 : (F_1331 18).toInt = (F 18).toInt := congrArg Int32.toInt (F_1331_o 18 (by decide))
                refine ok_some ?_
                have l_1337 : (1 : Int32).toInt = 1 := by decide
                refine ⟨hF_1331, hA_1332, (fun q hq => (F_1331_o q hq)), (fun q hq => (A_1332_o q hq)), ?_⟩
                exact ⟨by omega, by omega⟩
              · rw [i_nne] at c_1328
                unfold d_sign_95
                have l_1338 : (0 : Int32).toInt = 0 := by decide
                refine ok_call (s_d_token hF hA (by omega) (by omega)) ?_
                rintro ⟨u_1339, F_1340, A_1341, J_1342⟩ ⟨hF_1340, hA_1341, F_1340_o, A_1341_o, u_1339_p⟩
                dsimp only at hF_1340 hA_1341 F_1340_o A_1341_o u_1339_p ⊢
                have u_1339_p : (F_1340 10).toInt = (F 10).toInt + 1 := u_1339_p
                have r_1343 : 0 ≤ (F_1340 18).toInt ∧ (F_1340 18).toInt ≤ 1 := hF_1340 18
                have r_1344 : 0 ≤ (F 18).toInt ∧ (F 18).toInt ≤ 1 := hF 18
                have f_1345 : (F_1340 18).toInt = (F 18).toInt := congrArg Int32.toInt (F_1340_o 18 (by decide))
                refine ok_some ?_
                have l_1346 : (1 : Int32).toInt = 1 := by decide
                refine ⟨hF_1340, hA_1341, (fun q hq => (F_1340_o q hq)), (fun q hq => (A_1341_o q hq)), ?_⟩
                exact ⟨by omega, by omega⟩
            · rw [i_nne] at c_1326
              unfold d_sign_85
              have l_1347 : (60 : Int32).toInt = 60 := by decide
              refine ok_cond (fun c_1348 => ?_) (fun c_1348 => ?_)
              · rw [i_ne] at c_1348
                unfold d_sign_95
                have l_1349 : (0 : Int32).toInt = 0 := by decide
                refine ok_call (s_d_token hF hA (by omega) (by omega)) ?_
                rintro ⟨u_1350, F_1351, A_1352, J_1353⟩ ⟨hF_1351, hA_1352, F_1351_o, A_1352_o, u_1350_p⟩
                dsimp only at hF_1351 hA_1352 F_1351_o A_1352_o u_1350_p ⊢
                have u_1350_p : (F_1351 10).toInt = (F 10).toInt + 1 := u_1350_p
                have r_1354 : 0 ≤ (F_1351 18).toInt ∧ (F_1351 18).toInt ≤ 1 := hF_1351 18
                have r_1355 : 0 ≤ (F 18).toInt ∧ (F 18).toInt ≤ 1 := hF 18
                have f_1356 : (F_1351 18).toInt = (F 18).toInt := congrArg Int32.toInt (F_1351_o 18 (by decide))
                refine ok_some ?_
                have l_1357 : (1 : Int32).toInt = 1 := by decide
                refine ⟨hF_1351, hA_1352, (fun q hq => (F_1351_o q hq)), (fun q hq => (A_1352_o q hq)), ?_⟩
                exact ⟨by omega, by omega⟩
              · rw [i_nne] at c_1348
                unfold d_sign_95
                have l_1358 : (0 : Int32).toInt = 0 := by decide
                refine ok_call (s_d_token hF hA (by omega) (by omega)) ?_
                rintro ⟨u_1359, F_1360, A_1361, J_1362⟩ ⟨hF_1360, hA_1361, F_1360_o, A_1361_o, u_1359_p⟩
                dsimp only at hF_1360 hA_1361 F_1360_o A_1361_o u_1359_p ⊢
                have u_1359_p : (F_1360 10).toInt = (F 10).toInt + 1 := u_1359_p
                have r_1363 : 0 ≤ (F_1360 18).toInt ∧ (F_1360 18).toInt ≤ 1 := hF_1360 18
                have r_1364 : 0 ≤ (F 18).toInt ∧ (F 18).toInt ≤ 1 := hF 18
                have f_1365 : (F_1360 18).toInt = (F 18).toInt := congrArg Int32.toInt (F_1360_o 18 (by decide))
                refine ok_some ?_
                have l_1366 : (1 : Int32).toInt = 1 := by decide
                refine ⟨hF_1360, hA_1361, (fun q hq => (F_1360_o q hq)), (fun q hq => (A_1361_o q hq)), ?_⟩
                exact ⟨by omega, by omega⟩
          · rw [i_nne] at c_1324
            unfold d_sign_75
            have l_1367 : (47 : Int32).toInt = 47 := by decide
            refine ok_cond (fun c_1368 => ?_) (fun c_1368 => ?_)
            · rw [i_ne] at c_1368
              unfold d_sign_85
              have l_1369 : (60 : Int32).toInt = 60 := by decide
              refine ok_cond (fun c_1370 => ?_) (fun c_1370 => ?_)
              · rw [i_ne] at c_1370
                unfold d_sign_95
                have l_1371 : (0 : Int32).toInt = 0 := by decide
                refine ok_call (s_d_token hF hA (by omega) (by omega)) ?_
                rintro ⟨u_1372, F_1373, A_1374, J_1375⟩ ⟨hF_1373, hA_1374, F_1373_o, A_1374_o, u_1372_p⟩
                dsimp only at hF_1373 hA_1374 F_1373_o A_1374_o u_1372_p ⊢
                have u_1372_p : (F_1373 10).toInt = (F 10).toInt + 1 := u_1372_p
                have r_1376 : 0 ≤ (F_1373 18).toInt ∧ (F_1373 18).toInt ≤ 1 := hF_1373 18
                have r_1377 : 0 ≤ (F 18).toInt ∧ (F 18).toInt ≤ 1 := hF 18
                have f_1378 : (F_1373 18).toInt = (F 18).toInt := congrArg Int32.toInt (F_1373_o 18 (by decide))
                refine ok_some ?_
                have l_1379 : (1 : Int32).toInt = 1 := by decide
                refine ⟨hF_1373, hA_1374, (fun q hq => (F_1373_o q hq)), (fun q hq => (A_1374_o q hq)), ?_⟩
                exact ⟨by omega, by omega⟩
              · rw [i_nne] at c_1370
                unfold d_sign_95
                have l_1380 : (0 : Int32).toInt = 0 := by decide
                refine ok_call (s_d_token hF hA (by omega) (by omega)) ?_
                rintro ⟨u_1381, F_1382, A_1383, J_1384⟩ ⟨hF_1382, hA_1383, F_1382_o, A_1383_o, u_1381_p⟩
                dsimp only at hF_1382 hA_1383 F_1382_o A_1383_o u_1381_p ⊢
                have u_1381_p : (F_1382 10).toInt = (F 10).toInt + 1 := u_1381_p
                have r_1385 : 0 ≤ (F_1382 18).toInt ∧ (F_1382 18).toInt ≤ 1 := hF_1382 18
                have r_1386 : 0 ≤ (F 18).toInt ∧ (F 18).toInt ≤ 1 := hF 18
                have f_1387 : (F_1382 18).toInt = (F 18).toInt := congrArg Int32.toInt (F_1382_o 18 (by decide))
                refine ok_some ?_
                have l_1388 : (1 : Int32).toInt = 1 := by decide
                refine ⟨hF_1382, hA_1383, (fun q hq => (F_1382_o q hq)), (fun q hq => (A_1383_o q hq)), ?_⟩
                exact ⟨by omega, by omega⟩
            · rw [i_nne] at c_1368
              unfold d_sign_85
              have l_1389 : (60 : Int32).toInt = 60 := by decide
              refine ok_cond (fun c_1390 => ?_) (fun c_1390 => ?_)
              · rw [i_ne] at c_1390
                unfold d_sign_95
                have l_1391 : (0 : Int32).toInt = 0 := by decide
                refine ok_call (s_d_token hF hA (by omega) (by omega)) ?_
                rintro ⟨u_1392, F_1393, A_1394, J_1395⟩ ⟨hF_1393, hA_1394, F_1393_o, A_1394_o, u_1392_p⟩
                dsimp only at hF_1393 hA_1394 F_1393_o A_1394_o u_1392_p ⊢
                have u_1392_p : (F_1393 10).toInt = (F 10).toInt + 1 := u_1392_p
                have r_1396 : 0 ≤ (F_1393 18).toInt ∧ (F_1393 18).toInt ≤ 1 := hF_1393 18
                have r_1397 : 0 ≤ (F 18).toInt ∧ (F 18).toInt ≤ 1 := hF 18
                have f_1398 : (F_1393 18).toInt = (F 18).toInt := congrArg Int32.toInt (F_1393_o 18 (by decide))
                refine ok_some ?_
                have l_1399 : (1 : Int32).toInt = 1 := by decide
                refine ⟨hF_1393, hA_1394, (fun q hq => (F_1393_o q hq)), (fun q hq => (A_1394_o q hq)), ?_⟩
                exact ⟨by omega, by omega⟩
              · rw [i_nne] at c_1390
                unfold d_sign_95
                have l_1400 : (0 : Int32).toInt = 0 := by decide
                refine ok_call (s_d_token hF hA (by omega) (by omega)) ?_
                rintro ⟨u_1401, F_1402, A_1403, J_1404⟩ ⟨hF_1402, hA_1403, F_1402_o, A_1403_o, u_1401_p⟩
                dsimp only at hF_1402 hA_1403 F_1402_o A_1403_o u_1401_p ⊢
                have u_1401_p : (F_1402 10).toInt = (F 10).toInt + 1 := u_1401_p
                have r_1405 : 0 ≤ (F_1402 18).toInt ∧ (F_1402 18).toInt ≤ 1 := hF_1402 18
                have r_1406 : 0 ≤ (F 18).toInt ∧ (F 18).toInt ≤ 1 := hF 18
                have f_1407 : (F_1402 18).toInt = (F 18).toInt := congrArg Int32.toInt (F_1402_o 18 (by decide))
                refine ok_some ?_
                have l_1408 : (1 : Int32).toInt = 1 := by decide
                refine ⟨hF_1402, hA_1403, (fun q hq => (F_1402_o q hq)), (fun q hq => (A_1403_o q hq)), ?_⟩
                exact ⟨by omega, by omega⟩
  · rw [i_nne] at c_2
    unfold d_sign_43
    have l_1409 : (43 : Int32).toInt = 43 := by decide
    refine ok_cond (fun c_1410 => ?_) (fun c_1410 => ?_)
    · rw [i_ne] at c_1410
      unfold d_sign_55
      have l_1411 : (45 : Int32).toInt = 45 := by decide
      refine ok_cond (fun c_1412 => ?_) (fun c_1412 => ?_)
      · rw [i_ne] at c_1412
        unfold d_sign_65
        have l_1413 : (42 : Int32).toInt = 42 := by decide
        refine ok_cond (fun c_1414 => ?_) (fun c_1414 => ?_)
        · rw [i_ne] at c_1414
          unfold d_sign_75
          have l_1415 : (47 : Int32).toInt = 47 := by decide
          refine ok_cond (fun c_1416 => ?_) (fun c_1416 => ?_)
          · rw [i_ne] at c_1416
            unfold d_sign_85
            have l_1417 : (60 : Int32).toInt = 60 := by decide
            refine ok_cond (fun c_1418 => ?_) (fun c_1418 => ?_)
            · rw [i_ne] at c_1418
              unfold d_sign_95
              have l_1419 : (0 : Int32).toInt = 0 := by decide
              refine ok_call (s_d_token hF hA (by omega) (by omega)) ?_
              rintro ⟨u_1420, F_1421, A_1422, J_1423⟩ ⟨hF_1421, hA_1422, F_1421_o, A_1422_o, u_1420_p⟩
              dsimp only at hF_1421 hA_1422 F_1421_o A_1422_o u_1420_p ⊢
              have u_1420_p : (F_1421 10).toInt = (F 10).toInt + 1 := u_1420_p
              have r_1424 : 0 ≤ (F_1421 18).toInt ∧ (F_1421 18).toInt ≤ 1 := hF_1421 18
              have r_1425 : 0 ≤ (F 18).toInt ∧ (F 18).toInt ≤ 1 := hF 18
              have f_1426 : (F_1421 18).toInt = (F 18).toInt := congrArg Int32.toInt (F_1421_o 18 (by decide))
              refine ok_some ?_
              have l_1427 : (1 : Int32).toInt = 1 := by decide
              refine ⟨hF_1421, hA_1422, (fun q hq => (F_1421_o q hq)), (fun q hq => (A_1422_o q hq)), ?_⟩
              exact ⟨by omega, by omega⟩
            · rw [i_nne] at c_1418
              unfold d_sign_95
              have l_1428 : (0 : Int32).toInt = 0 := by decide
              refine ok_call (s_d_token hF hA (by omega) (by omega)) ?_
              rintro ⟨u_1429, F_1430, A_1431, J_1432⟩ ⟨hF_1430, hA_1431, F_1430_o, A_1431_o, u_1429_p⟩
              dsimp only at hF_1430 hA_1431 F_1430_o A_1431_o u_1429_p ⊢
              have u_1429_p : (F_1430 10).toInt = (F 10).toInt + 1 := u_1429_p
              have r_1433 : 0 ≤ (F_1430 18).toInt ∧ (F_1430 18).toInt ≤ 1 := hF_1430 18
              have r_1434 : 0 ≤ (F 18).toInt ∧ (F 18).toInt ≤ 1 := hF 18
              have f_1435 : (F_1430 18).toInt = (F 18).toInt := congrArg Int32.toInt (F_1430_o 18 (by decide))
              refine ok_some ?_
              have l_1436 : (1 : Int32).toInt = 1 := by decide
              refine ⟨hF_1430, hA_1431, (fun q hq => (F_1430_o q hq)), (fun q hq => (A_1431_o q hq)), ?_⟩
              exact ⟨by omega, by omega⟩
          · rw [i_nne] at c_1416
            unfold d_sign_85
            have l_1437 : (60 : Int32).toInt = 60 := by decide
            refine ok_cond (fun c_1438 => ?_) (fun c_1438 => ?_)
            · rw [i_ne] at c_1438
              unfold d_sign_95
              have l_1439 : (0 : Int32).toInt = 0 := by decide
              refine ok_call (s_d_token hF hA (by omega) (by omega)) ?_
              rintro ⟨u_1440, F_1441, A_1442, J_1443⟩ ⟨hF_1441, hA_1442, F_1441_o, A_1442_o, u_1440_p⟩
              dsimp only at hF_1441 hA_1442 F_1441_o A_1442_o u_1440_p ⊢
              have u_1440_p : (F_1441 10).toInt = (F 10).toInt + 1 := u_1440_p
              have r_1444 : 0 ≤ (F_1441 18).toInt ∧ (F_1441 18).toInt ≤ 1 := hF_1441 18
              have r_1445 : 0 ≤ (F 18).toInt ∧ (F 18).toInt ≤ 1 := hF 18
              have f_1446 : (F_1441 18).toInt = (F 18).toInt := congrArg Int32.toInt (F_1441_o 18 (by decide))
              refine ok_some ?_
              have l_1447 : (1 : Int32).toInt = 1 := by decide
              refine ⟨hF_1441, hA_1442, (fun q hq => (F_1441_o q hq)), (fun q hq => (A_1442_o q hq)), ?_⟩
              exact ⟨by omega, by omega⟩
            · rw [i_nne] at c_1438
              unfold d_sign_95
              have l_1448 : (0 : Int32).toInt = 0 := by decide
              refine ok_call (s_d_token hF hA (by omega) (by omega)) ?_
              rintro ⟨u_1449, F_1450, A_1451, J_1452⟩ ⟨hF_1450, hA_1451, F_1450_o, A_1451_o, u_1449_p⟩
              dsimp only at hF_1450 hA_1451 F_1450_o A_1451_o u_1449_p ⊢
              have u_1449_p : (F_1450 10).toInt = (F 10).toInt + 1 := u_1449_p
              have r_1453 : 0 ≤ (F_1450 18).toInt ∧ (F_1450 18).toInt ≤ 1 := hF_1450 18
              have r_1454 : 0 ≤ (F 18).toInt ∧ (F 18).toInt ≤ 1 := hF 18
              have f_1455 : (F_1450 18).toInt = (F 18).toInt := congrArg Int32.toInt (F_1450_o 18 (by decide))
              refine ok_some ?_
              have l_1456 : (1 : Int32).toInt = 1 := by decide
              refine ⟨hF_1450, hA_1451, (fun q hq => (F_1450_o q hq)), (fun q hq => (A_1451_o q hq)), ?_⟩
              exact ⟨by omega, by omega⟩
        · rw [i_nne] at c_1414
          unfold d_sign_75
          have l_1457 : (47 : Int32).toInt = 47 := by decide
          refine ok_cond (fun c_1458 => ?_) (fun c_1458 => ?_)
          · rw [i_ne] at c_1458
            unfold d_sign_85
            have l_1459 : (60 : Int32).toInt = 60 := by decide
            refine ok_cond (fun c_1460 => ?_) (fun c_1460 => ?_)
            · rw [i_ne] at c_1460
              unfold d_sign_95
              have l_1461 : (0 : Int32).toInt = 0 := by decide
              refine ok_call (s_d_token hF hA (by omega) (by omega)) ?_
              rintro ⟨u_1462, F_1463, A_1464, J_1465⟩ ⟨hF_1463, hA_1464, F_1463_o, A_1464_o, u_1462_p⟩
              dsimp only at hF_1463 hA_1464 F_1463_o A_1464_o u_1462_p ⊢
              have u_1462_p : (F_1463 10).toInt = (F 10).toInt + 1 := u_1462_p
              have r_1466 : 0 ≤ (F_1463 18).toInt ∧ (F_1463 18).toInt ≤ 1 := hF_1463 18
              have r_1467 : 0 ≤ (F 18).toInt ∧ (F 18).toInt ≤ 1 := hF 18
              have f_1468 : (F_1463 18).toInt = (F 18).toInt := congrArg Int32.toInt (F_1463_o 18 (by decide))
              refine ok_some ?_
              have l_1469 : (1 : Int32).toInt = 1 := by decide
              refine ⟨hF_1463, hA_1464, (fun q hq => (F_1463_o q hq)), (fun q hq => (A_1464_o q hq)), ?_⟩
              exact ⟨by omega, by omega⟩
            · rw [i_nne] at c_1460
              unfold d_sign_95
              have l_1470 : (0 : Int32).toInt = 0 := by decide
              refine ok_call (s_d_token hF hA (by omega) (by omega)) ?_
              rintro ⟨u_1471, F_1472, A_1473, J_1474⟩ ⟨hF_1472, hA_1473, F_1472_o, A_1473_o, u_1471_p⟩
              dsimp only at hF_1472 hA_1473 F_1472_o A_1473_o u_1471_p ⊢
              have u_1471_p : (F_1472 10).toInt = (F 10).toInt + 1 := u_1471_p
              have r_1475 : 0 ≤ (F_1472 18).toInt ∧ (F_1472 18).toInt ≤ 1 := hF_1472 18
              have r_1476 : 0 ≤ (F 18).toInt ∧ (F 18).toInt ≤ 1 := hF 18
              have f_1477 : (F_1472 18).toInt = (F 18).toInt := congrArg Int32.toInt (F_1472_o 18 (by decide))
              refine ok_some ?_
              have l_1478 : (1 : Int32).toInt = 1 := by decide
              refine ⟨hF_1472, hA_1473, (fun q hq => (F_1472_o q hq)), (fun q hq => (A_1473_o q hq)), ?_⟩
              exact ⟨by omega, by omega⟩
          · rw [i_nne] at c_1458
            unfold d_sign_85
            have l_1479 : (60 : Int32).toInt = 60 := by decide
            refine ok_cond (fun c_1480 => ?_) (fun c_1480 => ?_)
            · rw [i_ne] at c_1480
              unfold d_sign_95
              have l_1481 : (0 : Int32).toInt = 0 := by decide
              refine ok_call (s_d_token hF hA (by omega) (by omega)) ?_
              rintro ⟨u_1482, F_1483, A_1484, J_1485⟩ ⟨hF_1483, hA_1484, F_1483_o, A_1484_o, u_1482_p⟩
              dsimp only at hF_1483 hA_1484 F_1483_o A_1484_o u_1482_p ⊢
              have u_1482_p : (F_1483 10).toInt = (F 10).toInt + 1 := u_1482_p
              have r_1486 : 0 ≤ (F_1483 18).toInt ∧ (F_1483 18).toInt ≤ 1 := hF_1483 18
              have r_1487 : 0 ≤ (F 18).toInt ∧ (F 18).toInt ≤ 1 := hF 18
              have f_1488 : (F_1483 18).toInt = (F 18).toInt := congrArg Int32.toInt (F_1483_o 18 (by decide))
              refine ok_some ?_
              have l_1489 : (1 : Int32).toInt = 1 := by decide
              refine ⟨hF_1483, hA_1484, (fun q hq => (F_1483_o q hq)), (fun q hq => (A_1484_o q hq)), ?_⟩
              exact ⟨by omega, by omega⟩
            · rw [i_nne] at c_1480
              unfold d_sign_95
              have l_1490 : (0 : Int32).toInt = 0 := by decide
              refine ok_call (s_d_token hF hA (by omega) (by omega)) ?_
              rintro ⟨u_1491, F_1492, A_1493, J_1494⟩ ⟨hF_1492, hA_1493, F_1492_o, A_1493_o, u_1491_p⟩
              dsimp only at hF_1492 hA_1493 F_1492_o A_1493_o u_1491_p ⊢
              have u_1491_p : (F_1492 10).toInt = (F 10).toInt + 1 := u_1491_p
              have r_1495 : 0 ≤ (F_1492 18).toInt ∧ (F_1492 18).toInt ≤ 1 := hF_1492 18
              have r_1496 : 0 ≤ (F 18).toInt ∧ (F 18).toInt ≤ 1 := hF 18
              have f_1497 : (F_1492 18).toInt = (F 18).toInt := congrArg Int32.toInt (F_1492_o 18 (by decide))
              refine ok_some ?_
              have l_1498 : (1 : Int32).toInt = 1 := by decide
              refine ⟨hF_1492, hA_1493, (fun q hq => (F_1492_o q hq)), (fun q hq => (A_1493_o q hq)), ?_⟩
              exact ⟨by omega, by omega⟩
      · rw [i_nne] at c_1412
        unfold d_sign_65
        have l_1499 : (42 : Int32).toInt = 42 := by decide
        refine ok_cond (fun c_1500 => ?_) (fun c_1500 => ?_)
        · rw [i_ne] at c_1500
          unfold d_sign_75
          have l_1501 : (47 : Int32).toInt = 47 := by decide
          refine ok_cond (fun c_1502 => ?_) (fun c_1502 => ?_)
          · rw [i_ne] at c_1502
            unfold d_sign_85
            have l_1503 : (60 : Int32).toInt = 60 := by decide
            refine ok_cond (fun c_1504 => ?_) (fun c_1504 => ?_)
            · rw [i_ne] at c_1504
              unfold d_sign_95
              have l_1505 : (0 : Int32).toInt = 0 := by decide
              refine ok_call (s_d_token hF hA (by omega) (by omega)) ?_
              rintro ⟨u_1506, F_1507, A_1508, J_1509⟩ ⟨hF_1507, hA_1508, F_1507_o, A_1508_o, u_1506_p⟩
              dsimp only at hF_1507 hA_1508 F_1507_o A_1508_o u_1506_p ⊢
              have u_1506_p : (F_1507 10).toInt = (F 10).toInt + 1 := u_1506_p
              have r_1510 : 0 ≤ (F_1507 18).toInt ∧ (F_1507 18).toInt ≤ 1 := hF_1507 18
              have r_1511 : 0 ≤ (F 18).toInt ∧ (F 18).toInt ≤ 1 := hF 18
              have f_1512 : (F_1507 18).toInt = (F 18).toInt := congrArg Int32.toInt (F_1507_o 18 (by decide))
              refine ok_some ?_
              have l_1513 : (1 : Int32).toInt = 1 := by decide
              refine ⟨hF_1507, hA_1508, (fun q hq => (F_1507_o q hq)), (fun q hq => (A_1508_o q hq)), ?_⟩
              exact ⟨by omega, by omega⟩
            · rw [i_nne] at c_1504
              unfold d_sign_95
              have l_1514 : (0 : Int32).toInt = 0 := by decide
              refine ok_call (s_d_token hF hA (by omega) (by omega)) ?_
              rintro ⟨u_1515, F_1516, A_1517, J_1518⟩ ⟨hF_1516, hA_1517, F_1516_o, A_1517_o, u_1515_p⟩
              dsimp only at hF_1516 hA_1517 F_1516_o A_1517_o u_1515_p ⊢
              have u_1515_p : (F_1516 10).toInt = (F 10).toInt + 1 := u_1515_p
              have r_1519 : 0 ≤ (F_1516 18).toInt ∧ (F_1516 18).toInt ≤ 1 := hF_1516 18
              have r_1520 : 0 ≤ (F 18).toInt ∧ (F 18).toInt ≤ 1 := hF 18
              have f_1521 : (F_1516 18).toInt = (F 18).toInt := congrArg Int32.toInt (F_1516_o 18 (by decide))
              refine ok_some ?_
              have l_1522 : (1 : Int32).toInt = 1 := by decide
              refine ⟨hF_1516, hA_1517, (fun q hq => (F_1516_o q hq)), (fun q hq => (A_1517_o q hq)), ?_⟩
              exact ⟨by omega, by omega⟩
          · rw [i_nne] at c_1502
            unfold d_sign_85
            have l_1523 : (60 : Int32).toInt = 60 := by decide
            refine ok_cond (fun c_1524 => ?_) (fun c_1524 => ?_)
            · rw [i_ne] at c_1524
              unfold d_sign_95
              have l_1525 : (0 : Int32).toInt = 0 := by decide
              refine ok_call (s_d_token hF hA (by omega) (by omega)) ?_
              rintro ⟨u_1526, F_1527, A_1528, J_1529⟩ ⟨hF_1527, hA_1528, F_1527_o, A_1528_o, u_1526_p⟩
              dsimp only at hF_1527 hA_1528 F_1527_o A_1528_o u_1526_p ⊢
              have u_1526_p : (F_1527 10).toInt = (F 10).toInt + 1 := u_1526_p
              have r_1530 : 0 ≤ (F_1527 18).toInt ∧ (F_1527 18).toInt ≤ 1 := hF_1527 18
              have r_1531 : 0 ≤ (F 18).toInt ∧ (F 18).toInt ≤ 1 := hF 18
              have f_1532 : (F_1527 18).toInt = (F 18).toInt := congrArg Int32.toInt (F_1527_o 18 (by decide))
              refine ok_some ?_
              have l_1533 : (1 : Int32).toInt = 1 := by decide
              refine ⟨hF_1527, hA_1528, (fun q hq => (F_1527_o q hq)), (fun q hq => (A_1528_o q hq)), ?_⟩
              exact ⟨by omega, by omega⟩
            · rw [i_nne] at c_1524
              unfold d_sign_95
              have l_1534 : (0 : Int32).toInt = 0 := by decide
              refine ok_call (s_d_token hF hA (by omega) (by omega)) ?_
              rintro ⟨u_1535, F_1536, A_1537, J_1538⟩ ⟨hF_1536, hA_1537, F_1536_o, A_1537_o, u_1535_p⟩
              dsimp only at hF_1536 hA_1537 F_1536_o A_1537_o u_1535_p ⊢
              have u_1535_p : (F_1536 10).toInt = (F 10).toInt + 1 := u_1535_p
              have r_1539 : 0 ≤ (F_1536 18).toInt ∧ (F_1536 18).toInt ≤ 1 := hF_1536 18
              have r_1540 : 0 ≤ (F 18).toInt ∧ (F 18).toInt ≤ 1 := hF 18
              have f_1541 : (F_1536 18).toInt = (F 18).toInt := congrArg Int32.toInt (F_1536_o 18 (by decide))
              refine ok_some ?_
              have l_1542 : (1 : Int32).toInt = 1 := by decide
              refine ⟨hF_1536, hA_1537, (fun q hq => (F_1536_o q hq)), (fun q hq => (A_1537_o q hq)), ?_⟩
              exact ⟨by omega, by omega⟩
        · rw [i_nne] at c_1500
          unfold d_sign_75
          have l_1543 : (47 : Int32).toInt = 47 := by decide
          refine ok_cond (fun c_1544 => ?_) (fun c_1544 => ?_)
          · rw [i_ne] at c_1544
            unfold d_sign_85
            have l_1545 : (60 : Int32).toInt = 60 := by decide
            refine ok_cond (fun c_1546 => ?_) (fun c_1546 => ?_)
            · rw [i_ne] at c_1546
              unfold d_sign_95
              have l_1547 : (0 : Int32).toInt = 0 := by decide
              refine ok_call (s_d_token hF hA (by omega) (by omega)) ?_
              rintro ⟨u_1548, F_1549, A_1550, J_1551⟩ ⟨hF_1549, hA_1550, F_1549_o, A_1550_o, u_1548_p⟩
              dsimp only at hF_1549 hA_1550 F_1549_o A_1550_o u_1548_p ⊢
              have u_1548_p : (F_1549 10).toInt = (F 10).toInt + 1 := u_1548_p
              have r_1552 : 0 ≤ (F_1549 18).toInt ∧ (F_1549 18).toInt ≤ 1 := hF_1549 18
              have r_1553 : 0 ≤ (F 18).toInt ∧ (F 18).toInt ≤ 1 := hF 18
              have f_1554 : (F_1549 18).toInt = (F 18).toInt := congrArg Int32.toInt (F_1549_o 18 (by decide))
              refine ok_some ?_
              have l_1555 : (1 : Int32).toInt = 1 := by decide
              refine ⟨hF_1549, hA_1550, (fun q hq => (F_1549_o q hq)), (fun q hq => (A_1550_o q hq)), ?_⟩
              exact ⟨by omega, by omega⟩
            · rw [i_nne] at c_1546
              unfold d_sign_95
              have l_1556 : (0 : Int32).toInt = 0 := by decide
              refine ok_call (s_d_token hF hA (by omega) (by omega)) ?_
              rintro ⟨u_1557, F_1558, A_1559, J_1560⟩ ⟨hF_1558, hA_1559, F_1558_o, A_1559_o, u_1557_p⟩
              dsimp only at hF_1558 hA_1559 F_1558_o A_1559_o u_1557_p ⊢
              have u_1557_p : (F_1558 10).toInt = (F 10).toInt + 1 := u_1557_p
              have r_1561 : 0 ≤ (F_1558 18).toInt ∧ (F_1558 18).toInt ≤ 1 := hF_1558 18
              have r_1562 : 0 ≤ (F 18).toInt ∧ (F 18).toInt ≤ 1 := hF 18
              have f_1563 : (F_1558 18).toInt = (F 18).toInt := congrArg Int32.toInt (F_1558_o 18 (by decide))
              refine ok_some ?_
              have l_1564 : (1 : Int32).toInt = 1 := by decide
              refine ⟨hF_1558, hA_1559, (fun q hq => (F_1558_o q hq)), (fun q hq => (A_1559_o q hq)), ?_⟩
              exact ⟨by omega, by omega⟩
          · rw [i_nne] at c_1544
            unfold d_sign_85
            have l_1565 : (60 : Int32).toInt = 60 := by decide
            refine ok_cond (fun c_1566 => ?_) (fun c_1566 => ?_)
            · rw [i_ne] at c_1566
              unfold d_sign_95
              have l_1567 : (0 : Int32).toInt = 0 := by decide
              refine ok_call (s_d_token hF hA (by omega) (by omega)) ?_
              rintro ⟨u_1568, F_1569, A_1570, J_1571⟩ ⟨hF_1569, hA_1570, F_1569_o, A_1570_o, u_1568_p⟩
              dsimp only at hF_1569 hA_1570 F_1569_o A_1570_o u_1568_p ⊢
              have u_1568_p : (F_1569 10).toInt = (F 10).toInt + 1 := u_1568_p
              have r_1572 : 0 ≤ (F_1569 18).toInt ∧ (F_1569 18).toInt ≤ 1 := hF_1569 18
              have r_1573 : 0 ≤ (F 18).toInt ∧ (F 18).toInt ≤ 1 := hF 18
              have f_1574 : (F_1569 18).toInt = (F 18).toInt := congrArg Int32.toInt (F_1569_o 18 (by decide))
              refine ok_some ?_
              have l_1575 : (1 : Int32).toInt = 1 := by decide
              refine ⟨hF_1569, hA_1570, (fun q hq => (F_1569_o q hq)), (fun q hq => (A_1570_o q hq)), ?_⟩
              exact ⟨by omega, by omega⟩
            · rw [i_nne] at c_1566
              unfold d_sign_95
              have l_1576 : (0 : Int32).toInt = 0 := by decide
              refine ok_call (s_d_token hF hA (by omega) (by omega)) ?_
              rintro ⟨u_1577, F_1578, A_1579, J_1580⟩ ⟨hF_1578, hA_1579, F_1578_o, A_1579_o, u_1577_p⟩
              dsimp only at hF_1578 hA_1579 F_1578_o A_1579_o u_1577_p ⊢
              have u_1577_p : (F_1578 10).toInt = (F 10).toInt + 1 := u_1577_p
              have r_1581 : 0 ≤ (F_1578 18).toInt ∧ (F_1578 18).toInt ≤ 1 := hF_1578 18
              have r_1582 : 0 ≤ (F 18).toInt ∧ (F 18).toInt ≤ 1 := hF 18
              have f_1583 : (F_1578 18).toInt = (F 18).toInt := congrArg Int32.toInt (F_1578_o 18 (by decide))
              refine ok_some ?_
              have l_1584 : (1 : Int32).toInt = 1 := by decide
              refine ⟨hF_1578, hA_1579, (fun q hq => (F_1578_o q hq)), (fun q hq => (A_1579_o q hq)), ?_⟩
              exact ⟨by omega, by omega⟩
    · rw [i_nne] at c_1410
      unfold d_sign_55
      have l_1585 : (45 : Int32).toInt = 45 := by decide
      refine ok_cond (fun c_1586 => ?_) (fun c_1586 => ?_)
      · rw [i_ne] at c_1586
        unfold d_sign_65
        have l_1587 : (42 : Int32).toInt = 42 := by decide
        refine ok_cond (fun c_1588 => ?_) (fun c_1588 => ?_)
        · rw [i_ne] at c_1588
          unfold d_sign_75
          have l_1589 : (47 : Int32).toInt = 47 := by decide
          refine ok_cond (fun c_1590 => ?_) (fun c_1590 => ?_)
          · rw [i_ne] at c_1590
            unfold d_sign_85
            have l_1591 : (60 : Int32).toInt = 60 := by decide
            refine ok_cond (fun c_1592 => ?_) (fun c_1592 => ?_)
            · rw [i_ne] at c_1592
              unfold d_sign_95
              have l_1593 : (0 : Int32).toInt = 0 := by decide
              refine ok_call (s_d_token hF hA (by omega) (by omega)) ?_
              rintro ⟨u_1594, F_1595, A_1596, J_1597⟩ ⟨hF_1595, hA_1596, F_1595_o, A_1596_o, u_1594_p⟩
              dsimp only at hF_1595 hA_1596 F_1595_o A_1596_o u_1594_p ⊢
              have u_1594_p : (F_1595 10).toInt = (F 10).toInt + 1 := u_1594_p
              have r_1598 : 0 ≤ (F_1595 18).toInt ∧ (F_1595 18).toInt ≤ 1 := hF_1595 18
              have r_1599 : 0 ≤ (F 18).toInt ∧ (F 18).toInt ≤ 1 := hF 18
              have f_1600 : (F_1595 18).toInt = (F 18).toInt := congrArg Int32.toInt (F_1595_o 18 (by decide))
              refine ok_some ?_
              have l_1601 : (1 : Int32).toInt = 1 := by decide
              refine ⟨hF_1595, hA_1596, (fun q hq => (F_1595_o q hq)), (fun q hq => (A_1596_o q hq)), ?_⟩
              exact ⟨by omega, by omega⟩
            · rw [i_nne] at c_1592
              unfold d_sign_95
              have l_1602 : (0 : Int32).toInt = 0 := by decide
              refine ok_call (s_d_token hF hA (by omega) (by omega)) ?_
              rintro ⟨u_1603, F_1604, A_1605, J_1606⟩ ⟨hF_1604, hA_1605, F_1604_o, A_1605_o, u_1603_p⟩
              dsimp only at hF_1604 hA_1605 F_1604_o A_1605_o u_1603_p ⊢
              have u_1603_p : (F_1604 10).toInt = (F 10).toInt + 1 := u_1603_p
              have r_1607 : 0 ≤ (F_1604 18).toInt ∧ (F_1604 18).toInt ≤ 1 := hF_1604 18
              have r_1608 : 0 ≤ (F 18).toInt ∧ (F 18).toInt ≤ 1 := hF 18
              have f_1609 : (F_1604 18).toInt = (F 18).toInt := congrArg Int32.toInt (F_1604_o 18 (by decide))
              refine ok_some ?_
              have l_1610 : (1 : Int32).toInt = 1 := by decide
              refine ⟨hF_1604, hA_1605, (fun q hq => (F_1604_o q hq)), (fun q hq => (A_1605_o q hq)), ?_⟩
              exact ⟨by omega, by omega⟩
          · rw [i_nne] at c_1590
            unfold d_sign_85
            have l_1611 : (60 : Int32).toInt = 60 := by decide
            refine ok_cond (fun c_1612 => ?_) (fun c_1612 => ?_)
            · rw [i_ne] at c_1612
              unfold d_sign_95
              have l_1613 : (0 : Int32).toInt = 0 := by decide
              refine ok_call (s_d_token hF hA (by omega) (by omega)) ?_
              rintro ⟨u_1614, F_1615, A_1616, J_1617⟩ ⟨hF_1615, hA_1616, F_1615_o, A_1616_o, u_1614_p⟩
              dsimp only at hF_1615 hA_1616 F_1615_o A_1616_o u_1614_p ⊢
              have u_1614_p : (F_1615 10).toInt = (F 10).toInt + 1 := u_1614_p
              have r_1618 : 0 ≤ (F_1615 18).toInt ∧ (F_1615 18).toInt ≤ 1 := hF_1615 18
              have r_1619 : 0 ≤ (F 18).toInt ∧ (F 18).toInt ≤ 1 := hF 18
              have f_1620 : (F_1615 18).toInt = (F 18).toInt := congrArg Int32.toInt (F_1615_o 18 (by decide))
              refine ok_some ?_
              have l_1621 : (1 : Int32).toInt = 1 := by decide
              refine ⟨hF_1615, hA_1616, (fun q hq => (F_1615_o q hq)), (fun q hq => (A_1616_o q hq)), ?_⟩
              exact ⟨by omega, by omega⟩
            · rw [i_nne] at c_1612
              unfold d_sign_95
              have l_1622 : (0 : Int32).toInt = 0 := by decide
              refine ok_call (s_d_token hF hA (by omega) (by omega)) ?_
              rintro ⟨u_1623, F_1624, A_1625, J_1626⟩ ⟨hF_1624, hA_1625, F_1624_o, A_1625_o, u_1623_p⟩
              dsimp only at hF_1624 hA_1625 F_1624_o A_1625_o u_1623_p ⊢
              have u_1623_p : (F_1624 10).toInt = (F 10).toInt + 1 := u_1623_p
              have r_1627 : 0 ≤ (F_1624 18).toInt ∧ (F_1624 18).toInt ≤ 1 := hF_1624 18
              have r_1628 : 0 ≤ (F 18).toInt ∧ (F 18).toInt ≤ 1 := hF 18
              have f_1629 : (F_1624 18).toInt = (F 18).toInt := congrArg Int32.toInt (F_1624_o 18 (by decide))
              refine ok_some ?_
              have l_1630 : (1 : Int32).toInt = 1 := by decide
              refine ⟨hF_1624, hA_1625, (fun q hq => (F_1624_o q hq)), (fun q hq => (A_1625_o q hq)), ?_⟩
              exact ⟨by omega, by omega⟩
        · rw [i_nne] at c_1588
          unfold d_sign_75
          have l_1631 : (47 : Int32).toInt = 47 := by decide
          refine ok_cond (fun c_1632 => ?_) (fun c_1632 => ?_)
          · rw [i_ne] at c_1632
            unfold d_sign_85
            have l_1633 : (60 : Int32).toInt = 60 := by decide
            refine ok_cond (fun c_1634 => ?_) (fun c_1634 => ?_)
            · rw [i_ne] at c_1634
              unfold d_sign_95
              have l_1635 : (0 : Int32).toInt = 0 := by decide
              refine ok_call (s_d_token hF hA (by omega) (by omega)) ?_
              rintro ⟨u_1636, F_1637, A_1638, J_1639⟩ ⟨hF_1637, hA_1638, F_1637_o, A_1638_o, u_1636_p⟩
              dsimp only at hF_1637 hA_1638 F_1637_o A_1638_o u_1636_p ⊢
              have u_1636_p : (F_1637 10).toInt = (F 10).toInt + 1 := u_1636_p
              have r_1640 : 0 ≤ (F_1637 18).toInt ∧ (F_1637 18).toInt ≤ 1 := hF_1637 18
              have r_1641 : 0 ≤ (F 18).toInt ∧ (F 18).toInt ≤ 1 := hF 18
              have f_1642 : (F_1637 18).toInt = (F 18).toInt := congrArg Int32.toInt (F_1637_o 18 (by decide))
              refine ok_some ?_
              have l_1643 : (1 : Int32).toInt = 1 := by decide
              refine ⟨hF_1637, hA_1638, (fun q hq => (F_1637_o q hq)), (fun q hq => (A_1638_o q hq)), ?_⟩
              exact ⟨by omega, by omega⟩
            · rw [i_nne] at c_1634
              unfold d_sign_95
              have l_1644 : (0 : Int32).toInt = 0 := by decide
              refine ok_call (s_d_token hF hA (by omega) (by omega)) ?_
              rintro ⟨u_1645, F_1646, A_1647, J_1648⟩ ⟨hF_1646, hA_1647, F_1646_o, A_1647_o, u_1645_p⟩
              dsimp only at hF_1646 hA_1647 F_1646_o A_1647_o u_1645_p ⊢
              have u_1645_p : (F_1646 10).toInt = (F 10).toInt + 1 := u_1645_p
              have r_1649 : 0 ≤ (F_1646 18).toInt ∧ (F_1646 18).toInt ≤ 1 := hF_1646 18
              have r_1650 : 0 ≤ (F 18).toInt ∧ (F 18).toInt ≤ 1 := hF 18
              have f_1651 : (F_1646 18).toInt = (F 18).toInt := congrArg Int32.toInt (F_1646_o 18 (by decide))
              refine ok_some ?_
              have l_1652 : (1 : Int32).toInt = 1 := by decide
              refine ⟨hF_1646, hA_1647, (fun q hq => (F_1646_o q hq)), (fun q hq => (A_1647_o q hq)), ?_⟩
              exact ⟨by omega, by omega⟩
          · rw [i_nne] at c_1632
            unfold d_sign_85
            have l_1653 : (60 : Int32).toInt = 60 := by decide
            refine ok_cond (fun c_1654 => ?_) (fun c_1654 => ?_)
            · rw [i_ne] at c_1654
              unfold d_sign_95
              have l_1655 : (0 : Int32).toInt = 0 := by decide
              refine ok_call (s_d_token hF hA (by omega) (by omega)) ?_
              rintro ⟨u_1656, F_1657, A_1658, J_1659⟩ ⟨hF_1657, hA_1658, F_1657_o, A_1658_o, u_1656_p⟩
              dsimp only at hF_1657 hA_1658 F_1657_o A_1658_o u_1656_p ⊢
              have u_1656_p : (F_1657 10).toInt = (F 10).toInt + 1 := u_1656_p
              have r_1660 : 0 ≤ (F_1657 18).toInt ∧ (F_1657 18).toInt ≤ 1 := hF_1657 18
              have r_1661 : 0 ≤ (F 18).toInt ∧ (F 18).toInt ≤ 1 := hF 18
              have f_1662 : (F_1657 18).toInt = (F 18).toInt := congrArg Int32.toInt (F_1657_o 18 (by decide))
              refine ok_some ?_
              have l_1663 : (1 : Int32).toInt = 1 := by decide
              refine ⟨hF_1657, hA_1658, (fun q hq => (F_1657_o q hq)), (fun q hq => (A_1658_o q hq)), ?_⟩
              exact ⟨by omega, by omega⟩
            · rw [i_nne] at c_1654
              unfold d_sign_95
              have l_1664 : (0 : Int32).toInt = 0 := by decide
              refine ok_call (s_d_token hF hA (by omega) (by omega)) ?_
              rintro ⟨u_1665, F_1666, A_1667, J_1668⟩ ⟨hF_1666, hA_1667, F_1666_o, A_1667_o, u_1665_p⟩
              dsimp only at hF_1666 hA_1667 F_1666_o A_1667_o u_1665_p ⊢
              have u_1665_p : (F_1666 10).toInt = (F 10).toInt + 1 := u_1665_p
              have r_1669 : 0 ≤ (F_1666 18).toInt ∧ (F_1666 18).toInt ≤ 1 := hF_1666 18
              have r_1670 : 0 ≤ (F 18).toInt ∧ (F 18).toInt ≤ 1 := hF 18
              have f_1671 : (F_1666 18).toInt = (F 18).toInt := congrArg Int32.toInt (F_1666_o 18 (by decide))
              refine ok_some ?_
              have l_1672 : (1 : Int32).toInt = 1 := by decide
              refine ⟨hF_1666, hA_1667, (fun q hq => (F_1666_o q hq)), (fun q hq => (A_1667_o q hq)), ?_⟩
              exact ⟨by omega, by omega⟩
      · rw [i_nne] at c_1586
        unfold d_sign_65
        have l_1673 : (42 : Int32).toInt = 42 := by decide
        refine ok_cond (fun c_1674 => ?_) (fun c_1674 => ?_)
        · rw [i_ne] at c_1674
          unfold d_sign_75
          have l_1675 : (47 : Int32).toInt = 47 := by decide
          refine ok_cond (fun c_1676 => ?_) (fun c_1676 => ?_)
          · rw [i_ne] at c_1676
            unfold d_sign_85
            have l_1677 : (60 : Int32).toInt = 60 := by decide
            refine ok_cond (fun c_1678 => ?_) (fun c_1678 => ?_)
            · rw [i_ne] at c_1678
              unfold d_sign_95
              have l_1679 : (0 : Int32).toInt = 0 := by decide
              refine ok_call (s_d_token hF hA (by omega) (by omega)) ?_
              rintro ⟨u_1680, F_1681, A_1682, J_1683⟩ ⟨hF_1681, hA_1682, F_1681_o, A_1682_o, u_1680_p⟩
              dsimp only at hF_1681 hA_1682 F_1681_o A_1682_o u_1680_p ⊢
              have u_1680_p : (F_1681 10).toInt = (F 10).toInt + 1 := u_1680_p
              have r_1684 : 0 ≤ (F_1681 18).toInt ∧ (F_1681 18).toInt ≤ 1 := hF_1681 18
              have r_1685 : 0 ≤ (F 18).toInt ∧ (F 18).toInt ≤ 1 := hF 18
              have f_1686 : (F_1681 18).toInt = (F 18).toInt := congrArg Int32.toInt (F_1681_o 18 (by decide))
              refine ok_some ?_
              have l_1687 : (1 : Int32).toInt = 1 := by decide
              refine ⟨hF_1681, hA_1682, (fun q hq => (F_1681_o q hq)), (fun q hq => (A_1682_o q hq)), ?_⟩
              exact ⟨by omega, by omega⟩
            · rw [i_nne] at c_1678
              unfold d_sign_95
              have l_1688 : (0 : Int32).toInt = 0 := by decide
              refine ok_call (s_d_token hF hA (by omega) (by omega)) ?_
              rintro ⟨u_1689, F_1690, A_1691, J_1692⟩ ⟨hF_1690, hA_1691, F_1690_o, A_1691_o, u_1689_p⟩
              dsimp only at hF_1690 hA_1691 F_1690_o A_1691_o u_1689_p ⊢
              have u_1689_p : (F_1690 10).toInt = (F 10).toInt + 1 := u_1689_p
              have r_1693 : 0 ≤ (F_1690 18).toInt ∧ (F_1690 18).toInt ≤ 1 := hF_1690 18
              have r_1694 : 0 ≤ (F 18).toInt ∧ (F 18).toInt ≤ 1 := hF 18
              have f_1695 : (F_1690 18).toInt = (F 18).toInt := congrArg Int32.toInt (F_1690_o 18 (by decide))
              refine ok_some ?_
              have l_1696 : (1 : Int32).toInt = 1 := by decide
              refine ⟨hF_1690, hA_1691, (fun q hq => (F_1690_o q hq)), (fun q hq => (A_1691_o q hq)), ?_⟩
              exact ⟨by omega, by omega⟩
          · rw [i_nne] at c_1676
            unfold d_sign_85
            have l_1697 : (60 : Int32).toInt = 60 := by decide
            refine ok_cond (fun c_1698 => ?_) (fun c_1698 => ?_)
            · rw [i_ne] at c_1698
              unfold d_sign_95
              have l_1699 : (0 : Int32).toInt = 0 := by decide
              refine ok_call (s_d_token hF hA (by omega) (by omega)) ?_
              rintro ⟨u_1700, F_1701, A_1702, J_1703⟩ ⟨hF_1701, hA_1702, F_1701_o, A_1702_o, u_1700_p⟩
              dsimp only at hF_1701 hA_1702 F_1701_o A_1702_o u_1700_p ⊢
              have u_1700_p : (F_1701 10).toInt = (F 10).toInt + 1 := u_1700_p
              have r_1704 : 0 ≤ (F_1701 18).toInt ∧ (F_1701 18).toInt ≤ 1 := hF_1701 18
              have r_1705 : 0 ≤ (F 18).toInt ∧ (F 18).toInt ≤ 1 := hF 18
              have f_1706 : (F_1701 18).toInt = (F 18).toInt := congrArg Int32.toInt (F_1701_o 18 (by decide))
              refine ok_some ?_
              have l_1707 : (1 : Int32).toInt = 1 := by decide
              refine ⟨hF_1701, hA_1702, (fun q hq => (F_1701_o q hq)), (fun q hq => (A_1702_o q hq)), ?_⟩
              exact ⟨by omega, by omega⟩
            · rw [i_nne] at c_1698
              unfold d_sign_95
              have l_1708 : (0 : Int32).toInt = 0 := by decide
              refine ok_call (s_d_token hF hA (by omega) (by omega)) ?_
              rintro ⟨u_1709, F_1710, A_1711, J_1712⟩ ⟨hF_1710, hA_1711, F_1710_o, A_1711_o, u_1709_p⟩
              dsimp only at hF_1710 hA_1711 F_1710_o A_1711_o u_1709_p ⊢
              have u_1709_p : (F_1710 10).toInt = (F 10).toInt + 1 := u_1709_p
              have r_1713 : 0 ≤ (F_1710 18).toInt ∧ (F_1710 18).toInt ≤ 1 := hF_1710 18
              have r_1714 : 0 ≤ (F 18).toInt ∧ (F 18).toInt ≤ 1 := hF 18
              have f_1715 : (F_1710 18).toInt = (F 18).toInt := congrArg Int32.toInt (F_1710_o 18 (by decide))
              refine ok_some ?_
              have l_1716 : (1 : Int32).toInt = 1 := by decide
              refine ⟨hF_1710, hA_1711, (fun q hq => (F_1710_o q hq)), (fun q hq => (A_1711_o q hq)), ?_⟩
              exact ⟨by omega, by omega⟩
        · rw [i_nne] at c_1674
          unfold d_sign_75
          have l_1717 : (47 : Int32).toInt = 47 := by decide
          refine ok_cond (fun c_1718 => ?_) (fun c_1718 => ?_)
          · rw [i_ne] at c_1718
            unfold d_sign_85
            have l_1719 : (60 : Int32).toInt = 60 := by decide
            refine ok_cond (fun c_1720 => ?_) (fun c_1720 => ?_)
            · rw [i_ne] at c_1720
              unfold d_sign_95
              have l_1721 : (0 : Int32).toInt = 0 := by decide
              refine ok_call (s_d_token hF hA (by omega) (by omega)) ?_
              rintro ⟨u_1722, F_1723, A_1724, J_1725⟩ ⟨hF_1723, hA_1724, F_1723_o, A_1724_o, u_1722_p⟩
              dsimp only at hF_1723 hA_1724 F_1723_o A_1724_o u_1722_p ⊢
              have u_1722_p : (F_1723 10).toInt = (F 10).toInt + 1 := u_1722_p
              have r_1726 : 0 ≤ (F_1723 18).toInt ∧ (F_1723 18).toInt ≤ 1 := hF_1723 18
              have r_1727 : 0 ≤ (F 18).toInt ∧ (F 18).toInt ≤ 1 := hF 18
              have f_1728 : (F_1723 18).toInt = (F 18).toInt := congrArg Int32.toInt (F_1723_o 18 (by decide))
              refine ok_some ?_
              have l_1729 : (1 : Int32).toInt = 1 := by decide
              refine ⟨hF_1723, hA_1724, (fun q hq => (F_1723_o q hq)), (fun q hq => (A_1724_o q hq)), ?_⟩
              exact ⟨by omega, by omega⟩
            · rw [i_nne] at c_1720
              unfold d_sign_95
              have l_1730 : (0 : Int32).toInt = 0 := by decide
              refine ok_call (s_d_token hF hA (by omega) (by omega)) ?_
              rintro ⟨u_1731, F_1732, A_1733, J_1734⟩ ⟨hF_1732, hA_1733, F_1732_o, A_1733_o, u_1731_p⟩
              dsimp only at hF_1732 hA_1733 F_1732_o A_1733_o u_1731_p ⊢
              have u_1731_p : (F_1732 10).toInt = (F 10).toInt + 1 := u_1731_p
              have r_1735 : 0 ≤ (F_1732 18).toInt ∧ (F_1732 18).toInt ≤ 1 := hF_1732 18
              have r_1736 : 0 ≤ (F 18).toInt ∧ (F 18).toInt ≤ 1 := hF 18
              have f_1737 : (F_1732 18).toInt = (F 18).toInt := congrArg Int32.toInt (F_1732_o 18 (by decide))
              refine ok_some ?_
              have l_1738 : (1 : Int32).toInt = 1 := by decide
              refine ⟨hF_1732, hA_1733, (fun q hq => (F_1732_o q hq)), (fun q hq => (A_1733_o q hq)), ?_⟩
              exact ⟨by omega, by omega⟩
          · rw [i_nne] at c_1718
            unfold d_sign_85
            have l_1739 : (60 : Int32).toInt = 60 := by decide
            refine ok_cond (fun c_1740 => ?_) (fun c_1740 => ?_)
            · rw [i_ne] at c_1740
              unfold d_sign_95
              have l_1741 : (0 : Int32).toInt = 0 := by decide
              refine ok_call (s_d_token hF hA (by omega) (by omega)) ?_
              rintro ⟨u_1742, F_1743, A_1744, J_1745⟩ ⟨hF_1743, hA_1744, F_1743_o, A_1744_o, u_1742_p⟩
              dsimp only at hF_1743 hA_1744 F_1743_o A_1744_o u_1742_p ⊢
              have u_1742_p : (F_1743 10).toInt = (F 10).toInt + 1 := u_1742_p
              have r_1746 : 0 ≤ (F_1743 18).toInt ∧ (F_1743 18).toInt ≤ 1 := hF_1743 18
              have r_1747 : 0 ≤ (F 18).toInt ∧ (F 18).toInt ≤ 1 := hF 18
              have f_1748 : (F_1743 18).toInt = (F 18).toInt := congrArg Int32.toInt (F_1743_o 18 (by decide))
              refine ok_some ?_
              have l_1749 : (1 : Int32).toInt = 1 := by decide
              refine ⟨hF_1743, hA_1744, (fun q hq => (F_1743_o q hq)), (fun q hq => (A_1744_o q hq)), ?_⟩
              exact ⟨by omega, by omega⟩
            · rw [i_nne] at c_1740
              unfold d_sign_95
              have l_1750 : (0 : Int32).toInt = 0 := by decide
              refine ok_call (s_d_token hF hA (by omega) (by omega)) ?_
              rintro ⟨u_1751, F_1752, A_1753, J_1754⟩ ⟨hF_1752, hA_1753, F_1752_o, A_1753_o, u_1751_p⟩
              dsimp only at hF_1752 hA_1753 F_1752_o A_1753_o u_1751_p ⊢
              have u_1751_p : (F_1752 10).toInt = (F 10).toInt + 1 := u_1751_p
              have r_1755 : 0 ≤ (F_1752 18).toInt ∧ (F_1752 18).toInt ≤ 1 := hF_1752 18
              have r_1756 : 0 ≤ (F 18).toInt ∧ (F 18).toInt ≤ 1 := hF 18
              have f_1757 : (F_1752 18).toInt = (F 18).toInt := congrArg Int32.toInt (F_1752_o 18 (by decide))
              refine ok_some ?_
              have l_1758 : (1 : Int32).toInt = 1 := by decide
              refine ⟨hF_1752, hA_1753, (fun q hq => (F_1752_o q hq)), (fun q hq => (A_1753_o q hq)), ?_⟩
              exact ⟨by omega, by omega⟩
set_option maxRecDepth 10000 in
theorem s_d_cut_146 {K7 : (Nat → Int32) → (Nat → Nat → Int32) → (Nat → Nat → Int64) → Int32 → Option (Unit × (Nat → Int32) × (Nat → Nat → Int32) × (Nat → Nat → Int64))} {Q : Unit × (Nat → Int32) × (Nat → Nat → Int32) × (Nat → Nat → Int64) → Prop} {n : Nat} {F0 : Nat → Int32} {A0 : Nat → Nat → Int32} {F : Nat → Int32} {A : Nat → Nat → Int32} {J : Nat → Nat → Int64} {x1 : Int32} {x3 : Int32} {x4 : Int64} {x6 : Int32} {x7 : Int32} (hF : IFm F) (hA : IAm A) (bF : ∀ q, q ∉ ([10] : List Nat) → F q = F0 q) (bA : ∀ q, q ∉ ([3, 4, 5] : List Nat) → A q = A0 q) (ht : (F 10).toInt ≤ 400) (hs : x1.toInt + x3.toInt ≤ 2000) (rx1 : 0 ≤ x1.toInt ∧ x1.toInt ≤ 2000) (rx3 : 1 ≤ x3.toInt ∧ x3.toInt ≤ 2000) (rx7 : 0 ≤ x7.toInt ∧ x7.toInt ≤ 21) (hK7 : ∀ F A J, IFm F → IAm A → (∀ q, q ∉ ([10] : List Nat) → F q = F0 q) → (∀ q, q ∉ ([3, 4, 5] : List Nat) → A q = A0 q) → (x1 + x3).toInt = x1.toInt + x3.toInt ∧ 0 < x3.toInt ∧ x3.toInt ≤ 2000 ∧ x1.toInt + x3.toInt ≤ 2000 ∧ (F 10).toInt ≤ 401 → ok (K7 F A J (x1 + x3)) Q) (hn : 21 - x7.toInt < (n : Int)) : ok (d_cut_146 K7 n F A J x1 x3 x4 x6 x7) (Q) := by
  induction n generalizing F A J x6 x7 with
  | zero => exact absurd hn (by omega)
  | succ n ih =>
    have r18 : 0 ≤ (F 18).toInt ∧ (F 18).toInt ≤ 1 := hF 18
    have r4 : 0 ≤ (F 4).toInt ∧ (F 4).toInt ≤ 2000 := hF 4
    have r10 : 0 ≤ (F 10).toInt ∧ (F 10).toInt ≤ 402 := hF 10
    unfold d_cut_146
    have l_1 : (21 : Int32).toInt = 21 := by decide
    refine ok_cond (fun c_2 => ?_) (fun c_2 => ?_)
    · rw [i_ge] at c_2
      unfold d_cut_179
      have l_3 : (0 : Int32).toInt = 0 := by decide
      refine ok_call (s_d_token hF hA (by omega) (by omega)) ?_
      rintro ⟨u_4, F_5, A_6, J_7⟩ ⟨hF_5, hA_6, F_5_o, A_6_o, u_4_p⟩
      dsimp only at hF_5 hA_6 F_5_o A_6_o u_4_p ⊢
      have u_4_p : (F_5 10).toInt = (F 10).toInt + 1 := u_4_p
      have r_8 : 0 ≤ (F_5 18).toInt ∧ (F_5 18).toInt ≤ 1 := hF_5 18
      have r_9 : 0 ≤ (F 18).toInt ∧ (F 18).toInt ≤ 1 := hF 18
      have f_10 : (F_5 18).toInt = (F 18).toInt := congrArg Int32.toInt (F_5_o 18 (by decide))
      unfold d_cut_291
      have e_11 := i_add (x := x1) (y := x3) (by omega) (by omega)
      exact hK7 _ _ _ hF_5 hA_6 (fun q hq => ((F_5_o q hq).trans (bF q hq))) (fun q hq => ((A_6_o q hq).trans (bA q hq))) (by omega)
    · rw [i_nge] at c_2
      refine ok_ldJ1 (by omega) (by omega) ?_
      intro v_12
      have l_13 : (0 : Int32).toInt = 0 := by decide
      refine ok_cond (fun c_14 => ?_) (fun c_14 => ?_)
      · rw [i_ne] at c_14
        unfold d_cut_173
        have l_15 : (1 : Int32).toInt = 1 := by decide
        have e_16 := i_add (x := x7) (y := 1) (by omega) (by omega)
        exact ih hF hA (fun q hq => (bF q hq)) (fun q hq => (bA q hq)) (by omega) (by omega) (by omega)
      · rw [i_nne] at c_14
        unfold d_cut_173
        have l_17 : (1 : Int32).toInt = 1 := by decide
        have e_18 := i_add (x := x7) (y := 1) (by omega) (by omega)
        exact ih hF hA (fun q hq => (bF q hq)) (fun q hq => (bA q hq)) (by omega) (by omega) (by omega)
set_option maxRecDepth 10000 in
theorem s_d_cut_85 {K7 : (Nat → Int32) → (Nat → Nat → Int32) → (Nat → Nat → Int64) → Int32 → Option (Unit × (Nat → Int32) × (Nat → Nat → Int32) × (Nat → Nat → Int64))} {Q : Unit × (Nat → Int32) × (Nat → Nat → Int32) × (Nat → Nat → Int64) → Prop} {n : Nat} {F0 : Nat → Int32} {A0 : Nat → Nat → Int32} {F : Nat → Int32} {A : Nat → Nat → Int32} {J : Nat → Nat → Int64} {x1 : Int32} {x3 : Int32} {x4 : Int64} (hF : IFm F) (hA : IAm A) (bF : ∀ q, q ∉ ([10] : List Nat) → F q = F0 q) (bA : ∀ q, q ∉ ([3, 4, 5] : List Nat) → A q = A0 q) (ht : (F 10).toInt ≤ 400) (hs : x1.toInt + x3.toInt ≤ (F 4).toInt) (hd : 0 < x3.toInt ∨ (97 ≤ bAt F A x1.toInt ∧ bAt F A x1.toInt ≤ 122)) (rx1 : 0 ≤ x1.toInt ∧ x1.toInt ≤ 2000) (rx3 : 0 ≤ x3.toInt ∧ x3.toInt ≤ 2000) (hK7 : ∀ F A J (x3 : Int32), IFm F → IAm A → (∀ q, q ∉ ([10] : List Nat) → F q = F0 q) → (∀ q, q ∉ ([3, 4, 5] : List Nat) → A q = A0 q) → (x1 + x3).toInt = x1.toInt + x3.toInt ∧ 0 < x3.toInt ∧ x3.toInt ≤ 2000 ∧ x1.toInt + x3.toInt ≤ 2000 ∧ (F 10).toInt ≤ 401 → ok (K7 F A J (x1 + x3)) Q) (hn : 2100 - x3.toInt < (n : Int)) : ok (d_cut_85 K7 n F A J x1 x3 x4) (Q) := by
  induction n generalizing F A J x3 x4 with
  | zero => exact absurd hn (by omega)
  | succ n ih =>
    have r18 : 0 ≤ (F 18).toInt ∧ (F 18).toInt ≤ 1 := hF 18
    have r4 : 0 ≤ (F 4).toInt ∧ (F 4).toInt ≤ 2000 := hF 4
    have r10 : 0 ≤ (F 10).toInt ∧ (F 10).toInt ≤ 402 := hF 10
    have e13 := i_add (x := x1) (y := x3) (by omega) (by omega)
    have eb : 0 < x3.toInt ∨ bAt F A (x1 + x3).toInt = bAt F A x1.toInt := by
      by_cases h : x3.toInt = 0
      · exact .inr (by congr 1; omega)
      · exact .inl (by omega)
    unfold d_cut_85
    have e_1 := i_add (x := x1) (y := x3) (by omega) (by omega)
    refine ok_call (s_d_byteAt hF (by omega)) ?_
    intro v_2 v_2_p
    have v_2_p : v_2.toInt = bAt F A (x1 + x3).toInt ∧ (v_2.toInt = 0 ∨ (x1 + x3).toInt < (F 4).toInt) := v_2_p
    have bl := bAt_lt F A (x1 + x3).toInt
    refine ok_call (s_d_isLetter ) ?_
    intro v_3 v_3_p
    have v_3_p : (v_3.toInt = 0 ∨ (v_3.toInt = 1 ∧ 97 ≤ v_2.toInt ∧ v_2.toInt ≤ 122)) ∧ (v_3.toInt ≠ 0 ∨ v_2.toInt < 97 ∨ 122 < v_2.toInt) := v_3_p
    have l_4 : (0 : Int32).toInt = 0 := by decide
    refine ok_cond (fun c_5 => ?_) (fun c_5 => ?_)
    · rw [i_eq] at c_5
      have l_6 : (8 : Int32).toInt = 8 := by decide
      refine ok_cond (fun c_7 => ?_) (fun c_7 => ?_)
      · rw [i_le] at c_7
        unfold d_cut_135
        have l_8 : (7 : Int32).toInt = 7 := by decide
        refine ok_cond (fun c_9 => ?_) (fun c_9 => ?_)
        · rw [i_gt] at c_9
          unfold d_cut_179
          refine ok_call (s_d_token hF hA (by omega) (by omega)) ?_
          rintro ⟨u_10, F_11, A_12, J_13⟩ ⟨hF_11, hA_12, F_11_o, A_12_o, u_10_p⟩
          dsimp only at hF_11 hA_12 F_11_o A_12_o u_10_p ⊢
          have u_10_p : (F_11 10).toInt = (F 10).toInt + 1 := u_10_p
          have r_14 : 0 ≤ (F_11 18).toInt ∧ (F_11 18).toInt ≤ 1 := hF_11 18
          have r_15 : 0 ≤ (F 18).toInt ∧ (F 18).toInt ≤ 1 := hF 18
          have f_16 : (F_11 18).toInt = (F 18).toInt := congrArg Int32.toInt (F_11_o 18 (by decide))
          unfold d_cut_291
          exact hK7 _ _ _ _ hF_11 hA_12 (fun q hq => ((F_11_o q hq).trans (bF q hq))) (fun q hq => ((A_12_o q hq).trans (bA q hq))) (by omega)
        · rw [i_ngt] at c_9
          exact s_d_cut_146 (K7 := K7) hF hA (fun q hq => (bF q hq)) (fun q hq => (bA q hq)) (by omega) (by omega) (by omega) (by omega) (by omega) (fun F A J hF hA bF bA hx => hK7 _ _ _ _ hF hA bF bA hx) (by omega)
      · rw [i_nle] at c_7
        unfold d_cut_135
        have l_17 : (7 : Int32).toInt = 7 := by decide
        refine ok_cond (fun c_18 => ?_) (fun c_18 => ?_)
        · rw [i_gt] at c_18
          unfold d_cut_179
          refine ok_call (s_d_token hF hA (by omega) (by omega)) ?_
          rintro ⟨u_19, F_20, A_21, J_22⟩ ⟨hF_20, hA_21, F_20_o, A_21_o, u_19_p⟩
          dsimp only at hF_20 hA_21 F_20_o A_21_o u_19_p ⊢
          have u_19_p : (F_20 10).toInt = (F 10).toInt + 1 := u_19_p
          have r_23 : 0 ≤ (F_20 18).toInt ∧ (F_20 18).toInt ≤ 1 := hF_20 18
          have r_24 : 0 ≤ (F 18).toInt ∧ (F 18).toInt ≤ 1 := hF 18
          have f_25 : (F_20 18).toInt = (F 18).toInt := congrArg Int32.toInt (F_20_o 18 (by decide))
          unfold d_cut_291
          exact hK7 _ _ _ _ hF_20 hA_21 (fun q hq => ((F_20_o q hq).trans (bF q hq))) (fun q hq => ((A_21_o q hq).trans (bA q hq))) (by omega)
        · rw [i_ngt] at c_18
          exact s_d_cut_146 (K7 := K7) hF hA (fun q hq => (bF q hq)) (fun q hq => (bA q hq)) (by omega) (by omega) (by omega) (by omega) (by omega) (fun F A J hF hA bF bA hx => hK7 _ _ _ _ hF hA bF bA hx) (by omega)
    · rw [i_neq] at c_5
      have l_26 : (8 : Int32).toInt = 8 := by decide
      refine ok_cond (fun c_27 => ?_) (fun c_27 => ?_)
      · rw [i_ge] at c_27
        unfold d_cut_118
        have l_28 : (1 : Int32).toInt = 1 := by decide
        have e_29 := i_add (x := x3) (y := 1) (by omega) (by omega)
        exact ih hF hA (fun q hq => (bF q hq)) (fun q hq => (bA q hq)) (by omega) (by omega) (by omega) (by omega) (by omega)
      · rw [i_nge] at c_27
        refine ok_call (s_d_byteAt hF (by omega)) ?_
        intro v_30 v_30_p
        have v_30_p : v_30.toInt = bAt F A (x1 + x3).toInt ∧ (v_30.toInt = 0 ∨ (x1 + x3).toInt < (F 4).toInt) := v_30_p
        refine ok_call (s_d_appends ) ?_
        intro v_31 v_31_p
        unfold d_cut_118
        have l_32 : (1 : Int32).toInt = 1 := by decide
        have e_33 := i_add (x := x3) (y := 1) (by omega) (by omega)
        exact ih hF hA (fun q hq => (bF q hq)) (fun q hq => (bA q hq)) (by omega) (by omega) (by omega) (by omega) (by omega)
set_option maxRecDepth 10000 in
theorem s_d_cut_208 {K7 : (Nat → Int32) → (Nat → Nat → Int32) → (Nat → Nat → Int64) → Int32 → Option (Unit × (Nat → Int32) × (Nat → Nat → Int32) × (Nat → Nat → Int64))} {Q : Unit × (Nat → Int32) × (Nat → Nat → Int32) × (Nat → Nat → Int64) → Prop} {n : Nat} {F0 : Nat → Int32} {A0 : Nat → Nat → Int32} {F : Nat → Int32} {A : Nat → Nat → Int32} {J : Nat → Nat → Int64} {x1 : Int32} {x3 : Int32} {x4 : Int32} (hF : IFm F) (hA : IAm A) (bF : ∀ q, q ∉ ([10] : List Nat) → F q = F0 q) (bA : ∀ q, q ∉ ([3, 4, 5] : List Nat) → A q = A0 q) (ht : (F 10).toInt ≤ 400) (hs : x1.toInt + x3.toInt ≤ (F 4).toInt) (hd : 0 < x3.toInt ∨ (48 ≤ bAt F A x1.toInt ∧ bAt F A x1.toInt ≤ 57)) (hv : 0 ≤ x4.toInt ∧ x4.toInt ≤ 9999 ∧ (1 ≤ x3.toInt ∨ x4.toInt ≤ 0) ∧ (2 ≤ x3.toInt ∨ x4.toInt ≤ 9) ∧ (3 ≤ x3.toInt ∨ x4.toInt ≤ 99) ∧ (4 ≤ x3.toInt ∨ x4.toInt ≤ 999)) (rx1 : 0 ≤ x1.toInt ∧ x1.toInt ≤ 2000) (rx3 : 0 ≤ x3.toInt ∧ x3.toInt ≤ 2000) (hK7 : ∀ F A J (x3 : Int32), IFm F → IAm A → (∀ q, q ∉ ([10] : List Nat) → F q = F0 q) → (∀ q, q ∉ ([3, 4, 5] : List Nat) → A q = A0 q) → (x1 + x3).toInt = x1.toInt + x3.toInt ∧ 0 < x3.toInt ∧ x3.toInt ≤ 2000 ∧ x1.toInt + x3.toInt ≤ 2000 ∧ (F 10).toInt ≤ 401 → ok (K7 F A J (x1 + x3)) Q) (hn : 2100 - x3.toInt < (n : Int)) : ok (d_cut_208 K7 n F A J x1 x3 x4) (Q) := by
  induction n generalizing F A J x3 x4 with
  | zero => exact absurd hn (by omega)
  | succ n ih =>
    have r18 : 0 ≤ (F 18).toInt ∧ (F 18).toInt ≤ 1 := hF 18
    have r4 : 0 ≤ (F 4).toInt ∧ (F 4).toInt ≤ 2000 := hF 4
    have r10 : 0 ≤ (F 10).toInt ∧ (F 10).toInt ≤ 402 := hF 10
    have e13 := i_add (x := x1) (y := x3) (by omega) (by omega)
    have eb : 0 < x3.toInt ∨ bAt F A (x1 + x3).toInt = bAt F A x1.toInt := by
      by_cases h : x3.toInt = 0
      · exact .inr (by congr 1; omega)
      · exact .inl (by omega)
    unfold d_cut_208
    have e_1 := i_add (x := x1) (y := x3) (by omega) (by omega)
    refine ok_call (s_d_byteAt hF (by omega)) ?_
    intro v_2 v_2_p
    have v_2_p : v_2.toInt = bAt F A (x1 + x3).toInt ∧ (v_2.toInt = 0 ∨ (x1 + x3).toInt < (F 4).toInt) := v_2_p
    have bl := bAt_lt F A (x1 + x3).toInt
    refine ok_call (s_d_isDigit ) ?_
    intro v_3 v_3_p
    have v_3_p : (v_3.toInt = 0 ∨ (v_3.toInt = 1 ∧ 48 ≤ v_2.toInt ∧ v_2.toInt ≤ 57)) ∧ (v_3.toInt ≠ 0 ∨ v_2.toInt < 48 ∨ 57 < v_2.toInt) := v_3_p
    have l_4 : (0 : Int32).toInt = 0 := by decide
    refine ok_cond (fun c_5 => ?_) (fun c_5 => ?_)
    · rw [i_eq] at c_5
      have l_6 : (4 : Int32).toInt = 4 := by decide
      refine ok_cond (fun c_7 => ?_) (fun c_7 => ?_)
      · rw [i_le] at c_7
        unfold d_cut_261
        refine ok_call (s_d_token hF hA (by omega) (by omega)) ?_
        rintro ⟨u_8, F_9, A_10, J_11⟩ ⟨hF_9, hA_10, F_9_o, A_10_o, u_8_p⟩
        dsimp only at hF_9 hA_10 F_9_o A_10_o u_8_p ⊢
        have u_8_p : (F_9 10).toInt = (F 10).toInt + 1 := u_8_p
        have r_12 : 0 ≤ (F_9 18).toInt ∧ (F_9 18).toInt ≤ 1 := hF_9 18
        have r_13 : 0 ≤ (F 18).toInt ∧ (F 18).toInt ≤ 1 := hF 18
        have f_14 : (F_9 18).toInt = (F 18).toInt := congrArg Int32.toInt (F_9_o 18 (by decide))
        unfold d_cut_291
        exact hK7 _ _ _ _ hF_9 hA_10 (fun q hq => ((F_9_o q hq).trans (bF q hq))) (fun q hq => ((A_10_o q hq).trans (bA q hq))) (by omega)
      · rw [i_nle] at c_7
        unfold d_cut_261
        refine ok_call (s_d_token hF hA (by omega) (by omega)) ?_
        rintro ⟨u_15, F_16, A_17, J_18⟩ ⟨hF_16, hA_17, F_16_o, A_17_o, u_15_p⟩
        dsimp only at hF_16 hA_17 F_16_o A_17_o u_15_p ⊢
        have u_15_p : (F_16 10).toInt = (F 10).toInt + 1 := u_15_p
        have r_19 : 0 ≤ (F_16 18).toInt ∧ (F_16 18).toInt ≤ 1 := hF_16 18
        have r_20 : 0 ≤ (F 18).toInt ∧ (F 18).toInt ≤ 1 := hF 18
        have f_21 : (F_16 18).toInt = (F 18).toInt := congrArg Int32.toInt (F_16_o 18 (by decide))
        unfold d_cut_291
        exact hK7 _ _ _ _ hF_16 hA_17 (fun q hq => ((F_16_o q hq).trans (bF q hq))) (fun q hq => ((A_17_o q hq).trans (bA q hq))) (by omega)
    · rw [i_neq] at c_5
      have l_22 : (4 : Int32).toInt = 4 := by decide
      refine ok_cond (fun c_23 => ?_) (fun c_23 => ?_)
      · rw [i_ge] at c_23
        unfold d_cut_244
        have l_24 : (1 : Int32).toInt = 1 := by decide
        have e_25 := i_add (x := x3) (y := 1) (by omega) (by omega)
        exact ih hF hA (fun q hq => (bF q hq)) (fun q hq => (bA q hq)) (by omega) (by omega) (by omega) (by omega) (by omega) (by omega)
      · rw [i_nge] at c_23
        refine ok_call (s_d_byteAt hF (by omega)) ?_
        intro v_26 v_26_p
        have v_26_p : v_26.toInt = bAt F A (x1 + x3).toInt ∧ (v_26.toInt = 0 ∨ (x1 + x3).toInt < (F 4).toInt) := v_26_p
        unfold d_cut_244
        have l_27 : (1 : Int32).toInt = 1 := by decide
        have e_28 := i_add (x := x3) (y := 1) (by omega) (by omega)
        have l_29 : (10 : Int32).toInt = 10 := by decide
        have e_30 := i_mulL (c := 10) (k := 10) (x := x4) (by decide) (by omega) (by omega)
        have e_31 := i_add (x := (10 * x4)) (y := v_26) (by omega) (by omega)
        have l_32 : (48 : Int32).toInt = 48 := by decide
        have e_33 := i_sub (x := ((10 * x4) + v_26)) (y := 48) (by omega) (by omega)
        exact ih hF hA (fun q hq => (bF q hq)) (fun q hq => (bA q hq)) (by omega) (by omega) (by omega) (by omega) (by omega) (by omega)
set_option maxRecDepth 10000 in
theorem s_d_cut_7  {n : Nat} {F0 : Nat → Int32} {A0 : Nat → Nat → Int32} {F : Nat → Int32} {A : Nat → Nat → Int32} {J : Nat → Nat → Int64} {x1 : Int32} (hF : IFm F) (hA : IAm A) (bF : ∀ q, q ∉ ([10] : List Nat) → F q = F0 q) (bA : ∀ q, q ∉ ([3, 4, 5] : List Nat) → A q = A0 q) (h1 : (F 10).toInt ≤ 401) (rx1 : 0 ≤ x1.toInt ∧ x1.toInt ≤ 2000) (hn : 6000 - x1.toInt < (n : Int)) : ok (d_cut_7 n F A J x1) (fun r => IFm r.2.1 ∧ IAm r.2.2.1 ∧ (∀ q, q ∉ ([10] : List Nat) → r.2.1 q = F0 q) ∧ (∀ q, q ∉ ([3, 4, 5] : List Nat) → r.2.2.1 q = A0 q) ∧ True) := by
  induction n generalizing F A J x1 with
  | zero => exact absurd hn (by omega)
  | succ n ih =>
    have r18 : 0 ≤ (F 18).toInt ∧ (F 18).toInt ≤ 1 := hF 18
    have r4 : 0 ≤ (F 4).toInt ∧ (F 4).toInt ≤ 2000 := hF 4
    have r10 : 0 ≤ (F 10).toInt ∧ (F 10).toInt ≤ 402 := hF 10
    unfold d_cut_7
    have r_1 : 0 ≤ (F 10).toInt ∧ (F 10).toInt ≤ 402 := hF 10
    have l_2 : (400 : Int32).toInt = 400 := by decide
    refine ok_cond (fun c_3 => ?_) (fun c_3 => ?_)
    · rw [i_gt] at c_3
      refine ok_some ?_
      refine ⟨hF, hA, (fun q hq => (bF q hq)), (fun q hq => (bA q hq)), ?_⟩
      (first | trivial | omega | exact ⟨by omega, by omega⟩ | assumption)
    · rw [i_ngt] at c_3
      refine ok_call (s_d_byteAt hF (by omega)) ?_
      intro v_4 v_4_p
      have v_4_p : v_4.toInt = bAt F A x1.toInt ∧ (v_4.toInt = 0 ∨ x1.toInt < (F 4).toInt) := v_4_p
      have r_5 : 0 ≤ (F 4).toInt ∧ (F 4).toInt ≤ 2000 := hF 4
      refine ok_cond (fun c_6 => ?_) (fun c_6 => ?_)
      · rw [i_lt] at c_6
        have l_7 : (9 : Int32).toInt = 9 := by decide
        refine ok_cond (fun c_8 => ?_) (fun c_8 => ?_)
        · rw [i_eq] at c_8
          unfold d_cut_67
          unfold d_cut_291
          have l_9 : (1 : Int32).toInt = 1 := by decide
          have e_10 := i_add (x := x1) (y := 1) (by omega) (by omega)
          exact ih hF hA (fun q hq => (bF q hq)) (fun q hq => (bA q hq)) (by omega) (by omega) (by omega)
        · rw [i_neq] at c_8
          have l_11 : (10 : Int32).toInt = 10 := by decide
          refine ok_cond (fun c_12 => ?_) (fun c_12 => ?_)
          · rw [i_eq] at c_12
            unfold d_cut_67
            unfold d_cut_291
            have l_13 : (1 : Int32).toInt = 1 := by decide
            have e_14 := i_add (x := x1) (y := 1) (by omega) (by omega)
            exact ih hF hA (fun q hq => (bF q hq)) (fun q hq => (bA q hq)) (by omega) (by omega) (by omega)
          · rw [i_neq] at c_12
            have l_15 : (13 : Int32).toInt = 13 := by decide
            refine ok_cond (fun c_16 => ?_) (fun c_16 => ?_)
            · rw [i_eq] at c_16
              unfold d_cut_67
              unfold d_cut_291
              have l_17 : (1 : Int32).toInt = 1 := by decide
              have e_18 := i_add (x := x1) (y := 1) (by omega) (by omega)
              exact ih hF hA (fun q hq => (bF q hq)) (fun q hq => (bA q hq)) (by omega) (by omega) (by omega)
            · rw [i_neq] at c_16
              have l_19 : (32 : Int32).toInt = 32 := by decide
              refine ok_cond (fun c_20 => ?_) (fun c_20 => ?_)
              · rw [i_ne] at c_20
                refine ok_call (s_d_isLetter ) ?_
                intro v_21 v_21_p
                have v_21_p : (v_21.toInt = 0 ∨ (v_21.toInt = 1 ∧ 97 ≤ v_4.toInt ∧ v_4.toInt ≤ 122)) ∧ (v_21.toInt ≠ 0 ∨ v_4.toInt < 97 ∨ 122 < v_4.toInt) := v_21_p
                have l_22 : (0 : Int32).toInt = 0 := by decide
                refine ok_cond (fun c_23 => ?_) (fun c_23 => ?_)
                · rw [i_eq] at c_23
                  refine ok_call (s_d_isDigit ) ?_
                  intro v_24 v_24_p
                  have v_24_p : (v_24.toInt = 0 ∨ (v_24.toInt = 1 ∧ 48 ≤ v_4.toInt ∧ v_4.toInt ≤ 57)) ∧ (v_24.toInt ≠ 0 ∨ v_4.toInt < 48 ∨ 57 < v_4.toInt) := v_24_p
                  refine ok_cond (fun c_25 => ?_) (fun c_25 => ?_)
                  · rw [i_eq] at c_25
                    have l_26 : (1 : Int32).toInt = 1 := by decide
                    have e_27 := i_add (x := x1) (y := 1) (by omega) (by omega)
                    refine ok_call (s_d_byteAt hF (by omega)) ?_
                    intro v_28 v_28_p
                    have v_28_p : v_28.toInt = bAt F A (x1 + 1).toInt ∧ (v_28.toInt = 0 ∨ (x1 + 1).toInt < (F 4).toInt) := v_28_p
                    refine ok_call (s_d_sign hF hA (by omega)) ?_
                    rintro ⟨v_29, F_30, A_31, J_32⟩ ⟨hF_30, hA_31, F_30_o, A_31_o, v_29_p⟩
                    dsimp only at hF_30 hA_31 F_30_o A_31_o v_29_p ⊢
                    have v_29_p : v_29.toInt = 1 ∧ (F_30 10).toInt = (F 10).toInt + 1 := v_29_p
                    have r_33 : 0 ≤ (F_30 18).toInt ∧ (F_30 18).toInt ≤ 1 := hF_30 18
                    have r_34 : 0 ≤ (F 18).toInt ∧ (F 18).toInt ≤ 1 := hF 18
                    have f_35 : (F_30 18).toInt = (F 18).toInt := congrArg Int32.toInt (F_30_o 18 (by decide))
                    unfold d_cut_291
                    have e_36 := i_add (x := x1) (y := v_29) (by omega) (by omega)
                    exact ih hF_30 hA_31 (fun q hq => ((F_30_o q hq).trans (bF q hq))) (fun q hq => ((A_31_o q hq).trans (bA q hq))) (by omega) (by omega) (by omega)
                  · rw [i_neq] at c_25
                    have e_37 := i_add (x := x1) (y := 0) (by omega) (by omega)
                    exact s_d_cut_208 (K7 := (d_cut_7 n)) hF hA (fun q hq => (bF q hq)) (fun q hq => (bA q hq)) (by omega) (by omega) (by omega) (by omega) (by omega) (by omega) (fun F A J x3 hF hA bF bA hx => ih hF hA bF bA (by omega) (by omega) (by omega)) (by omega)
                · rw [i_neq] at c_23
                  have e_38 := i_add (x := x1) (y := 0) (by omega) (by omega)
                  exact s_d_cut_85 (K7 := (d_cut_7 n)) hF hA (fun q hq => (bF q hq)) (fun q hq => (bA q hq)) (by omega) (by omega) (by omega) (by omega) (by omega) (fun F A J x3 hF hA bF bA hx => ih hF hA bF bA (by omega) (by omega) (by omega)) (by omega)
              · rw [i_nne] at c_20
                unfold d_cut_67
                unfold d_cut_291
                have l_39 : (1 : Int32).toInt = 1 := by decide
                have e_40 := i_add (x := x1) (y := 1) (by omega) (by omega)
                exact ih hF hA (fun q hq => (bF q hq)) (fun q hq => (bA q hq)) (by omega) (by omega) (by omega)
      · rw [i_nlt] at c_6
        have l_41 : (0 : Int32).toInt = 0 := by decide
        refine ok_call (s_d_token hF hA (by omega) (by omega)) ?_
        rintro ⟨u_42, F_43, A_44, J_45⟩ ⟨hF_43, hA_44, F_43_o, A_44_o, u_42_p⟩
        dsimp only at hF_43 hA_44 F_43_o A_44_o u_42_p ⊢
        have u_42_p : (F_43 10).toInt = (F 10).toInt + 1 := u_42_p
        have r_46 : 0 ≤ (F_43 18).toInt ∧ (F_43 18).toInt ≤ 1 := hF_43 18
        have r_47 : 0 ≤ (F 18).toInt ∧ (F 18).toInt ≤ 1 := hF 18
        have f_48 : (F_43 18).toInt = (F 18).toInt := congrArg Int32.toInt (F_43_o 18 (by decide))
        refine ok_some ?_
        refine ⟨hF_43, hA_44, (fun q hq => ((F_43_o q hq).trans (bF q hq))), (fun q hq => ((A_44_o q hq).trans (bA q hq))), ?_⟩
        (first | trivial | omega | exact ⟨by omega, by omega⟩ | assumption)
set_option maxRecDepth 10000 in
theorem s_d_cut {n : Nat} {F : Nat → Int32} {A : Nat → Nat → Int32} {J : Nat → Nat → Int64}  (hF : IFm F) (hA : IAm A) (hn : 6100 ≤ n) : ok (d_cut n F A J) (fun r => IFm r.2.1 ∧ IAm r.2.2.1 ∧ (∀ q, q ∉ ([10] : List Nat) → r.2.1 q = F q) ∧ (∀ q, q ∉ ([3, 4, 5] : List Nat) → r.2.2.1 q = A q) ∧ True) := by
  have r18 : 0 ≤ (F 18).toInt ∧ (F 18).toInt ≤ 1 := hF 18
  unfold d_cut
  have l_1 : (0 : Int32).toInt = 0 := by decide
  refine ok_pf hF (⟨by omega, by omega⟩) ?_
  intro F_2 hF_2 F_2_k F_2_o
  have z10 : (F_2 10).toInt = 0 := by rw [F_2_k]; decide
  refine ok_mono (s_d_cut_7 hF_2 hA (fun q hq => (F_2_o q (fun e => hq (by rw [e]; decide)))) (fun q hq => rfl) (by omega) (by omega) (by omega)) ?_
  rintro ⟨v_3, F_4, A_5, J_6⟩ ⟨hF_4, hA_5, F_4_o, A_5_o, v_3_p⟩
  dsimp only at hF_4 hA_5 F_4_o A_5_o v_3_p ⊢
  refine ⟨hF_4, hA_5, (fun q hq => (F_4_o q hq)), (fun q hq => (A_5_o q hq)), ?_⟩
  (first | trivial | omega | exact ⟨by omega, by omega⟩ | assumption)
