set_option maxRecDepth 10000 in
theorem s_d_is {F : Nat → Int32} {A : Nat → Nat → Int32} {J : Nat → Nat → Int64} {x1 : Int32} (hF : IFm F) (hA : IAm A) : ok (d_is F A J x1) (fun v => (v.toInt = 0 ∨ (v.toInt = 1 ∧ (F 13).toInt = 0 ∧ ai A 3 (F 11).toInt = x1.toInt)) ∧ (v.toInt ≠ 0 ∨ (F 13).toInt ≠ 0 ∨ ai A 3 (F 11).toInt ≠ x1.toInt)) := by
  have r18 : 0 ≤ (F 18).toInt ∧ (F 18).toInt ≤ 1 := hF 18
  have r_1 : 0 ≤ (F 11).toInt ∧ (F 11).toInt ≤ 400 := hF 11
  have r_2 : 0 ≤ (F 13).toInt ∧ (F 13).toInt ≤ 5 := hF 13
  have r_3 : 0 ≤ (F 15).toInt ∧ (F 15).toInt ≤ 5 := hF 15
  have r_4 : 0 ≤ (F 18).toInt ∧ (F 18).toInt ≤ 1 := hF 18
  unfold d_is
  have l_5 : (0 : Int32).toInt = 0 := by decide
  refine ok_cond (fun c_6 => ?_) (fun c_6 => ?_)
  · rw [i_ne] at c_6
    refine ok_some ?_
    exact ⟨by omega, by omega⟩
  · rw [i_nne] at c_6
    refine ok_ld (j := 3) hA (by omega) (by omega) ?_
    intro v_7 v_7_e v_7_r
    refine ok_cond (fun c_8 => ?_) (fun c_8 => ?_)
    · rw [i_ne] at c_8
      refine ok_some ?_
      exact ⟨by omega, by omega⟩
    · rw [i_nne] at c_8
      refine ok_some ?_
      have l_9 : (1 : Int32).toInt = 1 := by decide
      exact ⟨by omega, by omega⟩
set_option maxRecDepth 10000 in
theorem s_d_fail {F : Nat → Int32} {A : Nat → Nat → Int32} {J : Nat → Nat → Int64} {x1 : Int32} (hF : IFm F) (hA : IAm A) (rx1 : 1 ≤ x1.toInt ∧ x1.toInt ≤ 5) : ok (d_fail F A J x1) (fun r => IFm r.2.1 ∧ IAm r.2.2.1 ∧ (∀ q, q ∉ ([13, 14] : List Nat) → r.2.1 q = F q) ∧ (∀ q, q ∉ ([] : List Nat) → r.2.2.1 q = A q) ∧ 1 ≤ (r.2.1 13).toInt) := by
  have r18 : 0 ≤ (F 18).toInt ∧ (F 18).toInt ≤ 1 := hF 18
  have r_1 : 0 ≤ (F 11).toInt ∧ (F 11).toInt ≤ 400 := hF 11
  have r_2 : 0 ≤ (F 13).toInt ∧ (F 13).toInt ≤ 5 := hF 13
  have r_3 : 0 ≤ (F 15).toInt ∧ (F 15).toInt ≤ 5 := hF 15
  have r_4 : 0 ≤ (F 18).toInt ∧ (F 18).toInt ≤ 1 := hF 18
  unfold d_fail
  have l_5 : (0 : Int32).toInt = 0 := by decide
  refine ok_cond (fun c_6 => ?_) (fun c_6 => ?_)
  · rw [i_le] at c_6
    refine ok_pf hF (⟨by omega, by omega⟩) ?_
    intro F_7 hF_7 F_7_k F_7_o
    have r_8 : 0 ≤ (F_7 11).toInt ∧ (F_7 11).toInt ≤ 400 := hF_7 11
    have f_9 : (F_7 11).toInt = (F 11).toInt := congrArg Int32.toInt (F_7_o 11 (by decide))
    have r_10 : 0 ≤ (F_7 13).toInt ∧ (F_7 13).toInt ≤ 5 := hF_7 13
    have f_11 : (F_7 13).toInt = (x1).toInt := congrArg Int32.toInt F_7_k
    have r_12 : 0 ≤ (F_7 15).toInt ∧ (F_7 15).toInt ≤ 5 := hF_7 15
    have f_13 : (F_7 15).toInt = (F 15).toInt := congrArg Int32.toInt (F_7_o 15 (by decide))
    have r_14 : 0 ≤ (F_7 18).toInt ∧ (F_7 18).toInt ≤ 1 := hF_7 18
    have f_15 : (F_7 18).toInt = (F 18).toInt := congrArg Int32.toInt (F_7_o 18 (by decide))
    refine ok_ld (j := 4) hA (by omega) (by omega) ?_
    intro v_16 v_16_e v_16_r
    refine ok_pf hF_7 (trivial) ?_
    intro F_17 hF_17 F_17_k F_17_o
    have r_18 : 0 ≤ (F_17 11).toInt ∧ (F_17 11).toInt ≤ 400 := hF_17 11
    have f_19 : (F_17 11).toInt = (F_7 11).toInt := congrArg Int32.toInt (F_17_o 11 (by decide))
    have r_20 : 0 ≤ (F_17 13).toInt ∧ (F_17 13).toInt ≤ 5 := hF_17 13
    have f_21 : (F_17 13).toInt = (F_7 13).toInt := congrArg Int32.toInt (F_17_o 13 (by decide))
    have r_22 : 0 ≤ (F_17 15).toInt ∧ (F_17 15).toInt ≤ 5 := hF_17 15
    have f_23 : (F_17 15).toInt = (F_7 15).toInt := congrArg Int32.toInt (F_17_o 15 (by decide))
    have r_24 : 0 ≤ (F_17 18).toInt ∧ (F_17 18).toInt ≤ 1 := hF_17 18
    have f_25 : (F_17 18).toInt = (F_7 18).toInt := congrArg Int32.toInt (F_17_o 18 (by decide))
    refine ok_some ?_
    refine ⟨hF_17, hA, (fun q hq => ((F_17_o q (fun e => hq (by rw [e]; decide))).trans (F_7_o q (fun e => hq (by rw [e]; decide))))), (fun q hq => rfl), ?_⟩
    (try dsimp only) <;> omega
  · rw [i_nle] at c_6
    refine ok_some ?_
    refine ⟨hF, hA, (fun q hq => rfl), (fun q hq => rfl), ?_⟩
    (try dsimp only) <;> omega
set_option maxRecDepth 10000 in
theorem s_d_failAt {F : Nat → Int32} {A : Nat → Nat → Int32} {J : Nat → Nat → Int64} {x1 : Int32} {x2 : Int32} (hF : IFm F) (hA : IAm A) (rx1 : 1 ≤ x1.toInt ∧ x1.toInt ≤ 5) (rx2 : 0 ≤ x2.toInt ∧ x2.toInt ≤ 402) : ok (d_failAt F A J x1 x2) (fun r => IFm r.2.1 ∧ IAm r.2.2.1 ∧ (∀ q, q ∉ ([13, 14] : List Nat) → r.2.1 q = F q) ∧ (∀ q, q ∉ ([] : List Nat) → r.2.2.1 q = A q) ∧ 1 ≤ (r.2.1 13).toInt) := by
  have r18 : 0 ≤ (F 18).toInt ∧ (F 18).toInt ≤ 1 := hF 18
  have r_1 : 0 ≤ (F 11).toInt ∧ (F 11).toInt ≤ 400 := hF 11
  have r_2 : 0 ≤ (F 13).toInt ∧ (F 13).toInt ≤ 5 := hF 13
  have r_3 : 0 ≤ (F 15).toInt ∧ (F 15).toInt ≤ 5 := hF 15
  have r_4 : 0 ≤ (F 18).toInt ∧ (F 18).toInt ≤ 1 := hF 18
  unfold d_failAt
  have l_5 : (0 : Int32).toInt = 0 := by decide
  refine ok_cond (fun c_6 => ?_) (fun c_6 => ?_)
  · rw [i_le] at c_6
    refine ok_pf hF (⟨by omega, by omega⟩) ?_
    intro F_7 hF_7 F_7_k F_7_o
    have r_8 : 0 ≤ (F_7 11).toInt ∧ (F_7 11).toInt ≤ 400 := hF_7 11
    have f_9 : (F_7 11).toInt = (F 11).toInt := congrArg Int32.toInt (F_7_o 11 (by decide))
    have r_10 : 0 ≤ (F_7 13).toInt ∧ (F_7 13).toInt ≤ 5 := hF_7 13
    have f_11 : (F_7 13).toInt = (x1).toInt := congrArg Int32.toInt F_7_k
    have r_12 : 0 ≤ (F_7 15).toInt ∧ (F_7 15).toInt ≤ 5 := hF_7 15
    have f_13 : (F_7 15).toInt = (F 15).toInt := congrArg Int32.toInt (F_7_o 15 (by decide))
    have r_14 : 0 ≤ (F_7 18).toInt ∧ (F_7 18).toInt ≤ 1 := hF_7 18
    have f_15 : (F_7 18).toInt = (F 18).toInt := congrArg Int32.toInt (F_7_o 18 (by decide))
    refine ok_ld (j := 4) hA (by omega) (by omega) ?_
    intro v_16 v_16_e v_16_r
    refine ok_pf hF_7 (trivial) ?_
    intro F_17 hF_17 F_17_k F_17_o
    have r_18 : 0 ≤ (F_17 11).toInt ∧ (F_17 11).toInt ≤ 400 := hF_17 11
    have f_19 : (F_17 11).toInt = (F_7 11).toInt := congrArg Int32.toInt (F_17_o 11 (by decide))
    have r_20 : 0 ≤ (F_17 13).toInt ∧ (F_17 13).toInt ≤ 5 := hF_17 13
    have f_21 : (F_17 13).toInt = (F_7 13).toInt := congrArg Int32.toInt (F_17_o 13 (by decide))
    have r_22 : 0 ≤ (F_17 15).toInt ∧ (F_17 15).toInt ≤ 5 := hF_17 15
    have f_23 : (F_17 15).toInt = (F_7 15).toInt := congrArg Int32.toInt (F_17_o 15 (by decide))
    have r_24 : 0 ≤ (F_17 18).toInt ∧ (F_17 18).toInt ≤ 1 := hF_17 18
    have f_25 : (F_17 18).toInt = (F_7 18).toInt := congrArg Int32.toInt (F_17_o 18 (by decide))
    refine ok_some ?_
    refine ⟨hF_17, hA, (fun q hq => ((F_17_o q (fun e => hq (by rw [e]; decide))).trans (F_7_o q (fun e => hq (by rw [e]; decide))))), (fun q hq => rfl), ?_⟩
    (try dsimp only) <;> omega
  · rw [i_nle] at c_6
    refine ok_some ?_
    refine ⟨hF, hA, (fun q hq => rfl), (fun q hq => rfl), ?_⟩
    (try dsimp only) <;> omega
set_option maxRecDepth 10000 in
theorem s_d_wrong {F : Nat → Int32} {A : Nat → Nat → Int32} {J : Nat → Nat → Int64} {x1 : Int32} {x2 : Int32} (hF : IFm F) (hA : IAm A) (rx1 : 3 ≤ x1.toInt ∧ x1.toInt ≤ 5) (rx2 : 0 ≤ x2.toInt ∧ x2.toInt ≤ 402) : ok (d_wrong F A J x1 x2) (fun r => IFm r.2.1 ∧ IAm r.2.2.1 ∧ (∀ q, q ∉ ([15, 16] : List Nat) → r.2.1 q = F q) ∧ (∀ q, q ∉ ([] : List Nat) → r.2.2.1 q = A q) ∧ (1 ≤ (F 13).toInt ∨ 1 ≤ (r.2.1 15).toInt) ∧ ((F 15).toInt = 0 ∨ 1 ≤ (r.2.1 15).toInt)) := by
  have r18 : 0 ≤ (F 18).toInt ∧ (F 18).toInt ≤ 1 := hF 18
  have r_1 : 0 ≤ (F 11).toInt ∧ (F 11).toInt ≤ 400 := hF 11
  have r_2 : 0 ≤ (F 13).toInt ∧ (F 13).toInt ≤ 5 := hF 13
  have r_3 : 0 ≤ (F 15).toInt ∧ (F 15).toInt ≤ 5 := hF 15
  have r_4 : 0 ≤ (F 18).toInt ∧ (F 18).toInt ≤ 1 := hF 18
  unfold d_wrong
  refine ok_ld (j := 4) hA (by omega) (by omega) ?_
  intro v_5 v_5_e v_5_r
  have l_6 : (0 : Int32).toInt = 0 := by decide
  refine ok_cond (fun c_7 => ?_) (fun c_7 => ?_)
  · rw [i_gt] at c_7
    refine ok_some ?_
    refine ⟨hF, hA, (fun q hq => rfl), (fun q hq => rfl), ?_⟩
    (try dsimp only) <;> exact ⟨by omega, by omega⟩
  · rw [i_ngt] at c_7
    refine ok_cond (fun c_8 => ?_) (fun c_8 => ?_)
    · rw [i_eq] at c_8
      unfold d_wrong_46
      refine ok_pf hF (⟨by omega, by omega⟩) ?_
      intro F_9 hF_9 F_9_k F_9_o
      have r_10 : 0 ≤ (F_9 11).toInt ∧ (F_9 11).toInt ≤ 400 := hF_9 11
      have f_11 : (F_9 11).toInt = (F 11).toInt := congrArg Int32.toInt (F_9_o 11 (by decide))
      have r_12 : 0 ≤ (F_9 13).toInt ∧ (F_9 13).toInt ≤ 5 := hF_9 13
      have f_13 : (F_9 13).toInt = (F 13).toInt := congrArg Int32.toInt (F_9_o 13 (by decide))
      have r_14 : 0 ≤ (F_9 15).toInt ∧ (F_9 15).toInt ≤ 5 := hF_9 15
      have f_15 : (F_9 15).toInt = (x1).toInt := congrArg Int32.toInt F_9_k
      have r_16 : 0 ≤ (F_9 18).toInt ∧ (F_9 18).toInt ≤ 1 := hF_9 18
      have f_17 : (F_9 18).toInt = (F 18).toInt := congrArg Int32.toInt (F_9_o 18 (by decide))
      refine ok_pf hF_9 (trivial) ?_
      intro F_18 hF_18 F_18_k F_18_o
      have r_19 : 0 ≤ (F_18 11).toInt ∧ (F_18 11).toInt ≤ 400 := hF_18 11
      have f_20 : (F_18 11).toInt = (F_9 11).toInt := congrArg Int32.toInt (F_18_o 11 (by decide))
      have r_21 : 0 ≤ (F_18 13).toInt ∧ (F_18 13).toInt ≤ 5 := hF_18 13
      have f_22 : (F_18 13).toInt = (F_9 13).toInt := congrArg Int32.toInt (F_18_o 13 (by decide))
      have r_23 : 0 ≤ (F_18 15).toInt ∧ (F_18 15).toInt ≤ 5 := hF_18 15
      have f_24 : (F_18 15).toInt = (F_9 15).toInt := congrArg Int32.toInt (F_18_o 15 (by decide))
      have r_25 : 0 ≤ (F_18 18).toInt ∧ (F_18 18).toInt ≤ 1 := hF_18 18
      have f_26 : (F_18 18).toInt = (F_9 18).toInt := congrArg Int32.toInt (F_18_o 18 (by decide))
      refine ok_some ?_
      refine ⟨hF_18, hA, (fun q hq => ((F_18_o q (fun e => hq (by rw [e]; decide))).trans (F_9_o q (fun e => hq (by rw [e]; decide))))), (fun q hq => rfl), ?_⟩
      (try dsimp only) <;> exact ⟨by omega, by omega⟩
    · rw [i_neq] at c_8
      refine ok_cond (fun c_27 => ?_) (fun c_27 => ?_)
      · rw [i_gt] at c_27
        refine ok_some ?_
        refine ⟨hF, hA, (fun q hq => rfl), (fun q hq => rfl), ?_⟩
        (try dsimp only) <;> exact ⟨by omega, by omega⟩
      · rw [i_ngt] at c_27
        refine ok_cond (fun c_28 => ?_) (fun c_28 => ?_)
        · rw [i_ne] at c_28
          unfold d_wrong_46
          refine ok_pf hF (⟨by omega, by omega⟩) ?_
          intro F_29 hF_29 F_29_k F_29_o
          have r_30 : 0 ≤ (F_29 11).toInt ∧ (F_29 11).toInt ≤ 400 := hF_29 11
          have f_31 : (F_29 11).toInt = (F 11).toInt := congrArg Int32.toInt (F_29_o 11 (by decide))
          have r_32 : 0 ≤ (F_29 13).toInt ∧ (F_29 13).toInt ≤ 5 := hF_29 13
          have f_33 : (F_29 13).toInt = (F 13).toInt := congrArg Int32.toInt (F_29_o 13 (by decide))
          have r_34 : 0 ≤ (F_29 15).toInt ∧ (F_29 15).toInt ≤ 5 := hF_29 15
          have f_35 : (F_29 15).toInt = (x1).toInt := congrArg Int32.toInt F_29_k
          have r_36 : 0 ≤ (F_29 18).toInt ∧ (F_29 18).toInt ≤ 1 := hF_29 18
          have f_37 : (F_29 18).toInt = (F 18).toInt := congrArg Int32.toInt (F_29_o 18 (by decide))
          refine ok_pf hF_29 (trivial) ?_
          intro F_38 hF_38 F_38_k F_38_o
          have r_39 : 0 ≤ (F_38 11).toInt ∧ (F_38 11).toInt ≤ 400 := hF_38 11
          have f_40 : (F_38 11).toInt = (F_29 11).toInt := congrArg Int32.toInt (F_38_o 11 (by decide))
          have r_41 : 0 ≤ (F_38 13).toInt ∧ (F_38 13).toInt ≤ 5 := hF_38 13
          have f_42 : (F_38 13).toInt = (F_29 13).toInt := congrArg Int32.toInt (F_38_o 13 (by decide))
          have r_43 : 0 ≤ (F_38 15).toInt ∧ (F_38 15).toInt ≤ 5 := hF_38 15
          have f_44 : (F_38 15).toInt = (F_29 15).toInt := congrArg Int32.toInt (F_38_o 15 (by decide))
          have r_45 : 0 ≤ (F_38 18).toInt ∧ (F_38 18).toInt ≤ 1 := hF_38 18
          have f_46 : (F_38 18).toInt = (F_29 18).toInt := congrArg Int32.toInt (F_38_o 18 (by decide))
          refine ok_some ?_
          refine ⟨hF_38, hA, (fun q hq => ((F_38_o q (fun e => hq (by rw [e]; decide))).trans (F_29_o q (fun e => hq (by rw [e]; decide))))), (fun q hq => rfl), ?_⟩
          (try dsimp only) <;> exact ⟨by omega, by omega⟩
        · rw [i_nne] at c_28
          refine ok_cond (fun c_47 => ?_) (fun c_47 => ?_)
          · rw [i_lt] at c_47
            unfold d_wrong_46
            refine ok_pf hF (⟨by omega, by omega⟩) ?_
            intro F_48 hF_48 F_48_k F_48_o
            have r_49 : 0 ≤ (F_48 11).toInt ∧ (F_48 11).toInt ≤ 400 := hF_48 11
            have f_50 : (F_48 11).toInt = (F 11).toInt := congrArg Int32.toInt (F_48_o 11 (by decide))
            have r_51 : 0 ≤ (F_48 13).toInt ∧ (F_48 13).toInt ≤ 5 := hF_48 13
            have f_52 : (F_48 13).toInt = (F 13).toInt := congrArg Int32.toInt (F_48_o 13 (by decide))
            have r_53 : 0 ≤ (F_48 15).toInt ∧ (F_48 15).toInt ≤ 5 := hF_48 15
            have f_54 : (F_48 15).toInt = (x1).toInt := congrArg Int32.toInt F_48_k
            have r_55 : 0 ≤ (F_48 18).toInt ∧ (F_48 18).toInt ≤ 1 := hF_48 18
            have f_56 : (F_48 18).toInt = (F 18).toInt := congrArg Int32.toInt (F_48_o 18 (by decide))
            refine ok_pf hF_48 (trivial) ?_
            intro F_57 hF_57 F_57_k F_57_o
            have r_58 : 0 ≤ (F_57 11).toInt ∧ (F_57 11).toInt ≤ 400 := hF_57 11
            have f_59 : (F_57 11).toInt = (F_48 11).toInt := congrArg Int32.toInt (F_57_o 11 (by decide))
            have r_60 : 0 ≤ (F_57 13).toInt ∧ (F_57 13).toInt ≤ 5 := hF_57 13
            have f_61 : (F_57 13).toInt = (F_48 13).toInt := congrArg Int32.toInt (F_57_o 13 (by decide))
            have r_62 : 0 ≤ (F_57 15).toInt ∧ (F_57 15).toInt ≤ 5 := hF_57 15
            have f_63 : (F_57 15).toInt = (F_48 15).toInt := congrArg Int32.toInt (F_57_o 15 (by decide))
            have r_64 : 0 ≤ (F_57 18).toInt ∧ (F_57 18).toInt ≤ 1 := hF_57 18
            have f_65 : (F_57 18).toInt = (F_48 18).toInt := congrArg Int32.toInt (F_57_o 18 (by decide))
            refine ok_some ?_
            refine ⟨hF_57, hA, (fun q hq => ((F_57_o q (fun e => hq (by rw [e]; decide))).trans (F_48_o q (fun e => hq (by rw [e]; decide))))), (fun q hq => rfl), ?_⟩
            (try dsimp only) <;> exact ⟨by omega, by omega⟩
          · rw [i_nlt] at c_47
            refine ok_some ?_
            refine ⟨hF, hA, (fun q hq => rfl), (fun q hq => rfl), ?_⟩
            (try dsimp only) <;> exact ⟨by omega, by omega⟩
set_option maxRecDepth 10000 in
theorem s_d_goesOn {F : Nat → Int32} {A : Nat → Nat → Int32} {J : Nat → Nat → Int64}  (hF : IFm F) (hA : IAm A) : ok (d_goesOn F A J) (fun r => IFm r.2.1 ∧ IAm r.2.2.1 ∧ (∀ q, q ∉ ([11, 13, 14] : List Nat) → r.2.1 q = F q) ∧ (∀ q, q ∉ ([] : List Nat) → r.2.2.1 q = A q) ∧ (((r.2.1 11).toInt = (F 11).toInt + 1 ∧ (r.2.1 13).toInt = (F 13).toInt) ∨ ((r.2.1 11).toInt = (F 11).toInt ∧ 1 ≤ (r.2.1 13).toInt))) := by
  have r18 : 0 ≤ (F 18).toInt ∧ (F 18).toInt ≤ 1 := hF 18
  have r_1 : 0 ≤ (F 11).toInt ∧ (F 11).toInt ≤ 400 := hF 11
  have r_2 : 0 ≤ (F 13).toInt ∧ (F 13).toInt ≤ 5 := hF 13
  have r_3 : 0 ≤ (F 15).toInt ∧ (F 15).toInt ≤ 5 := hF 15
  have r_4 : 0 ≤ (F 18).toInt ∧ (F 18).toInt ≤ 1 := hF 18
  unfold d_goesOn
  have l_5 : (400 : Int32).toInt = 400 := by decide
  refine ok_cond (fun c_6 => ?_) (fun c_6 => ?_)
  · rw [i_ne] at c_6
    have l_7 : (1 : Int32).toInt = 1 := by decide
    have e_8 := i_add (x := (F 11)) (y := 1) (by omega) (by omega)
    refine ok_pf hF (⟨by omega, by omega⟩) ?_
    intro F_9 hF_9 F_9_k F_9_o
    have r_10 : 0 ≤ (F_9 11).toInt ∧ (F_9 11).toInt ≤ 400 := hF_9 11
    have f_11 : (F_9 11).toInt = (((F 11) + 1)).toInt := congrArg Int32.toInt F_9_k
    have r_12 : 0 ≤ (F_9 13).toInt ∧ (F_9 13).toInt ≤ 5 := hF_9 13
    have f_13 : (F_9 13).toInt = (F 13).toInt := congrArg Int32.toInt (F_9_o 13 (by decide))
    have r_14 : 0 ≤ (F_9 15).toInt ∧ (F_9 15).toInt ≤ 5 := hF_9 15
    have f_15 : (F_9 15).toInt = (F 15).toInt := congrArg Int32.toInt (F_9_o 15 (by decide))
    have r_16 : 0 ≤ (F_9 18).toInt ∧ (F_9 18).toInt ≤ 1 := hF_9 18
    have f_17 : (F_9 18).toInt = (F 18).toInt := congrArg Int32.toInt (F_9_o 18 (by decide))
    refine ok_some ?_
    refine ⟨hF_9, hA, (fun q hq => (F_9_o q (fun e => hq (by rw [e]; decide)))), (fun q hq => rfl), ?_⟩
    (try dsimp only) <;> omega
  · rw [i_nne] at c_6
    have l_18 : (2 : Int32).toInt = 2 := by decide
    refine ok_call (s_d_fail hF hA (by omega)) ?_
    rintro ⟨u_19, F_20, A_21, J_22⟩ ⟨hF_20, hA_21, F_20_o, A_21_o, u_19_p⟩
    dsimp only at hF_20 hA_21 F_20_o A_21_o u_19_p ⊢
    have u_19_p : 1 ≤ (F_20 13).toInt := u_19_p
    have r_23 : 0 ≤ (F_20 11).toInt ∧ (F_20 11).toInt ≤ 400 := hF_20 11
    have f_24 : (F_20 11).toInt = (F 11).toInt := congrArg Int32.toInt (F_20_o 11 (by decide))
    have r_25 : 0 ≤ (F_20 13).toInt ∧ (F_20 13).toInt ≤ 5 := hF_20 13
    have r_26 : 0 ≤ (F_20 15).toInt ∧ (F_20 15).toInt ≤ 5 := hF_20 15
    have f_27 : (F_20 15).toInt = (F 15).toInt := congrArg Int32.toInt (F_20_o 15 (by decide))
    have r_28 : 0 ≤ (F_20 18).toInt ∧ (F_20 18).toInt ≤ 1 := hF_20 18
    have f_29 : (F_20 18).toInt = (F 18).toInt := congrArg Int32.toInt (F_20_o 18 (by decide))
    refine ok_some ?_
    refine ⟨hF_20, hA_21, (fun q hq => (F_20_o q (fun e => hq ((by decide : ∀ x, x ∈ ([13, 14] : List Nat) → x ∈ ([11, 13, 14] : List Nat)) q e)))), (fun q hq => (A_21_o q hq)), ?_⟩
    (try dsimp only) <;> omega
set_option maxRecDepth 10000 in
theorem s_d_must {F : Nat → Int32} {A : Nat → Nat → Int32} {J : Nat → Nat → Int64} {x1 : Int32} (hF : IFm F) (hA : IAm A) : ok (d_must F A J x1) (fun r => IFm r.2.1 ∧ IAm r.2.2.1 ∧ (∀ q, q ∉ ([11, 13, 14] : List Nat) → r.2.1 q = F q) ∧ (∀ q, q ∉ ([] : List Nat) → r.2.2.1 q = A q) ∧ (((F 13).toInt = 0 ∧ (r.2.1 11).toInt = (F 11).toInt + 1 ∧ (r.2.1 13).toInt = 0) ∨ ((r.2.1 11).toInt = (F 11).toInt ∧ 1 ≤ (r.2.1 13).toInt))) := by
  have r18 : 0 ≤ (F 18).toInt ∧ (F 18).toInt ≤ 1 := hF 18
  have r_1 : 0 ≤ (F 11).toInt ∧ (F 11).toInt ≤ 400 := hF 11
  have r_2 : 0 ≤ (F 13).toInt ∧ (F 13).toInt ≤ 5 := hF 13
  have r_3 : 0 ≤ (F 15).toInt ∧ (F 15).toInt ≤ 5 := hF 15
  have r_4 : 0 ≤ (F 18).toInt ∧ (F 18).toInt ≤ 1 := hF 18
  unfold d_must
  refine ok_call (s_d_is hF hA) ?_
  intro v_5 v_5_p
  have v_5_p : (v_5.toInt = 0 ∨ (v_5.toInt = 1 ∧ (F 13).toInt = 0 ∧ ai A 3 (F 11).toInt = x1.toInt)) ∧ (v_5.toInt ≠ 0 ∨ (F 13).toInt ≠ 0 ∨ ai A 3 (F 11).toInt ≠ x1.toInt) := v_5_p
  have l_6 : (0 : Int32).toInt = 0 := by decide
  refine ok_cond (fun c_7 => ?_) (fun c_7 => ?_)
  · rw [i_eq] at c_7
    have l_8 : (1 : Int32).toInt = 1 := by decide
    refine ok_call (s_d_fail hF hA (by omega)) ?_
    rintro ⟨u_9, F_10, A_11, J_12⟩ ⟨hF_10, hA_11, F_10_o, A_11_o, u_9_p⟩
    dsimp only at hF_10 hA_11 F_10_o A_11_o u_9_p ⊢
    have u_9_p : 1 ≤ (F_10 13).toInt := u_9_p
    have r_13 : 0 ≤ (F_10 11).toInt ∧ (F_10 11).toInt ≤ 400 := hF_10 11
    have f_14 : (F_10 11).toInt = (F 11).toInt := congrArg Int32.toInt (F_10_o 11 (by decide))
    have r_15 : 0 ≤ (F_10 13).toInt ∧ (F_10 13).toInt ≤ 5 := hF_10 13
    have r_16 : 0 ≤ (F_10 15).toInt ∧ (F_10 15).toInt ≤ 5 := hF_10 15
    have f_17 : (F_10 15).toInt = (F 15).toInt := congrArg Int32.toInt (F_10_o 15 (by decide))
    have r_18 : 0 ≤ (F_10 18).toInt ∧ (F_10 18).toInt ≤ 1 := hF_10 18
    have f_19 : (F_10 18).toInt = (F 18).toInt := congrArg Int32.toInt (F_10_o 18 (by decide))
    refine ok_some ?_
    refine ⟨hF_10, hA_11, (fun q hq => (F_10_o q (fun e => hq ((by decide : ∀ x, x ∈ ([13, 14] : List Nat) → x ∈ ([11, 13, 14] : List Nat)) q e)))), (fun q hq => (A_11_o q hq)), ?_⟩
    (try dsimp only) <;> omega
  · rw [i_neq] at c_7
    refine ok_call (s_d_goesOn hF hA) ?_
    rintro ⟨u_20, F_21, A_22, J_23⟩ ⟨hF_21, hA_22, F_21_o, A_22_o, u_20_p⟩
    dsimp only at hF_21 hA_22 F_21_o A_22_o u_20_p ⊢
    have u_20_p : (((F_21 11).toInt = (F 11).toInt + 1 ∧ (F_21 13).toInt = (F 13).toInt) ∨ ((F_21 11).toInt = (F 11).toInt ∧ 1 ≤ (F_21 13).toInt)) := u_20_p
    have r_24 : 0 ≤ (F_21 11).toInt ∧ (F_21 11).toInt ≤ 400 := hF_21 11
    have r_25 : 0 ≤ (F_21 13).toInt ∧ (F_21 13).toInt ≤ 5 := hF_21 13
    have r_26 : 0 ≤ (F_21 15).toInt ∧ (F_21 15).toInt ≤ 5 := hF_21 15
    have f_27 : (F_21 15).toInt = (F 15).toInt := congrArg Int32.toInt (F_21_o 15 (by decide))
    have r_28 : 0 ≤ (F_21 18).toInt ∧ (F_21 18).toInt ≤ 1 := hF_21 18
    have f_29 : (F_21 18).toInt = (F 18).toInt := congrArg Int32.toInt (F_21_o 18 (by decide))
    refine ok_some ?_
    refine ⟨hF_21, hA_22, (fun q hq => (F_21_o q hq)), (fun q hq => (A_22_o q hq)), ?_⟩
    (try dsimp only) <;> omega
set_option maxRecDepth 10000 in
theorem s_d_roomFor {F : Nat → Int32} {A : Nat → Nat → Int32} {J : Nat → Nat → Int64} {x1 : Int32} {x2 : Int32} (hF : IFm F) (hA : IAm A) : ok (d_roomFor F A J x1 x2) (fun r => IFm r.2.1 ∧ IAm r.2.2.1 ∧ (∀ q, q ∉ ([11, 13, 14] : List Nat) → r.2.1 q = F q) ∧ (∀ q, q ∉ ([] : List Nat) → r.2.2.1 q = A q) ∧ (((F 13).toInt = 0 ∧ x1.toInt ≠ x2.toInt ∧ (r.2.1 11).toInt = (F 11).toInt + 1 ∧ (r.2.1 13).toInt = 0) ∨ ((r.2.1 11).toInt = (F 11).toInt ∧ 1 ≤ (r.2.1 13).toInt))) := by
  have r18 : 0 ≤ (F 18).toInt ∧ (F 18).toInt ≤ 1 := hF 18
  have r_1 : 0 ≤ (F 11).toInt ∧ (F 11).toInt ≤ 400 := hF 11
  have r_2 : 0 ≤ (F 13).toInt ∧ (F 13).toInt ≤ 5 := hF 13
  have r_3 : 0 ≤ (F 15).toInt ∧ (F 15).toInt ≤ 5 := hF 15
  have r_4 : 0 ≤ (F 18).toInt ∧ (F 18).toInt ≤ 1 := hF 18
  unfold d_roomFor
  refine ok_cond (fun c_5 => ?_) (fun c_5 => ?_)
  · rw [i_ne] at c_5
    unfold d_roomFor_10
    have l_6 : (0 : Int32).toInt = 0 := by decide
    refine ok_cond (fun c_7 => ?_) (fun c_7 => ?_)
    · rw [i_ne] at c_7
      refine ok_some ?_
      refine ⟨hF, hA, (fun q hq => rfl), (fun q hq => rfl), ?_⟩
      (try dsimp only) <;> omega
    · rw [i_nne] at c_7
      refine ok_call (s_d_goesOn hF hA) ?_
      rintro ⟨u_8, F_9, A_10, J_11⟩ ⟨hF_9, hA_10, F_9_o, A_10_o, u_8_p⟩
      dsimp only at hF_9 hA_10 F_9_o A_10_o u_8_p ⊢
      have u_8_p : (((F_9 11).toInt = (F 11).toInt + 1 ∧ (F_9 13).toInt = (F 13).toInt) ∨ ((F_9 11).toInt = (F 11).toInt ∧ 1 ≤ (F_9 13).toInt)) := u_8_p
      have r_12 : 0 ≤ (F_9 11).toInt ∧ (F_9 11).toInt ≤ 400 := hF_9 11
      have r_13 : 0 ≤ (F_9 13).toInt ∧ (F_9 13).toInt ≤ 5 := hF_9 13
      have r_14 : 0 ≤ (F_9 15).toInt ∧ (F_9 15).toInt ≤ 5 := hF_9 15
      have f_15 : (F_9 15).toInt = (F 15).toInt := congrArg Int32.toInt (F_9_o 15 (by decide))
      have r_16 : 0 ≤ (F_9 18).toInt ∧ (F_9 18).toInt ≤ 1 := hF_9 18
      have f_17 : (F_9 18).toInt = (F 18).toInt := congrArg Int32.toInt (F_9_o 18 (by decide))
      refine ok_some ?_
      refine ⟨hF_9, hA_10, (fun q hq => (F_9_o q hq)), (fun q hq => (A_10_o q hq)), ?_⟩
      (try dsimp only) <;> omega
  · rw [i_nne] at c_5
    have l_18 : (2 : Int32).toInt = 2 := by decide
    refine ok_call (s_d_fail hF hA (by omega)) ?_
    rintro ⟨u_19, F_20, A_21, J_22⟩ ⟨hF_20, hA_21, F_20_o, A_21_o, u_19_p⟩
    dsimp only at hF_20 hA_21 F_20_o A_21_o u_19_p ⊢
    have u_19_p : 1 ≤ (F_20 13).toInt := u_19_p
    have r_23 : 0 ≤ (F_20 11).toInt ∧ (F_20 11).toInt ≤ 400 := hF_20 11
    have f_24 : (F_20 11).toInt = (F 11).toInt := congrArg Int32.toInt (F_20_o 11 (by decide))
    have r_25 : 0 ≤ (F_20 13).toInt ∧ (F_20 13).toInt ≤ 5 := hF_20 13
    have r_26 : 0 ≤ (F_20 15).toInt ∧ (F_20 15).toInt ≤ 5 := hF_20 15
    have f_27 : (F_20 15).toInt = (F 15).toInt := congrArg Int32.toInt (F_20_o 15 (by decide))
    have r_28 : 0 ≤ (F_20 18).toInt ∧ (F_20 18).toInt ≤ 1 := hF_20 18
    have f_29 : (F_20 18).toInt = (F 18).toInt := congrArg Int32.toInt (F_20_o 18 (by decide))
    have l_30 : (0 : Int32).toInt = 0 := by decide
    refine ok_cond (fun c_31 => ?_) (fun c_31 => ?_)
    · rw [i_ne] at c_31
      refine ok_some ?_
      refine ⟨hF_20, hA_21, (fun q hq => (F_20_o q (fun e => hq ((by decide : ∀ x, x ∈ ([13, 14] : List Nat) → x ∈ ([11, 13, 14] : List Nat)) q e)))), (fun q hq => (A_21_o q hq)), ?_⟩
      (try dsimp only) <;> omega
    · rw [i_nne] at c_31
      refine ok_call (s_d_goesOn hF_20 hA_21) ?_
      rintro ⟨u_32, F_33, A_34, J_35⟩ ⟨hF_33, hA_34, F_33_o, A_34_o, u_32_p⟩
      dsimp only at hF_33 hA_34 F_33_o A_34_o u_32_p ⊢
      have u_32_p : (((F_33 11).toInt = (F_20 11).toInt + 1 ∧ (F_33 13).toInt = (F_20 13).toInt) ∨ ((F_33 11).toInt = (F_20 11).toInt ∧ 1 ≤ (F_33 13).toInt)) := u_32_p
      have r_36 : 0 ≤ (F_33 11).toInt ∧ (F_33 11).toInt ≤ 400 := hF_33 11
      have r_37 : 0 ≤ (F_33 13).toInt ∧ (F_33 13).toInt ≤ 5 := hF_33 13
      have r_38 : 0 ≤ (F_33 15).toInt ∧ (F_33 15).toInt ≤ 5 := hF_33 15
      have f_39 : (F_33 15).toInt = (F_20 15).toInt := congrArg Int32.toInt (F_33_o 15 (by decide))
      have r_40 : 0 ≤ (F_33 18).toInt ∧ (F_33 18).toInt ≤ 1 := hF_33 18
      have f_41 : (F_33 18).toInt = (F_20 18).toInt := congrArg Int32.toInt (F_33_o 18 (by decide))
      refine ok_some ?_
      refine ⟨hF_33, hA_34, (fun q hq => ((F_33_o q hq).trans (F_20_o q (fun e => hq ((by decide : ∀ x, x ∈ ([13, 14] : List Nat) → x ∈ ([11, 13, 14] : List Nat)) q e))))), (fun q hq => ((A_34_o q hq).trans (A_21_o q hq))), ?_⟩
      (try dsimp only) <;> omega
set_option maxRecDepth 10000 in
theorem s_d_named_12  {n : Nat} {F : Nat → Int32} {A : Nat → Nat → Int32} {J : Nat → Nat → Int64} {x1 : Int32} {x2 : Int32} (hF : IFm F) (hA : IAm A) (rx1 : 0 ≤ x1.toInt ∧ x1.toInt ≤ 402) (rx2 : 0 ≤ x2.toInt ∧ x2.toInt ≤ 32) (hn : 33 - x2.toInt < (n : Int)) : ok (d_named_12 n F A J x1 x2) (fun r => IFm r.2.1 ∧ IAm r.2.2.1 ∧ (∀ q, q ∉ ([15, 16] : List Nat) → r.2.1 q = F q) ∧ (∀ q, q ∉ ([] : List Nat) → r.2.2.1 q = A q) ∧ r.1 = x1 ∧ ((F 15).toInt = 0 ∨ 1 ≤ (r.2.1 15).toInt)) := by
  induction n generalizing F A J x2 with
  | zero => exact absurd hn (by omega)
  | succ n ih =>
    have r18 : 0 ≤ (F 18).toInt ∧ (F 18).toInt ≤ 1 := hF 18
    have r_1 : 0 ≤ (F 11).toInt ∧ (F 11).toInt ≤ 400 := hF 11
    have r_2 : 0 ≤ (F 13).toInt ∧ (F 13).toInt ≤ 5 := hF 13
    have r_3 : 0 ≤ (F 15).toInt ∧ (F 15).toInt ≤ 5 := hF 15
    have r_4 : 0 ≤ (F 18).toInt ∧ (F 18).toInt ≤ 1 := hF 18
    have r_5 : 0 ≤ (F 19).toInt ∧ (F 19).toInt ≤ 1 := hF 19
    have r_6 : 0 ≤ (F 20).toInt ∧ (F 20).toInt ≤ 32 := hF 20
    unfold d_named_12
    refine ok_cond (fun c_7 => ?_) (fun c_7 => ?_)
    · rw [i_ge] at c_7
      refine ok_some ?_
      refine ⟨hF, hA, (fun q hq => rfl), (fun q hq => rfl), ?_⟩
      exact ⟨rfl, by (try dsimp only) <;> omega⟩
    · rw [i_nge] at c_7
      have l_8 : (0 : Int32).toInt = 0 := by decide
      refine ok_cond (fun c_9 => ?_) (fun c_9 => ?_)
      · rw [i_ne] at c_9
        refine ok_some ?_
        refine ⟨hF, hA, (fun q hq => rfl), (fun q hq => rfl), ?_⟩
        exact ⟨rfl, by (try dsimp only) <;> omega⟩
      · rw [i_nne] at c_9
        refine ok_ldJ1 (by omega) (by omega) ?_
        intro v_10
        refine ok_ldJ1 (by omega) (by omega) ?_
        intro v_11
        refine ok_cond (fun c_12 => ?_) (fun c_12 => ?_)
        · rw [i_ne] at c_12
          unfold d_named_49
          have l_13 : (1 : Int32).toInt = 1 := by decide
          have e_14 := i_add (x := x2) (y := 1) (by omega) (by omega)
          refine ok_mono (ih hF hA (by omega) (by omega)) ?_
          rintro ⟨v_15, F_16, A_17, J_18⟩ ⟨hF_16, hA_17, F_16_o, A_17_o, v_15_p⟩
          dsimp only at hF_16 hA_17 F_16_o A_17_o v_15_p ⊢
          have v_15_p : v_15 = x1 ∧ ((F 15).toInt = 0 ∨ 1 ≤ (F_16 15).toInt) := v_15_p
          have r_19 : 0 ≤ (F_16 11).toInt ∧ (F_16 11).toInt ≤ 400 := hF_16 11
          have f_20 : (F_16 11).toInt = (F 11).toInt := congrArg Int32.toInt (F_16_o 11 (by decide))
          have r_21 : 0 ≤ (F_16 13).toInt ∧ (F_16 13).toInt ≤ 5 := hF_16 13
          have f_22 : (F_16 13).toInt = (F 13).toInt := congrArg Int32.toInt (F_16_o 13 (by decide))
          have r_23 : 0 ≤ (F_16 15).toInt ∧ (F_16 15).toInt ≤ 5 := hF_16 15
          have r_24 : 0 ≤ (F_16 18).toInt ∧ (F_16 18).toInt ≤ 1 := hF_16 18
          have f_25 : (F_16 18).toInt = (F 18).toInt := congrArg Int32.toInt (F_16_o 18 (by decide))
          have r_26 : 0 ≤ (F_16 19).toInt ∧ (F_16 19).toInt ≤ 1 := hF_16 19
          have f_27 : (F_16 19).toInt = (F 19).toInt := congrArg Int32.toInt (F_16_o 19 (by decide))
          have r_28 : 0 ≤ (F_16 20).toInt ∧ (F_16 20).toInt ≤ 32 := hF_16 20
          have f_29 : (F_16 20).toInt = (F 20).toInt := congrArg Int32.toInt (F_16_o 20 (by decide))
          refine ⟨hF_16, hA_17, (fun q hq => (F_16_o q hq)), (fun q hq => (A_17_o q hq)), ?_⟩
          exact ⟨v_15_p.1, by (try dsimp only) <;> omega⟩
        · rw [i_nne] at c_12
          have l_30 : (3 : Int32).toInt = 3 := by decide
          refine ok_call (s_d_wrong hF hA (by omega) (by omega)) ?_
          rintro ⟨u_31, F_32, A_33, J_34⟩ ⟨hF_32, hA_33, F_32_o, A_33_o, u_31_p⟩
          dsimp only at hF_32 hA_33 F_32_o A_33_o u_31_p ⊢
          have u_31_p : (1 ≤ (F 13).toInt ∨ 1 ≤ (F_32 15).toInt) ∧ ((F 15).toInt = 0 ∨ 1 ≤ (F_32 15).toInt) := u_31_p
          have r_35 : 0 ≤ (F_32 11).toInt ∧ (F_32 11).toInt ≤ 400 := hF_32 11
          have f_36 : (F_32 11).toInt = (F 11).toInt := congrArg Int32.toInt (F_32_o 11 (by decide))
          have r_37 : 0 ≤ (F_32 13).toInt ∧ (F_32 13).toInt ≤ 5 := hF_32 13
          have f_38 : (F_32 13).toInt = (F 13).toInt := congrArg Int32.toInt (F_32_o 13 (by decide))
          have r_39 : 0 ≤ (F_32 15).toInt ∧ (F_32 15).toInt ≤ 5 := hF_32 15
          have r_40 : 0 ≤ (F_32 18).toInt ∧ (F_32 18).toInt ≤ 1 := hF_32 18
          have f_41 : (F_32 18).toInt = (F 18).toInt := congrArg Int32.toInt (F_32_o 18 (by decide))
          have r_42 : 0 ≤ (F_32 19).toInt ∧ (F_32 19).toInt ≤ 1 := hF_32 19
          have f_43 : (F_32 19).toInt = (F 19).toInt := congrArg Int32.toInt (F_32_o 19 (by decide))
          have r_44 : 0 ≤ (F_32 20).toInt ∧ (F_32 20).toInt ≤ 32 := hF_32 20
          have f_45 : (F_32 20).toInt = (F 20).toInt := congrArg Int32.toInt (F_32_o 20 (by decide))
          have l_46 : (1 : Int32).toInt = 1 := by decide
          have e_47 := i_add (x := x2) (y := 1) (by omega) (by omega)
          refine ok_mono (ih hF_32 hA_33 (by omega) (by omega)) ?_
          rintro ⟨v_48, F_49, A_50, J_51⟩ ⟨hF_49, hA_50, F_49_o, A_50_o, v_48_p⟩
          dsimp only at hF_49 hA_50 F_49_o A_50_o v_48_p ⊢
          have v_48_p : v_48 = x1 ∧ ((F_32 15).toInt = 0 ∨ 1 ≤ (F_49 15).toInt) := v_48_p
          have r_52 : 0 ≤ (F_49 11).toInt ∧ (F_49 11).toInt ≤ 400 := hF_49 11
          have f_53 : (F_49 11).toInt = (F_32 11).toInt := congrArg Int32.toInt (F_49_o 11 (by decide))
          have r_54 : 0 ≤ (F_49 13).toInt ∧ (F_49 13).toInt ≤ 5 := hF_49 13
          have f_55 : (F_49 13).toInt = (F_32 13).toInt := congrArg Int32.toInt (F_49_o 13 (by decide))
          have r_56 : 0 ≤ (F_49 15).toInt ∧ (F_49 15).toInt ≤ 5 := hF_49 15
          have r_57 : 0 ≤ (F_49 18).toInt ∧ (F_49 18).toInt ≤ 1 := hF_49 18
          have f_58 : (F_49 18).toInt = (F_32 18).toInt := congrArg Int32.toInt (F_49_o 18 (by decide))
          have r_59 : 0 ≤ (F_49 19).toInt ∧ (F_49 19).toInt ≤ 1 := hF_49 19
          have f_60 : (F_49 19).toInt = (F_32 19).toInt := congrArg Int32.toInt (F_49_o 19 (by decide))
          have r_61 : 0 ≤ (F_49 20).toInt ∧ (F_49 20).toInt ≤ 32 := hF_49 20
          have f_62 : (F_49 20).toInt = (F_32 20).toInt := congrArg Int32.toInt (F_49_o 20 (by decide))
          refine ⟨hF_49, hA_50, (fun q hq => ((F_49_o q hq).trans (F_32_o q hq))), (fun q hq => ((A_50_o q hq).trans (A_33_o q hq))), ?_⟩
          exact ⟨v_48_p.1, by (try dsimp only) <;> omega⟩
set_option maxRecDepth 10000 in
theorem s_d_named {n : Nat} {F : Nat → Int32} {A : Nat → Nat → Int32} {J : Nat → Nat → Int64}  (hF : IFm F) (hA : IAm A) (hn : 40 ≤ n) : ok (d_named n F A J) (fun r => IFm r.2.1 ∧ IAm r.2.2.1 ∧ (∀ q, q ∉ ([11, 13, 14, 15, 16] : List Nat) → r.2.1 q = F q) ∧ (∀ q, q ∉ ([] : List Nat) → r.2.2.1 q = A q) ∧ r.1 = F 11 ∧ (((F 13).toInt = 0 ∧ (r.2.1 11).toInt = (F 11).toInt + 1 ∧ (r.2.1 13).toInt = 0) ∨ ((r.2.1 11).toInt = (F 11).toInt ∧ 1 ≤ (r.2.1 13).toInt)) ∧ ((F 15).toInt = 0 ∨ 1 ≤ (r.2.1 15).toInt)) := by
  have r18 : 0 ≤ (F 18).toInt ∧ (F 18).toInt ≤ 1 := hF 18
  have r_1 : 0 ≤ (F 11).toInt ∧ (F 11).toInt ≤ 400 := hF 11
  have r_2 : 0 ≤ (F 13).toInt ∧ (F 13).toInt ≤ 5 := hF 13
  have r_3 : 0 ≤ (F 15).toInt ∧ (F 15).toInt ≤ 5 := hF 15
  have r_4 : 0 ≤ (F 18).toInt ∧ (F 18).toInt ≤ 1 := hF 18
  have r_5 : 0 ≤ (F 19).toInt ∧ (F 19).toInt ≤ 1 := hF 19
  have r_6 : 0 ≤ (F 20).toInt ∧ (F 20).toInt ≤ 32 := hF 20
  unfold d_named
  refine ok_call (s_d_must hF hA) ?_
  rintro ⟨u_7, F_8, A_9, J_10⟩ ⟨hF_8, hA_9, F_8_o, A_9_o, u_7_p⟩
  dsimp only at hF_8 hA_9 F_8_o A_9_o u_7_p ⊢
  have u_7_p : (((F 13).toInt = 0 ∧ (F_8 11).toInt = (F 11).toInt + 1 ∧ (F_8 13).toInt = 0) ∨ ((F_8 11).toInt = (F 11).toInt ∧ 1 ≤ (F_8 13).toInt)) := u_7_p
  have r_11 : 0 ≤ (F_8 11).toInt ∧ (F_8 11).toInt ≤ 400 := hF_8 11
  have r_12 : 0 ≤ (F_8 13).toInt ∧ (F_8 13).toInt ≤ 5 := hF_8 13
  have r_13 : 0 ≤ (F_8 15).toInt ∧ (F_8 15).toInt ≤ 5 := hF_8 15
  have f_14 : (F_8 15).toInt = (F 15).toInt := congrArg Int32.toInt (F_8_o 15 (by decide))
  have r_15 : 0 ≤ (F_8 18).toInt ∧ (F_8 18).toInt ≤ 1 := hF_8 18
  have f_16 : (F_8 18).toInt = (F 18).toInt := congrArg Int32.toInt (F_8_o 18 (by decide))
  have r_17 : 0 ≤ (F_8 19).toInt ∧ (F_8 19).toInt ≤ 1 := hF_8 19
  have f_18 : (F_8 19).toInt = (F 19).toInt := congrArg Int32.toInt (F_8_o 19 (by decide))
  have r_19 : 0 ≤ (F_8 20).toInt ∧ (F_8 20).toInt ≤ 32 := hF_8 20
  have f_20 : (F_8 20).toInt = (F 20).toInt := congrArg Int32.toInt (F_8_o 20 (by decide))
  have l_21 : (0 : Int32).toInt = 0 := by decide
  refine ok_mono (s_d_named_12 hF_8 hA_9 (by omega) (by omega) (by omega)) ?_
  rintro ⟨v_22, F_23, A_24, J_25⟩ ⟨hF_23, hA_24, F_23_o, A_24_o, v_22_p⟩
  dsimp only at hF_23 hA_24 F_23_o A_24_o v_22_p ⊢
  have v_22_p : v_22 = (F 11) ∧ ((F_8 15).toInt = 0 ∨ 1 ≤ (F_23 15).toInt) := v_22_p
  have r_26 : 0 ≤ (F_23 11).toInt ∧ (F_23 11).toInt ≤ 400 := hF_23 11
  have f_27 : (F_23 11).toInt = (F_8 11).toInt := congrArg Int32.toInt (F_23_o 11 (by decide))
  have r_28 : 0 ≤ (F_23 13).toInt ∧ (F_23 13).toInt ≤ 5 := hF_23 13
  have f_29 : (F_23 13).toInt = (F_8 13).toInt := congrArg Int32.toInt (F_23_o 13 (by decide))
  have r_30 : 0 ≤ (F_23 15).toInt ∧ (F_23 15).toInt ≤ 5 := hF_23 15
  have r_31 : 0 ≤ (F_23 18).toInt ∧ (F_23 18).toInt ≤ 1 := hF_23 18
  have f_32 : (F_23 18).toInt = (F_8 18).toInt := congrArg Int32.toInt (F_23_o 18 (by decide))
  have r_33 : 0 ≤ (F_23 19).toInt ∧ (F_23 19).toInt ≤ 1 := hF_23 19
  have f_34 : (F_23 19).toInt = (F_8 19).toInt := congrArg Int32.toInt (F_23_o 19 (by decide))
  have r_35 : 0 ≤ (F_23 20).toInt ∧ (F_23 20).toInt ≤ 32 := hF_23 20
  have f_36 : (F_23 20).toInt = (F_8 20).toInt := congrArg Int32.toInt (F_23_o 20 (by decide))
  refine ⟨hF_23, hA_24, (fun q hq => ((F_23_o q (fun e => hq ((by decide : ∀ x, x ∈ ([15, 16] : List Nat) → x ∈ ([11, 13, 14, 15, 16] : List Nat)) q e))).trans (F_8_o q (fun e => hq ((by decide : ∀ x, x ∈ ([11, 13, 14] : List Nat) → x ∈ ([11, 13, 14, 15, 16] : List Nat)) q e))))), (fun q hq => ((A_24_o q hq).trans (A_9_o q hq))), ?_⟩
  exact ⟨v_22_p.1, by (try dsimp only) <;> omega, by (try dsimp only) <;> omega⟩
set_option maxRecDepth 10000 in
theorem s_d_notes {F : Nat → Int32} {A : Nat → Nat → Int32} {J : Nat → Nat → Int64} {x1 : Int32} {x2 : Int32} {x3 : Int32} (hF : IFm F) (hA : IAm A) (h20 : (F 20).toInt ≤ 31) (rx1 : 0 ≤ x1.toInt ∧ x1.toInt ≤ 402) (rx3 : 0 ≤ x3.toInt ∧ x3.toInt ≤ 7) : ok (d_notes F A J x1 x2 x3) (fun r => IFm r.2.1 ∧ IAm r.2.2.1 ∧ (∀ q, q ∉ ([20] : List Nat) → r.2.1 q = F q) ∧ (∀ q, q ∉ ([9, 10] : List Nat) → r.2.2.1 q = A q) ∧ (r.2.1 20).toInt = (F 20).toInt + 1 ∧ ai r.2.2.1 9 (F 20).toInt = x2.toInt ∧ ai r.2.2.1 10 (F 20).toInt = x3.toInt ∧ (∀ q, 0 ≤ q → q ≠ (F 20).toInt → ai r.2.2.1 9 q = ai A 9 q ∧ ai r.2.2.1 10 q = ai A 10 q)) := by
  have r18 : 0 ≤ (F 18).toInt ∧ (F 18).toInt ≤ 1 := hF 18
  have r_1 : 0 ≤ (F 11).toInt ∧ (F 11).toInt ≤ 400 := hF 11
  have r_2 : 0 ≤ (F 13).toInt ∧ (F 13).toInt ≤ 5 := hF 13
  have r_3 : 0 ≤ (F 15).toInt ∧ (F 15).toInt ≤ 5 := hF 15
  have r_4 : 0 ≤ (F 18).toInt ∧ (F 18).toInt ≤ 1 := hF 18
  have r_5 : 0 ≤ (F 19).toInt ∧ (F 19).toInt ≤ 1 := hF 19
  have r_6 : 0 ≤ (F 20).toInt ∧ (F 20).toInt ≤ 32 := hF 20
  unfold d_notes
  refine ok_ldJ1 (by omega) (by omega) ?_
  intro v_7
  refine ok_stJ1 (by omega) (by omega) ?_
  intro J_8
  refine ok_st (j := 9) hA (by omega) (by omega) (trivial) ?_
  intro A_9 hA_9 A_9_o A_9_s A_9_n
  refine ok_st (j := 10) hA_9 (by omega) (by omega) (⟨by omega, by omega⟩) ?_
  intro A_10 hA_10 A_10_o A_10_s A_10_n
  have l_11 : (1 : Int32).toInt = 1 := by decide
  have e_12 := i_add (x := (F 20)) (y := 1) (by omega) (by omega)
  refine ok_pf hF (⟨by omega, by omega⟩) ?_
  intro F_13 hF_13 F_13_k F_13_o
  have r_14 : 0 ≤ (F_13 11).toInt ∧ (F_13 11).toInt ≤ 400 := hF_13 11
  have f_15 : (F_13 11).toInt = (F 11).toInt := congrArg Int32.toInt (F_13_o 11 (by decide))
  have r_16 : 0 ≤ (F_13 13).toInt ∧ (F_13 13).toInt ≤ 5 := hF_13 13
  have f_17 : (F_13 13).toInt = (F 13).toInt := congrArg Int32.toInt (F_13_o 13 (by decide))
  have r_18 : 0 ≤ (F_13 15).toInt ∧ (F_13 15).toInt ≤ 5 := hF_13 15
  have f_19 : (F_13 15).toInt = (F 15).toInt := congrArg Int32.toInt (F_13_o 15 (by decide))
  have r_20 : 0 ≤ (F_13 18).toInt ∧ (F_13 18).toInt ≤ 1 := hF_13 18
  have f_21 : (F_13 18).toInt = (F 18).toInt := congrArg Int32.toInt (F_13_o 18 (by decide))
  have r_22 : 0 ≤ (F_13 19).toInt ∧ (F_13 19).toInt ≤ 1 := hF_13 19
  have f_23 : (F_13 19).toInt = (F 19).toInt := congrArg Int32.toInt (F_13_o 19 (by decide))
  have r_24 : 0 ≤ (F_13 20).toInt ∧ (F_13 20).toInt ≤ 32 := hF_13 20
  have f_25 : (F_13 20).toInt = (((F 20) + 1)).toInt := congrArg Int32.toInt F_13_k
  have f20 : (F_13 20).toInt = (F 20).toInt + 1 := by rw [F_13_k]; omega
  have nt : ai A_10 9 (F 20).toInt = x2.toInt ∧ ai A_10 10 (F 20).toInt = x3.toInt ∧ (∀ q, 0 ≤ q → q ≠ (F 20).toInt → ai A_10 9 q = ai A 9 q ∧ ai A_10 10 q = ai A 10 q) := ⟨by rw [ai_fr (A_10_o 9 (by decide))]; exact A_9_s, A_10_s, fun q h0 h1 => ⟨by rw [ai_fr (A_10_o 9 (by decide))]; exact A_9_n q h0 h1, by rw [A_10_n q h0 h1, ai_fr (A_9_o 10 (by decide))]⟩⟩
  refine ok_some ?_
  refine ⟨hF_13, hA_10, (fun q hq => (F_13_o q (fun e => hq (by rw [e]; decide)))), (fun q hq => ((A_10_o q (fun e => hq (by rw [e]; decide))).trans (A_9_o q (fun e => hq (by rw [e]; decide))))), ?_⟩
  exact ⟨f20, nt⟩
set_option maxRecDepth 10000 in
theorem s_d_known_21  {n : Nat} {F : Nat → Int32} {A : Nat → Nat → Int32} {J : Nat → Nat → Int64} {x1 : Int32} {x2 : Int32} {x3 : Int32} (hF : IFm F) (hA : IAm A) (NFA : NMm F A) (rx1 : 0 ≤ x1.toInt ∧ x1.toInt ≤ 3) (rx2 : 0 ≤ x2.toInt ∧ x2.toInt ≤ 402) (rx3 : 0 ≤ x3.toInt ∧ x3.toInt ≤ 32) (hn : 33 - x3.toInt < (n : Int)) : ok (d_known_21 n F A J x1 x2 x3) (fun r => IFm r.2.1 ∧ IAm r.2.2.1 ∧ (∀ q, q ∉ ([15, 16] : List Nat) → r.2.1 q = F q) ∧ (∀ q, q ∉ ([] : List Nat) → r.2.2.1 q = A q) ∧ -1 ≤ r.1.toInt ∧ r.1.toInt ≤ 7 ∧ (0 ≤ r.1.toInt ∨ 1 ≤ (r.2.1 13).toInt ∨ 1 ≤ (r.2.1 15).toInt) ∧ ((F 15).toInt = 0 ∨ 1 ≤ (r.2.1 15).toInt) ∧ (r.1.toInt < 0 ∨ (x1.toInt = 0 ∧ r.1.toInt < ai A 11 (F 19).toInt) ∨ (x1.toInt = 1 ∧ r.1.toInt < ai A 17 (F 19).toInt) ∨ (x1.toInt = 2 ∧ r.1.toInt < ai A 19 (F 19).toInt) ∨ (x1.toInt = 3 ∧ r.1.toInt < ai A 29 (F 19).toInt))) := by
  induction n generalizing F A J x3 with
  | zero => exact absurd hn (by omega)
  | succ n ih =>
    have r18 : 0 ≤ (F 18).toInt ∧ (F 18).toInt ≤ 1 := hF 18
    have r_1 : 0 ≤ (F 11).toInt ∧ (F 11).toInt ≤ 400 := hF 11
    have r_2 : 0 ≤ (F 13).toInt ∧ (F 13).toInt ≤ 5 := hF 13
    have r_3 : 0 ≤ (F 15).toInt ∧ (F 15).toInt ≤ 5 := hF 15
    have r_4 : 0 ≤ (F 18).toInt ∧ (F 18).toInt ≤ 1 := hF 18
    have r_5 : 0 ≤ (F 19).toInt ∧ (F 19).toInt ≤ 1 := hF 19
    have r_6 : 0 ≤ (F 20).toInt ∧ (F 20).toInt ≤ 32 := hF 20
    unfold d_known_21
    refine ok_cond (fun c_7 => ?_) (fun c_7 => ?_)
    · rw [i_ge] at c_7
      have l_8 : (4 : Int32).toInt = 4 := by decide
      refine ok_call (s_d_wrong hF hA (by omega) (by omega)) ?_
      rintro ⟨u_9, F_10, A_11, J_12⟩ ⟨hF_10, hA_11, F_10_o, A_11_o, u_9_p⟩
      dsimp only at hF_10 hA_11 F_10_o A_11_o u_9_p ⊢
      have u_9_p : (1 ≤ (F 13).toInt ∨ 1 ≤ (F_10 15).toInt) ∧ ((F 15).toInt = 0 ∨ 1 ≤ (F_10 15).toInt) := u_9_p
      have r_13 : 0 ≤ (F_10 11).toInt ∧ (F_10 11).toInt ≤ 400 := hF_10 11
      have f_14 : (F_10 11).toInt = (F 11).toInt := congrArg Int32.toInt (F_10_o 11 (by decide))
      have r_15 : 0 ≤ (F_10 13).toInt ∧ (F_10 13).toInt ≤ 5 := hF_10 13
      have f_16 : (F_10 13).toInt = (F 13).toInt := congrArg Int32.toInt (F_10_o 13 (by decide))
      have r_17 : 0 ≤ (F_10 15).toInt ∧ (F_10 15).toInt ≤ 5 := hF_10 15
      have r_18 : 0 ≤ (F_10 18).toInt ∧ (F_10 18).toInt ≤ 1 := hF_10 18
      have f_19 : (F_10 18).toInt = (F 18).toInt := congrArg Int32.toInt (F_10_o 18 (by decide))
      have r_20 : 0 ≤ (F_10 19).toInt ∧ (F_10 19).toInt ≤ 1 := hF_10 19
      have f_21 : (F_10 19).toInt = (F 19).toInt := congrArg Int32.toInt (F_10_o 19 (by decide))
      have r_22 : 0 ≤ (F_10 20).toInt ∧ (F_10 20).toInt ≤ 32 := hF_10 20
      have f_23 : (F_10 20).toInt = (F 20).toInt := congrArg Int32.toInt (F_10_o 20 (by decide))
      have NF_10A_11 : NMm F_10 A_11 := NFA.fr0 (F_10_o 19 (by decide)) (F_10_o 20 (by decide)) (fun q hq => A_11_o q (by simp))
      refine ok_some ?_
      have l_24 : (-1 : Int32).toInt = -1 := by decide
      refine ⟨hF_10, hA_11, (fun q hq => (F_10_o q hq)), (fun q hq => (A_11_o q hq)), ?_⟩
      exact ⟨by (try dsimp only) <;> omega, by (try dsimp only) <;> omega, by (try dsimp only) <;> omega, by (try dsimp only) <;> omega, by (try dsimp only) <;> omega⟩
    · rw [i_nge] at c_7
      refine ok_ldJ1 (by omega) (by omega) ?_
      intro v_25
      refine ok_ldJ1 (by omega) (by omega) ?_
      intro v_26
      have l_27 : (0 : Int32).toInt = 0 := by decide
      refine ok_cond (fun c_28 => ?_) (fun c_28 => ?_)
      · rw [i_ne] at c_28
        unfold d_known_62
        have l_29 : (1 : Int32).toInt = 1 := by decide
        have e_30 := i_add (x := x3) (y := 1) (by omega) (by omega)
        refine ok_mono (ih hF hA (NFA) (by omega) (by omega)) ?_
        rintro ⟨v_31, F_32, A_33, J_34⟩ ⟨hF_32, hA_33, F_32_o, A_33_o, v_31_p⟩
        dsimp only at hF_32 hA_33 F_32_o A_33_o v_31_p ⊢
        have v_31_p : -1 ≤ v_31.toInt ∧ v_31.toInt ≤ 7 ∧ (0 ≤ v_31.toInt ∨ 1 ≤ (F_32 13).toInt ∨ 1 ≤ (F_32 15).toInt) ∧ ((F 15).toInt = 0 ∨ 1 ≤ (F_32 15).toInt) ∧ (v_31.toInt < 0 ∨ (x1.toInt = 0 ∧ v_31.toInt < ai A 11 (F 19).toInt) ∨ (x1.toInt = 1 ∧ v_31.toInt < ai A 17 (F 19).toInt) ∨ (x1.toInt = 2 ∧ v_31.toInt < ai A 19 (F 19).toInt) ∨ (x1.toInt = 3 ∧ v_31.toInt < ai A 29 (F 19).toInt)) := v_31_p
        have r_35 : 0 ≤ (F_32 11).toInt ∧ (F_32 11).toInt ≤ 400 := hF_32 11
        have f_36 : (F_32 11).toInt = (F 11).toInt := congrArg Int32.toInt (F_32_o 11 (by decide))
        have r_37 : 0 ≤ (F_32 13).toInt ∧ (F_32 13).toInt ≤ 5 := hF_32 13
        have f_38 : (F_32 13).toInt = (F 13).toInt := congrArg Int32.toInt (F_32_o 13 (by decide))
        have r_39 : 0 ≤ (F_32 15).toInt ∧ (F_32 15).toInt ≤ 5 := hF_32 15
        have r_40 : 0 ≤ (F_32 18).toInt ∧ (F_32 18).toInt ≤ 1 := hF_32 18
        have f_41 : (F_32 18).toInt = (F 18).toInt := congrArg Int32.toInt (F_32_o 18 (by decide))
        have r_42 : 0 ≤ (F_32 19).toInt ∧ (F_32 19).toInt ≤ 1 := hF_32 19
        have f_43 : (F_32 19).toInt = (F 19).toInt := congrArg Int32.toInt (F_32_o 19 (by decide))
        have r_44 : 0 ≤ (F_32 20).toInt ∧ (F_32 20).toInt ≤ 32 := hF_32 20
        have f_45 : (F_32 20).toInt = (F 20).toInt := congrArg Int32.toInt (F_32_o 20 (by decide))
        have NF_32A_33 : NMm F_32 A_33 := NFA.fr0 (F_32_o 19 (by decide)) (F_32_o 20 (by decide)) (fun q hq => A_33_o q (by simp))
        refine ⟨hF_32, hA_33, (fun q hq => (F_32_o q hq)), (fun q hq => (A_33_o q hq)), ?_⟩
        exact ⟨by (try dsimp only) <;> omega, by (try dsimp only) <;> omega, by (try dsimp only) <;> omega, by (try dsimp only) <;> omega, by (try dsimp only) <;> omega⟩
      · rw [i_nne] at c_28
        refine ok_ld (j := 9) hA (by omega) (by omega) ?_
        intro v_46 v_46_e v_46_r
        refine ok_cond (fun c_47 => ?_) (fun c_47 => ?_)
        · rw [i_ne] at c_47
          unfold d_known_62
          have l_48 : (1 : Int32).toInt = 1 := by decide
          have e_49 := i_add (x := x3) (y := 1) (by omega) (by omega)
          refine ok_mono (ih hF hA (NFA) (by omega) (by omega)) ?_
          rintro ⟨v_50, F_51, A_52, J_53⟩ ⟨hF_51, hA_52, F_51_o, A_52_o, v_50_p⟩
          dsimp only at hF_51 hA_52 F_51_o A_52_o v_50_p ⊢
          have v_50_p : -1 ≤ v_50.toInt ∧ v_50.toInt ≤ 7 ∧ (0 ≤ v_50.toInt ∨ 1 ≤ (F_51 13).toInt ∨ 1 ≤ (F_51 15).toInt) ∧ ((F 15).toInt = 0 ∨ 1 ≤ (F_51 15).toInt) ∧ (v_50.toInt < 0 ∨ (x1.toInt = 0 ∧ v_50.toInt < ai A 11 (F 19).toInt) ∨ (x1.toInt = 1 ∧ v_50.toInt < ai A 17 (F 19).toInt) ∨ (x1.toInt = 2 ∧ v_50.toInt < ai A 19 (F 19).toInt) ∨ (x1.toInt = 3 ∧ v_50.toInt < ai A 29 (F 19).toInt)) := v_50_p
          have r_54 : 0 ≤ (F_51 11).toInt ∧ (F_51 11).toInt ≤ 400 := hF_51 11
          have f_55 : (F_51 11).toInt = (F 11).toInt := congrArg Int32.toInt (F_51_o 11 (by decide))
          have r_56 : 0 ≤ (F_51 13).toInt ∧ (F_51 13).toInt ≤ 5 := hF_51 13
          have f_57 : (F_51 13).toInt = (F 13).toInt := congrArg Int32.toInt (F_51_o 13 (by decide))
          have r_58 : 0 ≤ (F_51 15).toInt ∧ (F_51 15).toInt ≤ 5 := hF_51 15
          have r_59 : 0 ≤ (F_51 18).toInt ∧ (F_51 18).toInt ≤ 1 := hF_51 18
          have f_60 : (F_51 18).toInt = (F 18).toInt := congrArg Int32.toInt (F_51_o 18 (by decide))
          have r_61 : 0 ≤ (F_51 19).toInt ∧ (F_51 19).toInt ≤ 1 := hF_51 19
          have f_62 : (F_51 19).toInt = (F 19).toInt := congrArg Int32.toInt (F_51_o 19 (by decide))
          have r_63 : 0 ≤ (F_51 20).toInt ∧ (F_51 20).toInt ≤ 32 := hF_51 20
          have f_64 : (F_51 20).toInt = (F 20).toInt := congrArg Int32.toInt (F_51_o 20 (by decide))
          have NF_51A_52 : NMm F_51 A_52 := NFA.fr0 (F_51_o 19 (by decide)) (F_51_o 20 (by decide)) (fun q hq => A_52_o q (by simp))
          refine ⟨hF_51, hA_52, (fun q hq => (F_51_o q hq)), (fun q hq => (A_52_o q hq)), ?_⟩
          exact ⟨by (try dsimp only) <;> omega, by (try dsimp only) <;> omega, by (try dsimp only) <;> omega, by (try dsimp only) <;> omega, by (try dsimp only) <;> omega⟩
        · rw [i_nne] at c_47
          refine ok_ld (j := 10) hA (by omega) (by omega) ?_
          intro v_65 v_65_e v_65_r
          have v_65_r : 0 ≤ v_65.toInt ∧ v_65.toInt ≤ 7 := v_65_r
          have nm := NFA x3.toInt (by omega) (by omega)
          obtain ⟨n0, n1, n2, n3⟩ := nm
          refine ok_some ?_
          refine ⟨hF, hA, (fun q hq => rfl), (fun q hq => rfl), ?_⟩
          exact ⟨by (try dsimp only) <;> omega, by (try dsimp only) <;> omega, by (try dsimp only) <;> omega, by (try dsimp only) <;> omega, by (try dsimp only) <;> omega⟩
set_option maxRecDepth 10000 in
theorem s_d_known {n : Nat} {F : Nat → Int32} {A : Nat → Nat → Int32} {J : Nat → Nat → Int64} {x1 : Int32} (hF : IFm F) (hA : IAm A) (hn : 40 ≤ n) (NFA : NMm F A) (rx1 : 0 ≤ x1.toInt ∧ x1.toInt ≤ 3) : ok (d_known n F A J x1) (fun r => IFm r.2.1 ∧ IAm r.2.2.1 ∧ (∀ q, q ∉ ([11, 13, 14, 15, 16] : List Nat) → r.2.1 q = F q) ∧ (∀ q, q ∉ ([] : List Nat) → r.2.2.1 q = A q) ∧ -1 ≤ r.1.toInt ∧ r.1.toInt ≤ 7 ∧ (0 ≤ r.1.toInt ∨ 1 ≤ (r.2.1 13).toInt ∨ 1 ≤ (r.2.1 15).toInt) ∧ ((F 15).toInt = 0 ∨ 1 ≤ (r.2.1 15).toInt) ∧ (r.1.toInt < 0 ∨ (x1.toInt = 0 ∧ r.1.toInt < ai A 11 (F 19).toInt) ∨ (x1.toInt = 1 ∧ r.1.toInt < ai A 17 (F 19).toInt) ∨ (x1.toInt = 2 ∧ r.1.toInt < ai A 19 (F 19).toInt) ∨ (x1.toInt = 3 ∧ r.1.toInt < ai A 29 (F 19).toInt)) ∧ (((F 13).toInt = 0 ∧ (r.2.1 11).toInt = (F 11).toInt + 1 ∧ (r.2.1 13).toInt = 0) ∨ ((r.2.1 11).toInt = (F 11).toInt ∧ 1 ≤ (r.2.1 13).toInt))) := by
  have r18 : 0 ≤ (F 18).toInt ∧ (F 18).toInt ≤ 1 := hF 18
  have r_1 : 0 ≤ (F 11).toInt ∧ (F 11).toInt ≤ 400 := hF 11
  have r_2 : 0 ≤ (F 13).toInt ∧ (F 13).toInt ≤ 5 := hF 13
  have r_3 : 0 ≤ (F 15).toInt ∧ (F 15).toInt ≤ 5 := hF 15
  have r_4 : 0 ≤ (F 18).toInt ∧ (F 18).toInt ≤ 1 := hF 18
  have r_5 : 0 ≤ (F 19).toInt ∧ (F 19).toInt ≤ 1 := hF 19
  have r_6 : 0 ≤ (F 20).toInt ∧ (F 20).toInt ≤ 32 := hF 20
  unfold d_known
  refine ok_call (s_d_must hF hA) ?_
  rintro ⟨u_7, F_8, A_9, J_10⟩ ⟨hF_8, hA_9, F_8_o, A_9_o, u_7_p⟩
  dsimp only at hF_8 hA_9 F_8_o A_9_o u_7_p ⊢
  have u_7_p : (((F 13).toInt = 0 ∧ (F_8 11).toInt = (F 11).toInt + 1 ∧ (F_8 13).toInt = 0) ∨ ((F_8 11).toInt = (F 11).toInt ∧ 1 ≤ (F_8 13).toInt)) := u_7_p
  have r_11 : 0 ≤ (F_8 11).toInt ∧ (F_8 11).toInt ≤ 400 := hF_8 11
  have r_12 : 0 ≤ (F_8 13).toInt ∧ (F_8 13).toInt ≤ 5 := hF_8 13
  have r_13 : 0 ≤ (F_8 15).toInt ∧ (F_8 15).toInt ≤ 5 := hF_8 15
  have f_14 : (F_8 15).toInt = (F 15).toInt := congrArg Int32.toInt (F_8_o 15 (by decide))
  have r_15 : 0 ≤ (F_8 18).toInt ∧ (F_8 18).toInt ≤ 1 := hF_8 18
  have f_16 : (F_8 18).toInt = (F 18).toInt := congrArg Int32.toInt (F_8_o 18 (by decide))
  have r_17 : 0 ≤ (F_8 19).toInt ∧ (F_8 19).toInt ≤ 1 := hF_8 19
  have f_18 : (F_8 19).toInt = (F 19).toInt := congrArg Int32.toInt (F_8_o 19 (by decide))
  have r_19 : 0 ≤ (F_8 20).toInt ∧ (F_8 20).toInt ≤ 32 := hF_8 20
  have f_20 : (F_8 20).toInt = (F 20).toInt := congrArg Int32.toInt (F_8_o 20 (by decide))
  have NF_8A_9 : NMm F_8 A_9 := NFA.fr0 (F_8_o 19 (by decide)) (F_8_o 20 (by decide)) (fun q hq => A_9_o q (by simp))
  have q11 : ai A_9 11 (F_8 19).toInt = ai A 11 (F 19).toInt := by rw [ai_fr (A_9_o 11 (by decide)), F_8_o 19 (by decide)]
  have q17 : ai A_9 17 (F_8 19).toInt = ai A 17 (F 19).toInt := by rw [ai_fr (A_9_o 17 (by decide)), F_8_o 19 (by decide)]
  have q19 : ai A_9 19 (F_8 19).toInt = ai A 19 (F 19).toInt := by rw [ai_fr (A_9_o 19 (by decide)), F_8_o 19 (by decide)]
  have q29 : ai A_9 29 (F_8 19).toInt = ai A 29 (F 19).toInt := by rw [ai_fr (A_9_o 29 (by decide)), F_8_o 19 (by decide)]
  have l_21 : (0 : Int32).toInt = 0 := by decide
  refine ok_cond (fun c_22 => ?_) (fun c_22 => ?_)
  · rw [i_le] at c_22
    refine ok_mono (s_d_known_21 hF_8 hA_9 (NF_8A_9) (by omega) (by omega) (by omega) (by omega)) ?_
    rintro ⟨v_23, F_24, A_25, J_26⟩ ⟨hF_24, hA_25, F_24_o, A_25_o, v_23_p⟩
    dsimp only at hF_24 hA_25 F_24_o A_25_o v_23_p ⊢
    have v_23_p : -1 ≤ v_23.toInt ∧ v_23.toInt ≤ 7 ∧ (0 ≤ v_23.toInt ∨ 1 ≤ (F_24 13).toInt ∨ 1 ≤ (F_24 15).toInt) ∧ ((F_8 15).toInt = 0 ∨ 1 ≤ (F_24 15).toInt) ∧ (v_23.toInt < 0 ∨ (x1.toInt = 0 ∧ v_23.toInt < ai A_9 11 (F_8 19).toInt) ∨ (x1.toInt = 1 ∧ v_23.toInt < ai A_9 17 (F_8 19).toInt) ∨ (x1.toInt = 2 ∧ v_23.toInt < ai A_9 19 (F_8 19).toInt) ∨ (x1.toInt = 3 ∧ v_23.toInt < ai A_9 29 (F_8 19).toInt)) := v_23_p
    have r_27 : 0 ≤ (F_24 11).toInt ∧ (F_24 11).toInt ≤ 400 := hF_24 11
    have f_28 : (F_24 11).toInt = (F_8 11).toInt := congrArg Int32.toInt (F_24_o 11 (by decide))
    have r_29 : 0 ≤ (F_24 13).toInt ∧ (F_24 13).toInt ≤ 5 := hF_24 13
    have f_30 : (F_24 13).toInt = (F_8 13).toInt := congrArg Int32.toInt (F_24_o 13 (by decide))
    have r_31 : 0 ≤ (F_24 15).toInt ∧ (F_24 15).toInt ≤ 5 := hF_24 15
    have r_32 : 0 ≤ (F_24 18).toInt ∧ (F_24 18).toInt ≤ 1 := hF_24 18
    have f_33 : (F_24 18).toInt = (F_8 18).toInt := congrArg Int32.toInt (F_24_o 18 (by decide))
    have r_34 : 0 ≤ (F_24 19).toInt ∧ (F_24 19).toInt ≤ 1 := hF_24 19
    have f_35 : (F_24 19).toInt = (F_8 19).toInt := congrArg Int32.toInt (F_24_o 19 (by decide))
    have r_36 : 0 ≤ (F_24 20).toInt ∧ (F_24 20).toInt ≤ 32 := hF_24 20
    have f_37 : (F_24 20).toInt = (F_8 20).toInt := congrArg Int32.toInt (F_24_o 20 (by decide))
    have NF_24A_25 : NMm F_24 A_25 := NF_8A_9.fr0 (F_24_o 19 (by decide)) (F_24_o 20 (by decide)) (fun q hq => A_25_o q (by simp))
    refine ⟨hF_24, hA_25, (fun q hq => ((F_24_o q (fun e => hq ((by decide : ∀ x, x ∈ ([15, 16] : List Nat) → x ∈ ([11, 13, 14, 15, 16] : List Nat)) q e))).trans (F_8_o q (fun e => hq ((by decide : ∀ x, x ∈ ([11, 13, 14] : List Nat) → x ∈ ([11, 13, 14, 15, 16] : List Nat)) q e))))), (fun q hq => ((A_25_o q hq).trans (A_9_o q hq))), ?_⟩
    exact ⟨by (try dsimp only) <;> omega, by (try dsimp only) <;> omega, by (try dsimp only) <;> omega, by (try dsimp only) <;> omega, by (try dsimp only) <;> omega, by (try dsimp only) <;> omega⟩
  · rw [i_nle] at c_22
    refine ok_some ?_
    have l_38 : (-1 : Int32).toInt = -1 := by decide
    refine ⟨hF_8, hA_9, (fun q hq => (F_8_o q (fun e => hq ((by decide : ∀ x, x ∈ ([11, 13, 14] : List Nat) → x ∈ ([11, 13, 14, 15, 16] : List Nat)) q e)))), (fun q hq => (A_9_o q hq)), ?_⟩
    exact ⟨by (try dsimp only) <;> omega, by (try dsimp only) <;> omega, by (try dsimp only) <;> omega, by (try dsimp only) <;> omega, by (try dsimp only) <;> omega, by (try dsimp only) <;> omega⟩
set_option maxRecDepth 10000 in
theorem s_d_bounded {F : Nat → Int32} {A : Nat → Nat → Int32} {J : Nat → Nat → Int64} {x1 : Int32} {x2 : Int32} (hF : IFm F) (hA : IAm A) (rx1 : 0 ≤ x1.toInt ∧ x1.toInt ≤ 1) : ok (d_bounded F A J x1 x2) (fun r => IFm r.2.1 ∧ IAm r.2.2.1 ∧ (∀ q, q ∉ ([11, 13, 14, 15, 16] : List Nat) → r.2.1 q = F q) ∧ (∀ q, q ∉ ([] : List Nat) → r.2.2.1 q = A q) ∧ 0 ≤ r.1.toInt ∧ r.1.toInt ≤ 9999 ∧ ((x1.toInt ≤ r.1.toInt ∧ r.1.toInt ≤ x2.toInt) ∨ 1 ≤ (r.2.1 13).toInt ∨ 1 ≤ (r.2.1 15).toInt) ∧ ((F 15).toInt = 0 ∨ 1 ≤ (r.2.1 15).toInt) ∧ (((F 13).toInt = 0 ∧ (r.2.1 11).toInt = (F 11).toInt + 1 ∧ (r.2.1 13).toInt = 0) ∨ ((r.2.1 11).toInt = (F 11).toInt ∧ 1 ≤ (r.2.1 13).toInt))) := by
  have r18 : 0 ≤ (F 18).toInt ∧ (F 18).toInt ≤ 1 := hF 18
  have r_1 : 0 ≤ (F 11).toInt ∧ (F 11).toInt ≤ 400 := hF 11
  have r_2 : 0 ≤ (F 13).toInt ∧ (F 13).toInt ≤ 5 := hF 13
  have r_3 : 0 ≤ (F 15).toInt ∧ (F 15).toInt ≤ 5 := hF 15
  have r_4 : 0 ≤ (F 18).toInt ∧ (F 18).toInt ≤ 1 := hF 18
  have r_5 : 0 ≤ (F 19).toInt ∧ (F 19).toInt ≤ 1 := hF 19
  have r_6 : 0 ≤ (F 20).toInt ∧ (F 20).toInt ≤ 32 := hF 20
  unfold d_bounded
  have l_7 : (0 : Int32).toInt = 0 := by decide
  refine ok_cond (fun c_8 => ?_) (fun c_8 => ?_)
  · rw [i_gt] at c_8
    unfold d_bounded_15
    have l_9 : (1 : Int32).toInt = 1 := by decide
    refine ok_call (s_d_fail hF hA (by omega)) ?_
    rintro ⟨u_10, F_11, A_12, J_13⟩ ⟨hF_11, hA_12, F_11_o, A_12_o, u_10_p⟩
    dsimp only at hF_11 hA_12 F_11_o A_12_o u_10_p ⊢
    have u_10_p : 1 ≤ (F_11 13).toInt := u_10_p
    have r_14 : 0 ≤ (F_11 11).toInt ∧ (F_11 11).toInt ≤ 400 := hF_11 11
    have f_15 : (F_11 11).toInt = (F 11).toInt := congrArg Int32.toInt (F_11_o 11 (by decide))
    have r_16 : 0 ≤ (F_11 13).toInt ∧ (F_11 13).toInt ≤ 5 := hF_11 13
    have r_17 : 0 ≤ (F_11 15).toInt ∧ (F_11 15).toInt ≤ 5 := hF_11 15
    have f_18 : (F_11 15).toInt = (F 15).toInt := congrArg Int32.toInt (F_11_o 15 (by decide))
    have r_19 : 0 ≤ (F_11 18).toInt ∧ (F_11 18).toInt ≤ 1 := hF_11 18
    have f_20 : (F_11 18).toInt = (F 18).toInt := congrArg Int32.toInt (F_11_o 18 (by decide))
    have r_21 : 0 ≤ (F_11 19).toInt ∧ (F_11 19).toInt ≤ 1 := hF_11 19
    have f_22 : (F_11 19).toInt = (F 19).toInt := congrArg Int32.toInt (F_11_o 19 (by decide))
    have r_23 : 0 ≤ (F_11 20).toInt ∧ (F_11 20).toInt ≤ 32 := hF_11 20
    have f_24 : (F_11 20).toInt = (F 20).toInt := congrArg Int32.toInt (F_11_o 20 (by decide))
    refine ok_some ?_
    refine ⟨hF_11, hA_12, (fun q hq => (F_11_o q (fun e => hq ((by decide : ∀ x, x ∈ ([13, 14] : List Nat) → x ∈ ([11, 13, 14, 15, 16] : List Nat)) q e)))), (fun q hq => (A_12_o q hq)), ?_⟩
    exact ⟨by (try dsimp only) <;> omega, by (try dsimp only) <;> omega, by (try dsimp only) <;> omega, by (try dsimp only) <;> omega, by (try dsimp only) <;> omega⟩
  · rw [i_ngt] at c_8
    refine ok_call (s_d_is hF hA) ?_
    intro v_25 v_25_p
    have v_25_p : (v_25.toInt = 0 ∨ (v_25.toInt = 1 ∧ (F 13).toInt = 0 ∧ ai A 3 (F 11).toInt = (2 : Int32).toInt)) ∧ (v_25.toInt ≠ 0 ∨ (F 13).toInt ≠ 0 ∨ ai A 3 (F 11).toInt ≠ (2 : Int32).toInt) := v_25_p
    refine ok_cond (fun c_26 => ?_) (fun c_26 => ?_)
    · rw [i_ne] at c_26
      refine ok_ld (j := 5) hA (by omega) (by omega) ?_
      intro v_27 v_27_e v_27_r
      have v_27_r : 0 ≤ v_27.toInt ∧ v_27.toInt ≤ 9999 := v_27_r
      refine ok_cond (fun c_28 => ?_) (fun c_28 => ?_)
      · rw [i_lt] at c_28
        unfold d_bounded_42
        have l_29 : (5 : Int32).toInt = 5 := by decide
        refine ok_call (s_d_wrong hF hA (by omega) (by omega)) ?_
        rintro ⟨u_30, F_31, A_32, J_33⟩ ⟨hF_31, hA_32, F_31_o, A_32_o, u_30_p⟩
        dsimp only at hF_31 hA_32 F_31_o A_32_o u_30_p ⊢
        have u_30_p : (1 ≤ (F 13).toInt ∨ 1 ≤ (F_31 15).toInt) ∧ ((F 15).toInt = 0 ∨ 1 ≤ (F_31 15).toInt) := u_30_p
        have r_34 : 0 ≤ (F_31 11).toInt ∧ (F_31 11).toInt ≤ 400 := hF_31 11
        have f_35 : (F_31 11).toInt = (F 11).toInt := congrArg Int32.toInt (F_31_o 11 (by decide))
        have r_36 : 0 ≤ (F_31 13).toInt ∧ (F_31 13).toInt ≤ 5 := hF_31 13
        have f_37 : (F_31 13).toInt = (F 13).toInt := congrArg Int32.toInt (F_31_o 13 (by decide))
        have r_38 : 0 ≤ (F_31 15).toInt ∧ (F_31 15).toInt ≤ 5 := hF_31 15
        have r_39 : 0 ≤ (F_31 18).toInt ∧ (F_31 18).toInt ≤ 1 := hF_31 18
        have f_40 : (F_31 18).toInt = (F 18).toInt := congrArg Int32.toInt (F_31_o 18 (by decide))
        have r_41 : 0 ≤ (F_31 19).toInt ∧ (F_31 19).toInt ≤ 1 := hF_31 19
        have f_42 : (F_31 19).toInt = (F 19).toInt := congrArg Int32.toInt (F_31_o 19 (by decide))
        have r_43 : 0 ≤ (F_31 20).toInt ∧ (F_31 20).toInt ≤ 32 := hF_31 20
        have f_44 : (F_31 20).toInt = (F 20).toInt := congrArg Int32.toInt (F_31_o 20 (by decide))
        refine ok_call (s_d_goesOn hF_31 hA_32) ?_
        rintro ⟨u_45, F_46, A_47, J_48⟩ ⟨hF_46, hA_47, F_46_o, A_47_o, u_45_p⟩
        dsimp only at hF_46 hA_47 F_46_o A_47_o u_45_p ⊢
        have u_45_p : (((F_46 11).toInt = (F_31 11).toInt + 1 ∧ (F_46 13).toInt = (F_31 13).toInt) ∨ ((F_46 11).toInt = (F_31 11).toInt ∧ 1 ≤ (F_46 13).toInt)) := u_45_p
        have r_49 : 0 ≤ (F_46 11).toInt ∧ (F_46 11).toInt ≤ 400 := hF_46 11
        have r_50 : 0 ≤ (F_46 13).toInt ∧ (F_46 13).toInt ≤ 5 := hF_46 13
        have r_51 : 0 ≤ (F_46 15).toInt ∧ (F_46 15).toInt ≤ 5 := hF_46 15
        have f_52 : (F_46 15).toInt = (F_31 15).toInt := congrArg Int32.toInt (F_46_o 15 (by decide))
        have r_53 : 0 ≤ (F_46 18).toInt ∧ (F_46 18).toInt ≤ 1 := hF_46 18
        have f_54 : (F_46 18).toInt = (F_31 18).toInt := congrArg Int32.toInt (F_46_o 18 (by decide))
        have r_55 : 0 ≤ (F_46 19).toInt ∧ (F_46 19).toInt ≤ 1 := hF_46 19
        have f_56 : (F_46 19).toInt = (F_31 19).toInt := congrArg Int32.toInt (F_46_o 19 (by decide))
        have r_57 : 0 ≤ (F_46 20).toInt ∧ (F_46 20).toInt ≤ 32 := hF_46 20
        have f_58 : (F_46 20).toInt = (F_31 20).toInt := congrArg Int32.toInt (F_46_o 20 (by decide))
        refine ok_some ?_
        refine ⟨hF_46, hA_47, (fun q hq => ((F_46_o q (fun e => hq ((by decide : ∀ x, x ∈ ([11, 13, 14] : List Nat) → x ∈ ([11, 13, 14, 15, 16] : List Nat)) q e))).trans (F_31_o q (fun e => hq ((by decide : ∀ x, x ∈ ([15, 16] : List Nat) → x ∈ ([11, 13, 14, 15, 16] : List Nat)) q e))))), (fun q hq => ((A_47_o q hq).trans (A_32_o q hq))), ?_⟩
        exact ⟨by (try dsimp only) <;> omega, by (try dsimp only) <;> omega, by (try dsimp only) <;> omega, by (try dsimp only) <;> omega, by (try dsimp only) <;> omega⟩
      · rw [i_nlt] at c_28
        refine ok_cond (fun c_59 => ?_) (fun c_59 => ?_)
        · rw [i_le] at c_59
          unfold d_bounded_51
          refine ok_call (s_d_goesOn hF hA) ?_
          rintro ⟨u_60, F_61, A_62, J_63⟩ ⟨hF_61, hA_62, F_61_o, A_62_o, u_60_p⟩
          dsimp only at hF_61 hA_62 F_61_o A_62_o u_60_p ⊢
          have u_60_p : (((F_61 11).toInt = (F 11).toInt + 1 ∧ (F_61 13).toInt = (F 13).toInt) ∨ ((F_61 11).toInt = (F 11).toInt ∧ 1 ≤ (F_61 13).toInt)) := u_60_p
          have r_64 : 0 ≤ (F_61 11).toInt ∧ (F_61 11).toInt ≤ 400 := hF_61 11
          have r_65 : 0 ≤ (F_61 13).toInt ∧ (F_61 13).toInt ≤ 5 := hF_61 13
          have r_66 : 0 ≤ (F_61 15).toInt ∧ (F_61 15).toInt ≤ 5 := hF_61 15
          have f_67 : (F_61 15).toInt = (F 15).toInt := congrArg Int32.toInt (F_61_o 15 (by decide))
          have r_68 : 0 ≤ (F_61 18).toInt ∧ (F_61 18).toInt ≤ 1 := hF_61 18
          have f_69 : (F_61 18).toInt = (F 18).toInt := congrArg Int32.toInt (F_61_o 18 (by decide))
          have r_70 : 0 ≤ (F_61 19).toInt ∧ (F_61 19).toInt ≤ 1 := hF_61 19
          have f_71 : (F_61 19).toInt = (F 19).toInt := congrArg Int32.toInt (F_61_o 19 (by decide))
          have r_72 : 0 ≤ (F_61 20).toInt ∧ (F_61 20).toInt ≤ 32 := hF_61 20
          have f_73 : (F_61 20).toInt = (F 20).toInt := congrArg Int32.toInt (F_61_o 20 (by decide))
          refine ok_some ?_
          refine ⟨hF_61, hA_62, (fun q hq => (F_61_o q (fun e => hq ((by decide : ∀ x, x ∈ ([11, 13, 14] : List Nat) → x ∈ ([11, 13, 14, 15, 16] : List Nat)) q e)))), (fun q hq => (A_62_o q hq)), ?_⟩
          exact ⟨by (try dsimp only) <;> omega, by (try dsimp only) <;> omega, by (try dsimp only) <;> omega, by (try dsimp only) <;> omega, by (try dsimp only) <;> omega⟩
        · rw [i_nle] at c_59
          unfold d_bounded_42
          have l_74 : (5 : Int32).toInt = 5 := by decide
          refine ok_call (s_d_wrong hF hA (by omega) (by omega)) ?_
          rintro ⟨u_75, F_76, A_77, J_78⟩ ⟨hF_76, hA_77, F_76_o, A_77_o, u_75_p⟩
          dsimp only at hF_76 hA_77 F_76_o A_77_o u_75_p ⊢
          have u_75_p : (1 ≤ (F 13).toInt ∨ 1 ≤ (F_76 15).toInt) ∧ ((F 15).toInt = 0 ∨ 1 ≤ (F_76 15).toInt) := u_75_p
          have r_79 : 0 ≤ (F_76 11).toInt ∧ (F_76 11).toInt ≤ 400 := hF_76 11
          have f_80 : (F_76 11).toInt = (F 11).toInt := congrArg Int32.toInt (F_76_o 11 (by decide))
          have r_81 : 0 ≤ (F_76 13).toInt ∧ (F_76 13).toInt ≤ 5 := hF_76 13
          have f_82 : (F_76 13).toInt = (F 13).toInt := congrArg Int32.toInt (F_76_o 13 (by decide))
          have r_83 : 0 ≤ (F_76 15).toInt ∧ (F_76 15).toInt ≤ 5 := hF_76 15
          have r_84 : 0 ≤ (F_76 18).toInt ∧ (F_76 18).toInt ≤ 1 := hF_76 18
          have f_85 : (F_76 18).toInt = (F 18).toInt := congrArg Int32.toInt (F_76_o 18 (by decide))
          have r_86 : 0 ≤ (F_76 19).toInt ∧ (F_76 19).toInt ≤ 1 := hF_76 19
          have f_87 : (F_76 19).toInt = (F 19).toInt := congrArg Int32.toInt (F_76_o 19 (by decide))
          have r_88 : 0 ≤ (F_76 20).toInt ∧ (F_76 20).toInt ≤ 32 := hF_76 20
          have f_89 : (F_76 20).toInt = (F 20).toInt := congrArg Int32.toInt (F_76_o 20 (by decide))
          refine ok_call (s_d_goesOn hF_76 hA_77) ?_
          rintro ⟨u_90, F_91, A_92, J_93⟩ ⟨hF_91, hA_92, F_91_o, A_92_o, u_90_p⟩
          dsimp only at hF_91 hA_92 F_91_o A_92_o u_90_p ⊢
          have u_90_p : (((F_91 11).toInt = (F_76 11).toInt + 1 ∧ (F_91 13).toInt = (F_76 13).toInt) ∨ ((F_91 11).toInt = (F_76 11).toInt ∧ 1 ≤ (F_91 13).toInt)) := u_90_p
          have r_94 : 0 ≤ (F_91 11).toInt ∧ (F_91 11).toInt ≤ 400 := hF_91 11
          have r_95 : 0 ≤ (F_91 13).toInt ∧ (F_91 13).toInt ≤ 5 := hF_91 13
          have r_96 : 0 ≤ (F_91 15).toInt ∧ (F_91 15).toInt ≤ 5 := hF_91 15
          have f_97 : (F_91 15).toInt = (F_76 15).toInt := congrArg Int32.toInt (F_91_o 15 (by decide))
          have r_98 : 0 ≤ (F_91 18).toInt ∧ (F_91 18).toInt ≤ 1 := hF_91 18
          have f_99 : (F_91 18).toInt = (F_76 18).toInt := congrArg Int32.toInt (F_91_o 18 (by decide))
          have r_100 : 0 ≤ (F_91 19).toInt ∧ (F_91 19).toInt ≤ 1 := hF_91 19
          have f_101 : (F_91 19).toInt = (F_76 19).toInt := congrArg Int32.toInt (F_91_o 19 (by decide))
          have r_102 : 0 ≤ (F_91 20).toInt ∧ (F_91 20).toInt ≤ 32 := hF_91 20
          have f_103 : (F_91 20).toInt = (F_76 20).toInt := congrArg Int32.toInt (F_91_o 20 (by decide))
          refine ok_some ?_
          refine ⟨hF_91, hA_92, (fun q hq => ((F_91_o q (fun e => hq ((by decide : ∀ x, x ∈ ([11, 13, 14] : List Nat) → x ∈ ([11, 13, 14, 15, 16] : List Nat)) q e))).trans (F_76_o q (fun e => hq ((by decide : ∀ x, x ∈ ([15, 16] : List Nat) → x ∈ ([11, 13, 14, 15, 16] : List Nat)) q e))))), (fun q hq => ((A_92_o q hq).trans (A_77_o q hq))), ?_⟩
          exact ⟨by (try dsimp only) <;> omega, by (try dsimp only) <;> omega, by (try dsimp only) <;> omega, by (try dsimp only) <;> omega, by (try dsimp only) <;> omega⟩
    · rw [i_nne] at c_26
      unfold d_bounded_15
      have l_104 : (1 : Int32).toInt = 1 := by decide
      refine ok_call (s_d_fail hF hA (by omega)) ?_
      rintro ⟨u_105, F_106, A_107, J_108⟩ ⟨hF_106, hA_107, F_106_o, A_107_o, u_105_p⟩
      dsimp only at hF_106 hA_107 F_106_o A_107_o u_105_p ⊢
      have u_105_p : 1 ≤ (F_106 13).toInt := u_105_p
      have r_109 : 0 ≤ (F_106 11).toInt ∧ (F_106 11).toInt ≤ 400 := hF_106 11
      have f_110 : (F_106 11).toInt = (F 11).toInt := congrArg Int32.toInt (F_106_o 11 (by decide))
      have r_111 : 0 ≤ (F_106 13).toInt ∧ (F_106 13).toInt ≤ 5 := hF_106 13
      have r_112 : 0 ≤ (F_106 15).toInt ∧ (F_106 15).toInt ≤ 5 := hF_106 15
      have f_113 : (F_106 15).toInt = (F 15).toInt := congrArg Int32.toInt (F_106_o 15 (by decide))
      have r_114 : 0 ≤ (F_106 18).toInt ∧ (F_106 18).toInt ≤ 1 := hF_106 18
      have f_115 : (F_106 18).toInt = (F 18).toInt := congrArg Int32.toInt (F_106_o 18 (by decide))
      have r_116 : 0 ≤ (F_106 19).toInt ∧ (F_106 19).toInt ≤ 1 := hF_106 19
      have f_117 : (F_106 19).toInt = (F 19).toInt := congrArg Int32.toInt (F_106_o 19 (by decide))
      have r_118 : 0 ≤ (F_106 20).toInt ∧ (F_106 20).toInt ≤ 32 := hF_106 20
      have f_119 : (F_106 20).toInt = (F 20).toInt := congrArg Int32.toInt (F_106_o 20 (by decide))
      refine ok_some ?_
      refine ⟨hF_106, hA_107, (fun q hq => (F_106_o q (fun e => hq ((by decide : ∀ x, x ∈ ([13, 14] : List Nat) → x ∈ ([11, 13, 14, 15, 16] : List Nat)) q e)))), (fun q hq => (A_107_o q hq)), ?_⟩
      exact ⟨by (try dsimp only) <;> omega, by (try dsimp only) <;> omega, by (try dsimp only) <;> omega, by (try dsimp only) <;> omega, by (try dsimp only) <;> omega⟩
