set_option maxRecDepth 10000 in
theorem s_d_isTask {F : Nat → Int32} {A : Nat → Nat → Int32} {J : Nat → Nat → Int64} {x1 : Int32} (hF : IFm F) (hA : IAm A) : ok (d_isTask F A J x1) (fun v => (v.toInt = 0 ∨ (v.toInt = 1 ∧ 0 ≤ x1.toInt ∧ x1.toInt < ai A 19 (F 18).toInt ∧ x1.toInt < 6))) := by
  have r18 : 0 ≤ (F 18).toInt ∧ (F 18).toInt ≤ 1 := hF 18
  unfold d_isTask
  refine ok_call (s_d_tasksNow hF hA) ?_
  intro v_1 v_1_p
  have v_1_p : v_1.toInt = ai A 19 (F 18).toInt ∧ 0 ≤ v_1.toInt ∧ v_1.toInt ≤ 6 := v_1_p
  have l_2 : (0 : Int32).toInt = 0 := by decide
  have l_3 : (1 : Int32).toInt = 1 := by decide
  have e_4 := i_sub (x := v_1) (y := 1) (by omega) (by omega)
  refine ok_call (s_d_in ) ?_
  intro v_5 v_5_p
  have v_5_p : v_5.toInt = (if (0 : Int32).toInt ≤ x1.toInt ∧ x1.toInt ≤ (v_1 - 1).toInt then 1 else 0) := v_5_p
  refine ok_zr0 (by omega) ?_
  refine ok_some ?_
  (first | trivial | omega | exact ⟨by omega, by omega⟩ | assumption)
set_option maxRecDepth 10000 in
theorem s_d_isMan {F : Nat → Int32} {A : Nat → Nat → Int32} {J : Nat → Nat → Int64} {x1 : Int32} (hF : IFm F) (hA : IAm A) : ok (d_isMan F A J x1) (fun v => (v.toInt = 0 ∨ (v.toInt = 1 ∧ 0 ≤ x1.toInt ∧ x1.toInt < ai A 29 (F 18).toInt ∧ x1.toInt < 6))) := by
  have r18 : 0 ≤ (F 18).toInt ∧ (F 18).toInt ≤ 1 := hF 18
  unfold d_isMan
  refine ok_call (s_d_menNow hF hA) ?_
  intro v_1 v_1_p
  have v_1_p : v_1.toInt = ai A 29 (F 18).toInt ∧ 0 ≤ v_1.toInt ∧ v_1.toInt ≤ 6 := v_1_p
  have l_2 : (0 : Int32).toInt = 0 := by decide
  have l_3 : (1 : Int32).toInt = 1 := by decide
  have e_4 := i_sub (x := v_1) (y := 1) (by omega) (by omega)
  refine ok_call (s_d_in ) ?_
  intro v_5 v_5_p
  have v_5_p : v_5.toInt = (if (0 : Int32).toInt ≤ x1.toInt ∧ x1.toInt ≤ (v_1 - 1).toInt then 1 else 0) := v_5_p
  refine ok_zr0 (by omega) ?_
  refine ok_some ?_
  (first | trivial | omega | exact ⟨by omega, by omega⟩ | assumption)
set_option maxRecDepth 10000 in
theorem s_d_isRoom {F : Nat → Int32} {A : Nat → Nat → Int32} {J : Nat → Nat → Int64} {x1 : Int32} (hF : IFm F) (hA : IAm A) : ok (d_isRoom F A J x1) (fun v => (v.toInt = 0 ∨ (v.toInt = 1 ∧ 0 ≤ x1.toInt ∧ x1.toInt < ai A 11 (F 18).toInt ∧ x1.toInt < 8))) := by
  have r18 : 0 ≤ (F 18).toInt ∧ (F 18).toInt ≤ 1 := hF 18
  unfold d_isRoom
  have r_1 : 0 ≤ (F 18).toInt ∧ (F 18).toInt ≤ 1 := hF 18
  refine ok_ld (j := 11) hA (by omega) (by omega) ?_
  intro v_2 v_2_e v_2_r
  have v_2_r : 0 ≤ v_2.toInt ∧ v_2.toInt ≤ 8 := v_2_r
  have l_3 : (0 : Int32).toInt = 0 := by decide
  have l_4 : (1 : Int32).toInt = 1 := by decide
  have e_5 := i_sub (x := v_2) (y := 1) (by omega) (by omega)
  refine ok_call (s_d_in ) ?_
  intro v_6 v_6_p
  have v_6_p : v_6.toInt = (if (0 : Int32).toInt ≤ x1.toInt ∧ x1.toInt ≤ (v_2 - 1).toInt then 1 else 0) := v_6_p
  refine ok_zr0 (by omega) ?_
  refine ok_some ?_
  (first | trivial | omega | exact ⟨by omega, by omega⟩ | assumption)
set_option maxRecDepth 10000 in
theorem s_d_isTool {F : Nat → Int32} {A : Nat → Nat → Int32} {J : Nat → Nat → Int64} {x1 : Int32} (hF : IFm F) (hA : IAm A) : ok (d_isTool F A J x1) (fun v => (v.toInt = 0 ∨ (v.toInt = 1 ∧ 0 ≤ x1.toInt ∧ x1.toInt < ai A 17 (F 18).toInt ∧ x1.toInt < 6))) := by
  have r18 : 0 ≤ (F 18).toInt ∧ (F 18).toInt ≤ 1 := hF 18
  unfold d_isTool
  have r_1 : 0 ≤ (F 18).toInt ∧ (F 18).toInt ≤ 1 := hF 18
  refine ok_ld (j := 17) hA (by omega) (by omega) ?_
  intro v_2 v_2_e v_2_r
  have v_2_r : 0 ≤ v_2.toInt ∧ v_2.toInt ≤ 6 := v_2_r
  have l_3 : (0 : Int32).toInt = 0 := by decide
  have l_4 : (1 : Int32).toInt = 1 := by decide
  have e_5 := i_sub (x := v_2) (y := 1) (by omega) (by omega)
  refine ok_call (s_d_in ) ?_
  intro v_6 v_6_p
  have v_6_p : v_6.toInt = (if (0 : Int32).toInt ≤ x1.toInt ∧ x1.toInt ≤ (v_2 - 1).toInt then 1 else 0) := v_6_p
  refine ok_zr0 (by omega) ?_
  refine ok_some ?_
  (first | trivial | omega | exact ⟨by omega, by omega⟩ | assumption)
set_option maxRecDepth 10000 in
theorem s_d_isStep {F : Nat → Int32} {A : Nat → Nat → Int32} {J : Nat → Nat → Int64} {x1 : Int32} {x2 : Int32} (hF : IFm F) (hA : IAm A) : ok (d_isStep F A J x1 x2) (fun v => (v.toInt = 0 ∨ (v.toInt = 1 ∧ 0 ≤ x1.toInt ∧ x1.toInt < ai A 19 (F 18).toInt ∧ x1.toInt < 6 ∧ 0 ≤ x2.toInt ∧ x2.toInt < ai A 22 (6 * (F 18).toInt + x1.toInt) ∧ x2.toInt < 6))) := by
  have r18 : 0 ≤ (F 18).toInt ∧ (F 18).toInt ≤ 1 := hF 18
  unfold d_isStep
  refine ok_call (s_d_isTask hF hA) ?_
  intro v_1 v_1_p
  have v_1_p : (v_1.toInt = 0 ∨ (v_1.toInt = 1 ∧ 0 ≤ x1.toInt ∧ x1.toInt < ai A 19 (F 18).toInt ∧ x1.toInt < 6)) := v_1_p
  have l_2 : (0 : Int32).toInt = 0 := by decide
  refine ok_cond (fun c_3 => ?_) (fun c_3 => ?_)
  · rw [i_eq] at c_3
    refine ok_some ?_
    (first | trivial | omega | exact ⟨by omega, by omega⟩ | assumption)
  · rw [i_neq] at c_3
    refine ok_call (s_d_stepsOf hF hA (by omega)) ?_
    intro v_4 v_4_p
    have v_4_p : v_4.toInt = ai A 22 (6 * (F 18).toInt + x1.toInt) ∧ 0 ≤ v_4.toInt ∧ v_4.toInt ≤ 6 := v_4_p
    have l_5 : (1 : Int32).toInt = 1 := by decide
    have e_6 := i_sub (x := v_4) (y := 1) (by omega) (by omega)
    refine ok_call (s_d_in ) ?_
    intro v_7 v_7_p
    have v_7_p : v_7.toInt = (if (0 : Int32).toInt ≤ x2.toInt ∧ x2.toInt ≤ (v_4 - 1).toInt then 1 else 0) := v_7_p
    refine ok_cond (fun c_8 => ?_) (fun c_8 => ?_)
    · rw [i_eq] at c_8
      refine ok_some ?_
      (first | trivial | omega | exact ⟨by omega, by omega⟩ | assumption)
    · rw [i_neq] at c_8
      refine ok_some ?_
      (first | trivial | omega | exact ⟨by omega, by omega⟩ | assumption)
set_option maxRecDepth 10000 in
theorem s_d_isLeft {F : Nat → Int32} {A : Nat → Nat → Int32} {J : Nat → Nat → Int64} {x1 : Int32} {x2 : Int32} (hF : IFm F) (hA : IAm A) : ok (d_isLeft F A J x1 x2) (fun v => (v.toInt = 0 ∨ (v.toInt = 1 ∧ ((x1.toInt = -1 ∧ x2.toInt = -1) ∨ (0 ≤ x1.toInt ∧ x1.toInt < ai A 19 (F 18).toInt ∧ x1.toInt < 6 ∧ 0 ≤ x2.toInt ∧ x2.toInt < ai A 22 (6 * (F 18).toInt + x1.toInt) ∧ x2.toInt < 6))))) := by
  have r18 : 0 ≤ (F 18).toInt ∧ (F 18).toInt ≤ 1 := hF 18
  unfold d_isLeft
  have l_1 : (-1 : Int32).toInt = -1 := by decide
  refine ok_cond (fun c_2 => ?_) (fun c_2 => ?_)
  · rw [i_ne] at c_2
    unfold d_isLeft_10
    refine ok_call (s_d_isStep hF hA) ?_
    intro v_3 v_3_p
    have v_3_p : (v_3.toInt = 0 ∨ (v_3.toInt = 1 ∧ 0 ≤ x1.toInt ∧ x1.toInt < ai A 19 (F 18).toInt ∧ x1.toInt < 6 ∧ 0 ≤ x2.toInt ∧ x2.toInt < ai A 22 (6 * (F 18).toInt + x1.toInt) ∧ x2.toInt < 6)) := v_3_p
    have l_4 : (0 : Int32).toInt = 0 := by decide
    refine ok_cond (fun c_5 => ?_) (fun c_5 => ?_)
    · rw [i_eq] at c_5
      refine ok_some ?_
      (first | trivial | omega | exact ⟨by omega, by omega⟩ | assumption)
    · rw [i_neq] at c_5
      refine ok_some ?_
      have l_6 : (1 : Int32).toInt = 1 := by decide
      (first | trivial | omega | exact ⟨by omega, by omega⟩ | assumption)
  · rw [i_nne] at c_2
    refine ok_cond (fun c_7 => ?_) (fun c_7 => ?_)
    · rw [i_eq] at c_7
      refine ok_some ?_
      have l_8 : (1 : Int32).toInt = 1 := by decide
      (first | trivial | omega | exact ⟨by omega, by omega⟩ | assumption)
    · rw [i_neq] at c_7
      unfold d_isLeft_10
      refine ok_call (s_d_isStep hF hA) ?_
      intro v_9 v_9_p
      have v_9_p : (v_9.toInt = 0 ∨ (v_9.toInt = 1 ∧ 0 ≤ x1.toInt ∧ x1.toInt < ai A 19 (F 18).toInt ∧ x1.toInt < 6 ∧ 0 ≤ x2.toInt ∧ x2.toInt < ai A 22 (6 * (F 18).toInt + x1.toInt) ∧ x2.toInt < 6)) := v_9_p
      have l_10 : (0 : Int32).toInt = 0 := by decide
      refine ok_cond (fun c_11 => ?_) (fun c_11 => ?_)
      · rw [i_eq] at c_11
        refine ok_some ?_
        (first | trivial | omega | exact ⟨by omega, by omega⟩ | assumption)
      · rw [i_neq] at c_11
        refine ok_some ?_
        have l_12 : (1 : Int32).toInt = 1 := by decide
        (first | trivial | omega | exact ⟨by omega, by omega⟩ | assumption)
set_option maxRecDepth 10000 in
theorem s_d_orNone  {x0 : Int32}  : ok (d_orNone x0) (fun v => True) := by
  unfold d_orNone
  have l_1 : (0 : Int32).toInt = 0 := by decide
  refine ok_cond (fun c_2 => ?_) (fun c_2 => ?_)
  · rw [i_ge] at c_2
    refine ok_some ?_
    (first | trivial | omega | exact ⟨by omega, by omega⟩ | assumption)
  · rw [i_nge] at c_2
    refine ok_some ?_
    have l_3 : (-2 : Int32).toInt = -2 := by decide
    (first | trivial | omega | exact ⟨by omega, by omega⟩ | assumption)
set_option maxRecDepth 10000 in
theorem s_d_step {F : Nat → Int32} {A : Nat → Nat → Int32} {J : Nat → Nat → Int64} {x1 : Int32} {x2 : Int32} {x3 : Int32} (hF : IFm F) (hA : IAm A) : ok (d_step F A J x1 x2 x3) (fun v => True) := by
  have r18 : 0 ≤ (F 18).toInt ∧ (F 18).toInt ≤ 1 := hF 18
  unfold d_step
  refine ok_call (s_d_isStep hF hA) ?_
  intro v_1 v_1_p
  have v_1_p : (v_1.toInt = 0 ∨ (v_1.toInt = 1 ∧ 0 ≤ x1.toInt ∧ x1.toInt < ai A 19 (F 18).toInt ∧ x1.toInt < 6 ∧ 0 ≤ x2.toInt ∧ x2.toInt < ai A 22 (6 * (F 18).toInt + x1.toInt) ∧ x2.toInt < 6)) := v_1_p
  have l_2 : (0 : Int32).toInt = 0 := by decide
  refine ok_cond (fun c_3 => ?_) (fun c_3 => ?_)
  · rw [i_ne] at c_3
    refine ok_call (s_d_stepAt hF (by omega) (by omega)) ?_
    intro v_4 v_4_p
    have v_4_p : v_4.toInt = 6 * (6 * (F 18).toInt + x1.toInt) + x2.toInt := v_4_p
    refine ok_cond (fun c_5 => ?_) (fun c_5 => ?_)
    · rw [i_dec] at c_5
      have l_6 : (6 : Int32).toInt = 6 := by decide
      have e_7 := i_mulL (c := 6) (k := 6) (x := x1) (by decide) (by omega) (by omega)
      have e_8 := i_add (x := 6) (y := (6 * x1)) (by omega) (by omega)
      have e_9 := i_add (x := (6 + (6 * x1))) (y := x2) (by omega) (by omega)
      refine ok_ld (j := 47) hA (by omega) (by omega) ?_
      intro v_10 v_10_e v_10_r
      refine ok_some ?_
      (first | trivial | omega | exact ⟨by omega, by omega⟩ | assumption)
    · rw [i_ndec] at c_5
      have l_11 : (1 : Int32).toInt = 1 := by decide
      refine ok_cond (fun c_12 => ?_) (fun c_12 => ?_)
      · rw [i_dec] at c_12
        refine ok_ld (j := 23) hA (by omega) (by omega) ?_
        intro v_13 v_13_e v_13_r
        refine ok_some ?_
        (first | trivial | omega | exact ⟨by omega, by omega⟩ | assumption)
      · rw [i_ndec] at c_12
        have l_14 : (2 : Int32).toInt = 2 := by decide
        refine ok_cond (fun c_15 => ?_) (fun c_15 => ?_)
        · rw [i_dec] at c_15
          refine ok_ld (j := 24) hA (by omega) (by omega) ?_
          intro v_16 v_16_e v_16_r
          refine ok_some ?_
          (first | trivial | omega | exact ⟨by omega, by omega⟩ | assumption)
        · rw [i_ndec] at c_15
          have l_17 : (3 : Int32).toInt = 3 := by decide
          refine ok_cond (fun c_18 => ?_) (fun c_18 => ?_)
          · rw [i_dec] at c_18
            refine ok_ld (j := 25) hA (by omega) (by omega) ?_
            intro v_19 v_19_e v_19_r
            refine ok_some ?_
            (first | trivial | omega | exact ⟨by omega, by omega⟩ | assumption)
          · rw [i_ndec] at c_18
            have l_20 : (4 : Int32).toInt = 4 := by decide
            refine ok_cond (fun c_21 => ?_) (fun c_21 => ?_)
            · rw [i_dec] at c_21
              refine ok_ld (j := 26) hA (by omega) (by omega) ?_
              intro v_22 v_22_e v_22_r
              refine ok_some ?_
              (first | trivial | omega | exact ⟨by omega, by omega⟩ | assumption)
            · rw [i_ndec] at c_21
              have l_23 : (5 : Int32).toInt = 5 := by decide
              refine ok_cond (fun c_24 => ?_) (fun c_24 => ?_)
              · rw [i_dec] at c_24
                refine ok_ld (j := 27) hA (by omega) (by omega) ?_
                intro v_25 v_25_e v_25_r
                have v_25_r : -1 ≤ v_25.toInt ∧ v_25.toInt ≤ 5 := v_25_r
                refine ok_call (s_d_orNone ) ?_
                intro v_26 v_26_p
                refine ok_some ?_
                (first | trivial | omega | exact ⟨by omega, by omega⟩ | assumption)
              · rw [i_ndec] at c_24
                have l_27 : (6 : Int32).toInt = 6 := by decide
                refine ok_cond (fun c_28 => ?_) (fun c_28 => ?_)
                · rw [i_dec] at c_28
                  refine ok_ld (j := 28) hA (by omega) (by omega) ?_
                  intro v_29 v_29_e v_29_r
                  refine ok_call (s_d_orNone ) ?_
                  intro v_30 v_30_p
                  refine ok_some ?_
                  (first | trivial | omega | exact ⟨by omega, by omega⟩ | assumption)
                · rw [i_ndec] at c_28
                  refine ok_some ?_
                  have l_31 : (-1 : Int32).toInt = -1 := by decide
                  (first | trivial | omega | exact ⟨by omega, by omega⟩ | assumption)
  · rw [i_nne] at c_3
    refine ok_some ?_
    have l_32 : (-1 : Int32).toInt = -1 := by decide
    (first | trivial | omega | exact ⟨by omega, by omega⟩ | assumption)
set_option maxRecDepth 10000 in
theorem s_d_man {F : Nat → Int32} {A : Nat → Nat → Int32} {J : Nat → Nat → Int64} {x1 : Int32} {x2 : Int32} (hF : IFm F) (hA : IAm A) : ok (d_man F A J x1 x2) (fun v => True) := by
  have r18 : 0 ≤ (F 18).toInt ∧ (F 18).toInt ≤ 1 := hF 18
  unfold d_man
  refine ok_call (s_d_isMan hF hA) ?_
  intro v_1 v_1_p
  have v_1_p : (v_1.toInt = 0 ∨ (v_1.toInt = 1 ∧ 0 ≤ x1.toInt ∧ x1.toInt < ai A 29 (F 18).toInt ∧ x1.toInt < 6)) := v_1_p
  have l_2 : (0 : Int32).toInt = 0 := by decide
  refine ok_cond (fun c_3 => ?_) (fun c_3 => ?_)
  · rw [i_ne] at c_3
    refine ok_cond (fun c_4 => ?_) (fun c_4 => ?_)
    · rw [i_dec] at c_4
      have l_5 : (6 : Int32).toInt = 6 := by decide
      have r_6 : 0 ≤ (F 18).toInt ∧ (F 18).toInt ≤ 1 := hF 18
      have e_7 := i_mulL (c := 6) (k := 6) (x := (F 18)) (by decide) (by omega) (by omega)
      have e_8 := i_add (x := (6 * (F 18))) (y := x1) (by omega) (by omega)
      refine ok_ld (j := 30) hA (by omega) (by omega) ?_
      intro v_9 v_9_e v_9_r
      have v_9_r : -1 ≤ v_9.toInt ∧ v_9.toInt ≤ 7 := v_9_r
      refine ok_some ?_
      (first | trivial | omega | exact ⟨by omega, by omega⟩ | assumption)
    · rw [i_ndec] at c_4
      have l_10 : (1 : Int32).toInt = 1 := by decide
      refine ok_cond (fun c_11 => ?_) (fun c_11 => ?_)
      · rw [i_dec] at c_11
        have l_12 : (42 : Int32).toInt = 42 := by decide
        have e_13 := i_add (x := 42) (y := x1) (by omega) (by omega)
        refine ok_ld (j := 47) hA (by omega) (by omega) ?_
        intro v_14 v_14_e v_14_r
        refine ok_call (s_d_orNone ) ?_
        intro v_15 v_15_p
        refine ok_some ?_
        (first | trivial | omega | exact ⟨by omega, by omega⟩ | assumption)
      · rw [i_ndec] at c_11
        have l_16 : (2 : Int32).toInt = 2 := by decide
        refine ok_cond (fun c_17 => ?_) (fun c_17 => ?_)
        · rw [i_dec] at c_17
          have l_18 : (48 : Int32).toInt = 48 := by decide
          have e_19 := i_add (x := 48) (y := x1) (by omega) (by omega)
          refine ok_ld (j := 47) hA (by omega) (by omega) ?_
          intro v_20 v_20_e v_20_r
          refine ok_call (s_d_orNone ) ?_
          intro v_21 v_21_p
          refine ok_some ?_
          (first | trivial | omega | exact ⟨by omega, by omega⟩ | assumption)
        · rw [i_ndec] at c_17
          have l_22 : (3 : Int32).toInt = 3 := by decide
          refine ok_cond (fun c_23 => ?_) (fun c_23 => ?_)
          · rw [i_dec] at c_23
            have l_24 : (54 : Int32).toInt = 54 := by decide
            have e_25 := i_add (x := 54) (y := x1) (by omega) (by omega)
            refine ok_ld (j := 47) hA (by omega) (by omega) ?_
            intro v_26 v_26_e v_26_r
            refine ok_some ?_
            (first | trivial | omega | exact ⟨by omega, by omega⟩ | assumption)
          · rw [i_ndec] at c_23
            have l_27 : (4 : Int32).toInt = 4 := by decide
            refine ok_cond (fun c_28 => ?_) (fun c_28 => ?_)
            · rw [i_dec] at c_28
              have l_29 : (60 : Int32).toInt = 60 := by decide
              have e_30 := i_add (x := 60) (y := x1) (by omega) (by omega)
              refine ok_ld (j := 47) hA (by omega) (by omega) ?_
              intro v_31 v_31_e v_31_r
              refine ok_some ?_
              (first | trivial | omega | exact ⟨by omega, by omega⟩ | assumption)
            · rw [i_ndec] at c_28
              have l_32 : (5 : Int32).toInt = 5 := by decide
              refine ok_cond (fun c_33 => ?_) (fun c_33 => ?_)
              · rw [i_dec] at c_33
                have l_34 : (66 : Int32).toInt = 66 := by decide
                have e_35 := i_add (x := 66) (y := x1) (by omega) (by omega)
                refine ok_ld (j := 47) hA (by omega) (by omega) ?_
                intro v_36 v_36_e v_36_r
                refine ok_some ?_
                (first | trivial | omega | exact ⟨by omega, by omega⟩ | assumption)
              · rw [i_ndec] at c_33
                refine ok_some ?_
                have l_37 : (-1 : Int32).toInt = -1 := by decide
                (first | trivial | omega | exact ⟨by omega, by omega⟩ | assumption)
  · rw [i_nne] at c_3
    refine ok_some ?_
    have l_38 : (-1 : Int32).toInt = -1 := by decide
    (first | trivial | omega | exact ⟨by omega, by omega⟩ | assumption)
set_option maxRecDepth 10000 in
theorem s_d_tool {F : Nat → Int32} {A : Nat → Nat → Int32} {J : Nat → Nat → Int64} {x1 : Int32} (hF : IFm F) (hA : IAm A) : ok (d_tool F A J x1) (fun v => True) := by
  have r18 : 0 ≤ (F 18).toInt ∧ (F 18).toInt ≤ 1 := hF 18
  unfold d_tool
  refine ok_call (s_d_isTool hF hA) ?_
  intro v_1 v_1_p
  have v_1_p : (v_1.toInt = 0 ∨ (v_1.toInt = 1 ∧ 0 ≤ x1.toInt ∧ x1.toInt < ai A 17 (F 18).toInt ∧ x1.toInt < 6)) := v_1_p
  have l_2 : (0 : Int32).toInt = 0 := by decide
  refine ok_cond (fun c_3 => ?_) (fun c_3 => ?_)
  · rw [i_eq] at c_3
    refine ok_some ?_
    have l_4 : (-1 : Int32).toInt = -1 := by decide
    (first | trivial | omega | exact ⟨by omega, by omega⟩ | assumption)
  · rw [i_neq] at c_3
    have l_5 : (72 : Int32).toInt = 72 := by decide
    have e_6 := i_add (x := 72) (y := x1) (by omega) (by omega)
    refine ok_ld (j := 47) hA (by omega) (by omega) ?_
    intro v_7 v_7_e v_7_r
    refine ok_some ?_
    (first | trivial | omega | exact ⟨by omega, by omega⟩ | assumption)
set_option maxRecDepth 10000 in
theorem s_d_place {F : Nat → Int32} {A : Nat → Nat → Int32} {J : Nat → Nat → Int64}  (hF : IFm F) (hA : IAm A) : ok (d_place F A J) (fun v => True) := by
  have r18 : 0 ≤ (F 18).toInt ∧ (F 18).toInt ≤ 1 := hF 18
  unfold d_place
  refine ok_some ?_
  (first | trivial | omega | exact ⟨by omega, by omega⟩ | assumption)
set_option maxRecDepth 10000 in
theorem s2_d_takes_2  {n : Nat} {k : Int} {F : Nat → Int32} {A : Nat → Nat → Int32} {J : Nat → Nat → Int64} {x1 : Int32} (hF : IFm F) (hA : IAm A) (hk : k ≤ 6) (PFA : RVm F A 47 k) (CFA : ∀ t, 0 ≤ t → t < x1.toInt → ai A 48 (0 + t) = ai A 47 (0 + t)) (rx1 : 0 ≤ x1.toInt ∧ x1.toInt ≤ 100) (hn : 100 - x1.toInt < (n : Int)) : ok (d_takes_2 n F A J x1) (fun r => IFm r.2.1 ∧ IAm r.2.2.1 ∧ (∀ q, q ∉ ([] : List Nat) → r.2.1 q = F q) ∧ (∀ q, q ∉ ([48] : List Nat) → r.2.2.1 q = A q) ∧ RVm r.2.1 r.2.2.1 48 k) := by
  induction n generalizing F A J x1 with
  | zero => exact absurd hn (by omega)
  | succ n ih =>
    have r18 : 0 ≤ (F 18).toInt ∧ (F 18).toInt ≤ 1 := hF 18
    unfold d_takes_2
    have l_1 : (100 : Int32).toInt = 100 := by decide
    refine ok_cond (fun c_2 => ?_) (fun c_2 => ?_)
    · rw [i_ge] at c_2
      refine ok_some ?_
      refine ⟨hF, hA, (fun q hq => rfl), (fun q hq => rfl), ?_⟩
      exact (PFA.toH.cp hk (fun t h0 h1 => CFA t h0 (by omega))).toV
    · rw [i_nge] at c_2
      refine ok_ld (j := 47) hA (by omega) (by omega) ?_
      intro v_3 v_3_e v_3_r
      refine ok_st (j := 48) hA (by omega) (by omega) (trivial) ?_
      intro A_4 hA_4 A_4_o A_4_s A_4_n
      have PFA_4 : RVm F A_4 47 k := PFA.sto A_4_o (by decide) (by decide)
      have C1 : ∀ t, 0 ≤ t → t < x1.toInt + 1 → ai A_4 48 (0 + t) = ai A_4 47 (0 + t) := cp_st A_4_o A_4_s A_4_n v_3_e (by decide) CFA (by omega) (by omega) (by omega)
      have l_5 : (1 : Int32).toInt = 1 := by decide
      have e_6 := i_add (x := x1) (y := 1) (by omega) (by omega)
      refine ok_mono (ih hF hA_4 (PFA_4) (fun t h0 h1 => C1 t h0 (by omega)) (by omega) (by omega)) ?_
      rintro ⟨v_7, F_8, A_9, J_10⟩ ⟨hF_8, hA_9, F_8_o, A_9_o, v_7_p⟩
      dsimp only at hF_8 hA_9 F_8_o A_9_o v_7_p ⊢
      have v_7_p : RVm F_8 A_9 48 k := v_7_p
      have PF_8A_9 : RVm F_8 A_9 47 k := PFA_4.cg (F_8_o 18 (by decide)) (A_9_o 19 (by decide)) (A_9_o 22 (by decide)) (fun m _ _ => by rw [ai_fr (A_9_o 47 (by decide))]; exact ⟨rfl, rfl⟩)
      refine ⟨hF_8, hA_9, (fun q hq => (F_8_o q hq)), (fun q hq => ((A_9_o q hq).trans (A_4_o q (fun e => hq (by rw [e]; decide))))), ?_⟩
      exact v_7_p
set_option maxRecDepth 10000 in
theorem s2_d_takes {n : Nat} {k : Int} {F : Nat → Int32} {A : Nat → Nat → Int32} {J : Nat → Nat → Int64}  (hF : IFm F) (hA : IAm A) (hn : 110 ≤ n) (hk : k ≤ 6) (PFA : RVm F A 47 k) : ok (d_takes n F A J) (fun r => IFm r.2.1 ∧ IAm r.2.2.1 ∧ (∀ q, q ∉ ([] : List Nat) → r.2.1 q = F q) ∧ (∀ q, q ∉ ([48] : List Nat) → r.2.2.1 q = A q) ∧ RVm r.2.1 r.2.2.1 48 k) := by
  have r18 : 0 ≤ (F 18).toInt ∧ (F 18).toInt ≤ 1 := hF 18
  unfold d_takes
  have l_1 : (0 : Int32).toInt = 0 := by decide
  refine ok_mono (s2_d_takes_2 hF hA (by omega) (PFA) (fun t h0 h1 => absurd h1 (by omega)) (by omega) (by omega)) ?_
  rintro ⟨v_2, F_3, A_4, J_5⟩ ⟨hF_3, hA_4, F_3_o, A_4_o, v_2_p⟩
  dsimp only at hF_3 hA_4 F_3_o A_4_o v_2_p ⊢
  have v_2_p : RVm F_3 A_4 48 k := v_2_p
  refine ⟨hF_3, hA_4, (fun q hq => (F_3_o q hq)), (fun q hq => (A_4_o q hq)), ?_⟩
  exact v_2_p
set_option maxRecDepth 10000 in
theorem s_d_work_42  {n : Nat} {k : Int} {F : Nat → Int32} {A : Nat → Nat → Int32} {J : Nat → Nat → Int64} {x3 : Int32} (hF : IFm F) (hA : IAm A) (hk : k ≤ 6) (RFA : RVm F A 48 k) (CFA : ∀ t, 0 ≤ t → t < x3.toInt → ai A 47 (0 + t) = ai A 48 (0 + t)) (rx3 : 0 ≤ x3.toInt ∧ x3.toInt ≤ 100) (hn : 100 - x3.toInt < (n : Int)) : ok (d_work_42 n F A J x3) (fun r => IFm r.2.1 ∧ IAm r.2.2.1 ∧ (∀ q, q ∉ ([] : List Nat) → r.2.1 q = F q) ∧ (∀ q, q ∉ ([47] : List Nat) → r.2.2.1 q = A q) ∧ RVm r.2.1 r.2.2.1 47 k) := by
  induction n generalizing F A J x3 with
  | zero => exact absurd hn (by omega)
  | succ n ih =>
    have r18 : 0 ≤ (F 18).toInt ∧ (F 18).toInt ≤ 1 := hF 18
    unfold d_work_42
    have l_1 : (100 : Int32).toInt = 100 := by decide
    refine ok_cond (fun c_2 => ?_) (fun c_2 => ?_)
    · rw [i_ge] at c_2
      refine ok_some ?_
      have l_3 : (1 : Int32).toInt = 1 := by decide
      refine ⟨hF, hA, (fun q hq => rfl), (fun q hq => rfl), ?_⟩
      exact (RFA.toH.cp hk (fun t h0 h1 => CFA t h0 (by omega))).toV
    · rw [i_nge] at c_2
      refine ok_ld (j := 48) hA (by omega) (by omega) ?_
      intro v_4 v_4_e v_4_r
      refine ok_st (j := 47) hA (by omega) (by omega) (trivial) ?_
      intro A_5 hA_5 A_5_o A_5_s A_5_n
      have RFA_5 : RVm F A_5 48 k := RFA.sto A_5_o (by decide) (by decide)
      have C1 : ∀ t, 0 ≤ t → t < x3.toInt + 1 → ai A_5 47 (0 + t) = ai A_5 48 (0 + t) := cp_st A_5_o A_5_s A_5_n v_4_e (by decide) CFA (by omega) (by omega) (by omega)
      have l_6 : (1 : Int32).toInt = 1 := by decide
      have e_7 := i_add (x := x3) (y := 1) (by omega) (by omega)
      refine ok_mono (ih hF hA_5 (RFA_5) (fun t h0 h1 => C1 t h0 (by omega)) (by omega) (by omega)) ?_
      rintro ⟨v_8, F_9, A_10, J_11⟩ ⟨hF_9, hA_10, F_9_o, A_10_o, v_8_p⟩
      dsimp only at hF_9 hA_10 F_9_o A_10_o v_8_p ⊢
      have v_8_p : RVm F_9 A_10 47 k := v_8_p
      refine ⟨hF_9, hA_10, (fun q hq => (F_9_o q hq)), (fun q hq => ((A_10_o q hq).trans (A_5_o q (fun e => hq (by rw [e]; decide))))), ?_⟩
      exact v_8_p
set_option maxRecDepth 10000 in
theorem s_d_night_104  {n : Nat} {k : Int} {F : Nat → Int32} {A : Nat → Nat → Int32} {J : Nat → Nat → Int64} {x1 : Int32} {x2 : Int32} (hF : IFm F) (hA : IAm A) (hk : k ≤ 6) (RFA : RVm F A 48 k) (CFA : ∀ t, 0 ≤ t → t < x2.toInt → ai A 47 (0 + t) = ai A 48 (0 + t)) (rx2 : 0 ≤ x2.toInt ∧ x2.toInt ≤ 100) (hn : 100 - x2.toInt < (n : Int)) : ok (d_night_104 n F A J x1 x2) (fun r => IFm r.2.1 ∧ IAm r.2.2.1 ∧ (∀ q, q ∉ ([] : List Nat) → r.2.1 q = F q) ∧ (∀ q, q ∉ ([47] : List Nat) → r.2.2.1 q = A q) ∧ RVm r.2.1 r.2.2.1 47 k) := by
  induction n generalizing F A J x2 with
  | zero => exact absurd hn (by omega)
  | succ n ih =>
    have r18 : 0 ≤ (F 18).toInt ∧ (F 18).toInt ≤ 1 := hF 18
    unfold d_night_104
    have l_1 : (100 : Int32).toInt = 100 := by decide
    refine ok_cond (fun c_2 => ?_) (fun c_2 => ?_)
    · rw [i_ge] at c_2
      refine ok_some ?_
      refine ⟨hF, hA, (fun q hq => rfl), (fun q hq => rfl), ?_⟩
      exact (RFA.toH.cp hk (fun t h0 h1 => CFA t h0 (by omega))).toV
    · rw [i_nge] at c_2
      refine ok_ld (j := 48) hA (by omega) (by omega) ?_
      intro v_3 v_3_e v_3_r
      refine ok_st (j := 47) hA (by omega) (by omega) (trivial) ?_
      intro A_4 hA_4 A_4_o A_4_s A_4_n
      have RFA_4 : RVm F A_4 48 k := RFA.sto A_4_o (by decide) (by decide)
      have C1 : ∀ t, 0 ≤ t → t < x2.toInt + 1 → ai A_4 47 (0 + t) = ai A_4 48 (0 + t) := cp_st A_4_o A_4_s A_4_n v_3_e (by decide) CFA (by omega) (by omega) (by omega)
      have l_5 : (1 : Int32).toInt = 1 := by decide
      have e_6 := i_add (x := x2) (y := 1) (by omega) (by omega)
      refine ok_mono (ih hF hA_4 (RFA_4) (fun t h0 h1 => C1 t h0 (by omega)) (by omega) (by omega)) ?_
      rintro ⟨v_7, F_8, A_9, J_10⟩ ⟨hF_8, hA_9, F_8_o, A_9_o, v_7_p⟩
      dsimp only at hF_8 hA_9 F_8_o A_9_o v_7_p ⊢
      have v_7_p : RVm F_8 A_9 47 k := v_7_p
      refine ⟨hF_8, hA_9, (fun q hq => (F_8_o q hq)), (fun q hq => ((A_9_o q hq).trans (A_4_o q (fun e => hq (by rw [e]; decide))))), ?_⟩
      exact v_7_p
set_option maxRecDepth 10000 in
theorem s_d_options_4  {n : Nat} {F : Nat → Int32} {A : Nat → Nat → Int32} {J : Nat → Nat → Int64} {x1 : Int32} {x2 : Int32} (hF : IFm F) (hA : IAm A) (hb : 1 ≤ x1.toInt ∧ x1.toInt ≤ 1 + 6 * x2.toInt) (rx2 : 0 ≤ x2.toInt ∧ x2.toInt ≤ 6) (hn : 6 - x2.toInt < (n : Int)) : ok (d_options_4 n F A J x1 x2) (fun v => 1 ≤ v.toInt ∧ v.toInt ≤ 37) := by
  induction n generalizing F A J x1 x2 with
  | zero => exact absurd hn (by omega)
  | succ n ih =>
    have r18 : 0 ≤ (F 18).toInt ∧ (F 18).toInt ≤ 1 := hF 18
    unfold d_options_4
    refine ok_call (s_d_tasksNow hF hA) ?_
    intro v_1 v_1_p
    have v_1_p : v_1.toInt = ai A 19 (F 18).toInt ∧ 0 ≤ v_1.toInt ∧ v_1.toInt ≤ 6 := v_1_p
    refine ok_cond (fun c_2 => ?_) (fun c_2 => ?_)
    · rw [i_ge] at c_2
      refine ok_some ?_
      (first | trivial | omega | exact ⟨by omega, by omega⟩ | assumption)
    · rw [i_nge] at c_2
      refine ok_call (s_d_stepsOf hF hA (by omega)) ?_
      intro v_3 v_3_p
      have v_3_p : v_3.toInt = ai A 22 (6 * (F 18).toInt + x2.toInt) ∧ 0 ≤ v_3.toInt ∧ v_3.toInt ≤ 6 := v_3_p
      have e_4 := i_add (x := x1) (y := v_3) (by omega) (by omega)
      have l_5 : (1 : Int32).toInt = 1 := by decide
      have e_6 := i_add (x := x2) (y := 1) (by omega) (by omega)
      refine ok_mono (ih hF hA (by omega) (by omega) (by omega)) ?_
      intro v_7 v_7_p
      have v_7_p : 1 ≤ v_7.toInt ∧ v_7.toInt ≤ 37 := v_7_p
      (first | trivial | omega | exact ⟨by omega, by omega⟩ | assumption)
set_option maxRecDepth 10000 in
theorem s_d_options {n : Nat} {F : Nat → Int32} {A : Nat → Nat → Int32} {J : Nat → Nat → Int64}  (hF : IFm F) (hA : IAm A) (hn : 10 ≤ n) : ok (d_options n F A J) (fun v => 1 ≤ v.toInt ∧ v.toInt ≤ 37) := by
  have r18 : 0 ≤ (F 18).toInt ∧ (F 18).toInt ≤ 1 := hF 18
  unfold d_options
  have l_1 : (1 : Int32).toInt = 1 := by decide
  have l_2 : (0 : Int32).toInt = 0 := by decide
  refine ok_mono (s_d_options_4 hF hA (by omega) (by omega) (by omega)) ?_
  intro v_3 v_3_p
  have v_3_p : 1 ≤ v_3.toInt ∧ v_3.toInt ≤ 37 := v_3_p
  (first | trivial | omega | exact ⟨by omega, by omega⟩ | assumption)
set_option maxRecDepth 10000 in
theorem s_d_leaves_7  {n : Nat} {k : Int} {F : Nat → Int32} {A : Nat → Nat → Int32} {J : Nat → Nat → Int64} {x1 : Int32} {x3 : Int32} {x4 : Int32} (hF : IFm F) (hA : IAm A) (hk : k ≤ 6) (hx1 : 0 ≤ x1.toInt ∧ x1.toInt < k) (hx4 : x4.toInt ≤ ai A 19 (F 18).toInt) (rx4 : 0 ≤ x4.toInt ∧ x4.toInt ≤ 6) (hn : 6 - x4.toInt < (n : Int)) : ok (d_leaves_7 n F A J x1 x3 x4) (fun r => IFm r.2.1 ∧ IAm r.2.2.1 ∧ (∀ q, q ∉ ([] : List Nat) → r.2.1 q = F q) ∧ (∀ q, q ∉ ([48] : List Nat) → r.2.2.1 q = A q) ∧ (RVm F A 48 k → RVm r.2.1 r.2.2.1 48 k)) := by
  induction n generalizing F A J x3 x4 with
  | zero => exact absurd hn (by omega)
  | succ n ih =>
    have r18 : 0 ≤ (F 18).toInt ∧ (F 18).toInt ≤ 1 := hF 18
    have t19 : 0 ≤ ai A 19 (F 18).toInt ∧ ai A 19 (F 18).toInt ≤ 6 := hA 19 _ (by omega)
    have RFA : RVm F A 48 k → RVm F A 48 k := id
    unfold d_leaves_7
    have l_1 : (0 : Int32).toInt = 0 := by decide
    refine ok_cond (fun c_2 => ?_) (fun c_2 => ?_)
    · rw [i_lt] at c_2
      unfold d_leaves_45
      refine ok_call (s_d_tasksNow hF hA) ?_
      intro v_3 v_3_p
      have v_3_p : v_3.toInt = ai A 19 (F 18).toInt ∧ 0 ≤ v_3.toInt ∧ v_3.toInt ≤ 6 := v_3_p
      refine ok_cond (fun c_4 => ?_) (fun c_4 => ?_)
      · rw [i_ne] at c_4
        unfold d_leaves_60
        refine ok_cond (fun c_5 => ?_) (fun c_5 => ?_)
        · rw [i_ge] at c_5
          unfold d_leaves_78
          have l_6 : (42 : Int32).toInt = 42 := by decide
          have e_7 := i_add (x := 42) (y := x1) (by omega) (by omega)
          refine ok_st (j := 48) hA (by omega) (by omega) (trivial) ?_
          intro A_8 hA_8 A_8_o A_8_s A_8_n
          refine ok_cond (fun c_9 => ?_) (fun c_9 => ?_)
          · rw [i_ge] at c_9
            unfold d_leaves_96
            have l_10 : (48 : Int32).toInt = 48 := by decide
            have e_11 := i_add (x := 48) (y := x1) (by omega) (by omega)
            have l1x : (-1 : Int32).toInt = -1 := by decide
            refine ok_st (j := 48) hA_8 (by omega) (by omega) (trivial) ?_
            intro A_12 hA_12 A_12_o A_12_s A_12_n
            have QFA_12 : RVm F A 48 k → RVm F A_12 48 k := fun R => R.lv (by decide) A_8_o A_8_s A_8_n A_12_o A_12_s A_12_n (i := x1.toInt) (by omega) (by omega) (by omega) hk (fun q => by first | (exfalso; omega) | exact ⟨by omega, by omega, by omega, by omega⟩)
            refine ok_some ?_
            have l_13 : (1 : Int32).toInt = 1 := by decide
            refine ⟨hF, hA_12, (fun q hq => rfl), (fun q hq => ((A_12_o q (fun e => hq (by rw [e]; decide))).trans (A_8_o q (fun e => hq (by rw [e]; decide))))), ?_⟩
            first | exact QFA_12 | exact RFA_12
          · rw [i_nge] at c_9
            unfold d_leaves_96
            have l_14 : (48 : Int32).toInt = 48 := by decide
            have e_15 := i_add (x := 48) (y := x1) (by omega) (by omega)
            have l1x : (-1 : Int32).toInt = -1 := by decide
            refine ok_st (j := 48) hA_8 (by omega) (by omega) (trivial) ?_
            intro A_16 hA_16 A_16_o A_16_s A_16_n
            have QFA_16 : RVm F A 48 k → RVm F A_16 48 k := fun R => R.lv (by decide) A_8_o A_8_s A_8_n A_16_o A_16_s A_16_n (i := x1.toInt) (by omega) (by omega) (by omega) hk (fun q => by first | (exfalso; omega) | exact ⟨by omega, by omega, by omega, by omega⟩)
            refine ok_some ?_
            have l_17 : (1 : Int32).toInt = 1 := by decide
            refine ⟨hF, hA_16, (fun q hq => rfl), (fun q hq => ((A_16_o q (fun e => hq (by rw [e]; decide))).trans (A_8_o q (fun e => hq (by rw [e]; decide))))), ?_⟩
            first | exact QFA_16 | exact RFA_16
        · rw [i_nge] at c_5
          unfold d_leaves_78
          have l_18 : (42 : Int32).toInt = 42 := by decide
          have e_19 := i_add (x := 42) (y := x1) (by omega) (by omega)
          refine ok_st (j := 48) hA (by omega) (by omega) (trivial) ?_
          intro A_20 hA_20 A_20_o A_20_s A_20_n
          refine ok_cond (fun c_21 => ?_) (fun c_21 => ?_)
          · rw [i_ge] at c_21
            unfold d_leaves_96
            have l_22 : (48 : Int32).toInt = 48 := by decide
            have e_23 := i_add (x := 48) (y := x1) (by omega) (by omega)
            have l1x : (-1 : Int32).toInt = -1 := by decide
            refine ok_st (j := 48) hA_20 (by omega) (by omega) (trivial) ?_
            intro A_24 hA_24 A_24_o A_24_s A_24_n
            have QFA_24 : RVm F A 48 k → RVm F A_24 48 k := fun R => R.lv (by decide) A_20_o A_20_s A_20_n A_24_o A_24_s A_24_n (i := x1.toInt) (by omega) (by omega) (by omega) hk (fun q => by first | (exfalso; omega) | exact ⟨by omega, by omega, by omega, by omega⟩)
            refine ok_some ?_
            have l_25 : (1 : Int32).toInt = 1 := by decide
            refine ⟨hF, hA_24, (fun q hq => rfl), (fun q hq => ((A_24_o q (fun e => hq (by rw [e]; decide))).trans (A_20_o q (fun e => hq (by rw [e]; decide))))), ?_⟩
            first | exact QFA_24 | exact RFA_24
          · rw [i_nge] at c_21
            unfold d_leaves_96
            have l_26 : (48 : Int32).toInt = 48 := by decide
            have e_27 := i_add (x := 48) (y := x1) (by omega) (by omega)
            have l1x : (-1 : Int32).toInt = -1 := by decide
            refine ok_st (j := 48) hA_20 (by omega) (by omega) (trivial) ?_
            intro A_28 hA_28 A_28_o A_28_s A_28_n
            have QFA_28 : RVm F A 48 k → RVm F A_28 48 k := fun R => R.lv (by decide) A_20_o A_20_s A_20_n A_28_o A_28_s A_28_n (i := x1.toInt) (by omega) (by omega) (by omega) hk (fun q => by first | (exfalso; omega) | exact ⟨by omega, by omega, by omega, by omega⟩)
            refine ok_some ?_
            have l_29 : (1 : Int32).toInt = 1 := by decide
            refine ⟨hF, hA_28, (fun q hq => rfl), (fun q hq => ((A_28_o q (fun e => hq (by rw [e]; decide))).trans (A_20_o q (fun e => hq (by rw [e]; decide))))), ?_⟩
            first | exact QFA_28 | exact RFA_28
      · rw [i_nne] at c_4
        refine ok_cond (fun c_30 => ?_) (fun c_30 => ?_)
        · rw [i_lt] at c_30
          unfold d_leaves_60
          refine ok_cond (fun c_31 => ?_) (fun c_31 => ?_)
          · rw [i_ge] at c_31
            unfold d_leaves_78
            have l_32 : (42 : Int32).toInt = 42 := by decide
            have e_33 := i_add (x := 42) (y := x1) (by omega) (by omega)
            refine ok_st (j := 48) hA (by omega) (by omega) (trivial) ?_
            intro A_34 hA_34 A_34_o A_34_s A_34_n
            refine ok_cond (fun c_35 => ?_) (fun c_35 => ?_)
            · rw [i_ge] at c_35
              unfold d_leaves_96
              have l_36 : (48 : Int32).toInt = 48 := by decide
              have e_37 := i_add (x := 48) (y := x1) (by omega) (by omega)
              have l1x : (-1 : Int32).toInt = -1 := by decide
              refine ok_st (j := 48) hA_34 (by omega) (by omega) (trivial) ?_
              intro A_38 hA_38 A_38_o A_38_s A_38_n
              have QFA_38 : RVm F A 48 k → RVm F A_38 48 k := fun R => R.lv (by decide) A_34_o A_34_s A_34_n A_38_o A_38_s A_38_n (i := x1.toInt) (by omega) (by omega) (by omega) hk (fun q => by first | (exfalso; omega) | exact ⟨by omega, by omega, by omega, by omega⟩)
              refine ok_some ?_
              have l_39 : (1 : Int32).toInt = 1 := by decide
              refine ⟨hF, hA_38, (fun q hq => rfl), (fun q hq => ((A_38_o q (fun e => hq (by rw [e]; decide))).trans (A_34_o q (fun e => hq (by rw [e]; decide))))), ?_⟩
              first | exact QFA_38 | exact RFA_38
            · rw [i_nge] at c_35
              unfold d_leaves_96
              have l_40 : (48 : Int32).toInt = 48 := by decide
              have e_41 := i_add (x := 48) (y := x1) (by omega) (by omega)
              have l1x : (-1 : Int32).toInt = -1 := by decide
              refine ok_st (j := 48) hA_34 (by omega) (by omega) (trivial) ?_
              intro A_42 hA_42 A_42_o A_42_s A_42_n
              have QFA_42 : RVm F A 48 k → RVm F A_42 48 k := fun R => R.lv (by decide) A_34_o A_34_s A_34_n A_42_o A_42_s A_42_n (i := x1.toInt) (by omega) (by omega) (by omega) hk (fun q => by first | (exfalso; omega) | exact ⟨by omega, by omega, by omega, by omega⟩)
              refine ok_some ?_
              have l_43 : (1 : Int32).toInt = 1 := by decide
              refine ⟨hF, hA_42, (fun q hq => rfl), (fun q hq => ((A_42_o q (fun e => hq (by rw [e]; decide))).trans (A_34_o q (fun e => hq (by rw [e]; decide))))), ?_⟩
              first | exact QFA_42 | exact RFA_42
          · rw [i_nge] at c_31
            unfold d_leaves_78
            have l_44 : (42 : Int32).toInt = 42 := by decide
            have e_45 := i_add (x := 42) (y := x1) (by omega) (by omega)
            refine ok_st (j := 48) hA (by omega) (by omega) (trivial) ?_
            intro A_46 hA_46 A_46_o A_46_s A_46_n
            refine ok_cond (fun c_47 => ?_) (fun c_47 => ?_)
            · rw [i_ge] at c_47
              unfold d_leaves_96
              have l_48 : (48 : Int32).toInt = 48 := by decide
              have e_49 := i_add (x := 48) (y := x1) (by omega) (by omega)
              have l1x : (-1 : Int32).toInt = -1 := by decide
              refine ok_st (j := 48) hA_46 (by omega) (by omega) (trivial) ?_
              intro A_50 hA_50 A_50_o A_50_s A_50_n
              have QFA_50 : RVm F A 48 k → RVm F A_50 48 k := fun R => R.lv (by decide) A_46_o A_46_s A_46_n A_50_o A_50_s A_50_n (i := x1.toInt) (by omega) (by omega) (by omega) hk (fun q => by first | (exfalso; omega) | exact ⟨by omega, by omega, by omega, by omega⟩)
              refine ok_some ?_
              have l_51 : (1 : Int32).toInt = 1 := by decide
              refine ⟨hF, hA_50, (fun q hq => rfl), (fun q hq => ((A_50_o q (fun e => hq (by rw [e]; decide))).trans (A_46_o q (fun e => hq (by rw [e]; decide))))), ?_⟩
              first | exact QFA_50 | exact RFA_50
            · rw [i_nge] at c_47
              unfold d_leaves_96
              have l_52 : (48 : Int32).toInt = 48 := by decide
              have e_53 := i_add (x := 48) (y := x1) (by omega) (by omega)
              have l1x : (-1 : Int32).toInt = -1 := by decide
              refine ok_st (j := 48) hA_46 (by omega) (by omega) (trivial) ?_
              intro A_54 hA_54 A_54_o A_54_s A_54_n
              have QFA_54 : RVm F A 48 k → RVm F A_54 48 k := fun R => R.lv (by decide) A_46_o A_46_s A_46_n A_54_o A_54_s A_54_n (i := x1.toInt) (by omega) (by omega) (by omega) hk (fun q => by first | (exfalso; omega) | exact ⟨by omega, by omega, by omega, by omega⟩)
              refine ok_some ?_
              have l_55 : (1 : Int32).toInt = 1 := by decide
              refine ⟨hF, hA_54, (fun q hq => rfl), (fun q hq => ((A_54_o q (fun e => hq (by rw [e]; decide))).trans (A_46_o q (fun e => hq (by rw [e]; decide))))), ?_⟩
              first | exact QFA_54 | exact RFA_54
        · rw [i_nlt] at c_30
          refine ok_some ?_
          refine ⟨hF, hA, (fun q hq => rfl), (fun q hq => rfl), ?_⟩
          first | exact QFA | exact RFA
    · rw [i_nlt] at c_2
      refine ok_call (s_d_tasksNow hF hA) ?_
      intro v_56 v_56_p
      have v_56_p : v_56.toInt = ai A 19 (F 18).toInt ∧ 0 ≤ v_56.toInt ∧ v_56.toInt ≤ 6 := v_56_p
      refine ok_cond (fun c_57 => ?_) (fun c_57 => ?_)
      · rw [i_ge] at c_57
        unfold d_leaves_45
        refine ok_call (s_d_tasksNow hF hA) ?_
        intro v_58 v_58_p
        have v_58_p : v_58.toInt = ai A 19 (F 18).toInt ∧ 0 ≤ v_58.toInt ∧ v_58.toInt ≤ 6 := v_58_p
        refine ok_cond (fun c_59 => ?_) (fun c_59 => ?_)
        · rw [i_ne] at c_59
          unfold d_leaves_60
          refine ok_cond (fun c_60 => ?_) (fun c_60 => ?_)
          · rw [i_ge] at c_60
            unfold d_leaves_78
            have l_61 : (42 : Int32).toInt = 42 := by decide
            have e_62 := i_add (x := 42) (y := x1) (by omega) (by omega)
            refine ok_st (j := 48) hA (by omega) (by omega) (trivial) ?_
            intro A_63 hA_63 A_63_o A_63_s A_63_n
            refine ok_cond (fun c_64 => ?_) (fun c_64 => ?_)
            · rw [i_ge] at c_64
              unfold d_leaves_96
              have l_65 : (48 : Int32).toInt = 48 := by decide
              have e_66 := i_add (x := 48) (y := x1) (by omega) (by omega)
              have l1x : (-1 : Int32).toInt = -1 := by decide
              refine ok_st (j := 48) hA_63 (by omega) (by omega) (trivial) ?_
              intro A_67 hA_67 A_67_o A_67_s A_67_n
              have QFA_67 : RVm F A 48 k → RVm F A_67 48 k := fun R => R.lv (by decide) A_63_o A_63_s A_63_n A_67_o A_67_s A_67_n (i := x1.toInt) (by omega) (by omega) (by omega) hk (fun q => by first | (exfalso; omega) | exact ⟨by omega, by omega, by omega, by omega⟩)
              refine ok_some ?_
              have l_68 : (1 : Int32).toInt = 1 := by decide
              refine ⟨hF, hA_67, (fun q hq => rfl), (fun q hq => ((A_67_o q (fun e => hq (by rw [e]; decide))).trans (A_63_o q (fun e => hq (by rw [e]; decide))))), ?_⟩
              first | exact QFA_67 | exact RFA_67
            · rw [i_nge] at c_64
              unfold d_leaves_96
              have l_69 : (48 : Int32).toInt = 48 := by decide
              have e_70 := i_add (x := 48) (y := x1) (by omega) (by omega)
              have l1x : (-1 : Int32).toInt = -1 := by decide
              refine ok_st (j := 48) hA_63 (by omega) (by omega) (trivial) ?_
              intro A_71 hA_71 A_71_o A_71_s A_71_n
              have QFA_71 : RVm F A 48 k → RVm F A_71 48 k := fun R => R.lv (by decide) A_63_o A_63_s A_63_n A_71_o A_71_s A_71_n (i := x1.toInt) (by omega) (by omega) (by omega) hk (fun q => by first | (exfalso; omega) | exact ⟨by omega, by omega, by omega, by omega⟩)
              refine ok_some ?_
              have l_72 : (1 : Int32).toInt = 1 := by decide
              refine ⟨hF, hA_71, (fun q hq => rfl), (fun q hq => ((A_71_o q (fun e => hq (by rw [e]; decide))).trans (A_63_o q (fun e => hq (by rw [e]; decide))))), ?_⟩
              first | exact QFA_71 | exact RFA_71
          · rw [i_nge] at c_60
            unfold d_leaves_78
            have l_73 : (42 : Int32).toInt = 42 := by decide
            have e_74 := i_add (x := 42) (y := x1) (by omega) (by omega)
            refine ok_st (j := 48) hA (by omega) (by omega) (trivial) ?_
            intro A_75 hA_75 A_75_o A_75_s A_75_n
            refine ok_cond (fun c_76 => ?_) (fun c_76 => ?_)
            · rw [i_ge] at c_76
              unfold d_leaves_96
              have l_77 : (48 : Int32).toInt = 48 := by decide
              have e_78 := i_add (x := 48) (y := x1) (by omega) (by omega)
              have l1x : (-1 : Int32).toInt = -1 := by decide
              refine ok_st (j := 48) hA_75 (by omega) (by omega) (trivial) ?_
              intro A_79 hA_79 A_79_o A_79_s A_79_n
              have QFA_79 : RVm F A 48 k → RVm F A_79 48 k := fun R => R.lv (by decide) A_75_o A_75_s A_75_n A_79_o A_79_s A_79_n (i := x1.toInt) (by omega) (by omega) (by omega) hk (fun q => by first | (exfalso; omega) | exact ⟨by omega, by omega, by omega, by omega⟩)
              refine ok_some ?_
              have l_80 : (1 : Int32).toInt = 1 := by decide
              refine ⟨hF, hA_79, (fun q hq => rfl), (fun q hq => ((A_79_o q (fun e => hq (by rw [e]; decide))).trans (A_75_o q (fun e => hq (by rw [e]; decide))))), ?_⟩
              first | exact QFA_79 | exact RFA_79
            · rw [i_nge] at c_76
              unfold d_leaves_96
              have l_81 : (48 : Int32).toInt = 48 := by decide
              have e_82 := i_add (x := 48) (y := x1) (by omega) (by omega)
              have l1x : (-1 : Int32).toInt = -1 := by decide
              refine ok_st (j := 48) hA_75 (by omega) (by omega) (trivial) ?_
              intro A_83 hA_83 A_83_o A_83_s A_83_n
              have QFA_83 : RVm F A 48 k → RVm F A_83 48 k := fun R => R.lv (by decide) A_75_o A_75_s A_75_n A_83_o A_83_s A_83_n (i := x1.toInt) (by omega) (by omega) (by omega) hk (fun q => by first | (exfalso; omega) | exact ⟨by omega, by omega, by omega, by omega⟩)
              refine ok_some ?_
              have l_84 : (1 : Int32).toInt = 1 := by decide
              refine ⟨hF, hA_83, (fun q hq => rfl), (fun q hq => ((A_83_o q (fun e => hq (by rw [e]; decide))).trans (A_75_o q (fun e => hq (by rw [e]; decide))))), ?_⟩
              first | exact QFA_83 | exact RFA_83
        · rw [i_nne] at c_59
          refine ok_cond (fun c_85 => ?_) (fun c_85 => ?_)
          · rw [i_lt] at c_85
            unfold d_leaves_60
            refine ok_cond (fun c_86 => ?_) (fun c_86 => ?_)
            · rw [i_ge] at c_86
              unfold d_leaves_78
              have l_87 : (42 : Int32).toInt = 42 := by decide
              have e_88 := i_add (x := 42) (y := x1) (by omega) (by omega)
              refine ok_st (j := 48) hA (by omega) (by omega) (trivial) ?_
              intro A_89 hA_89 A_89_o A_89_s A_89_n
              refine ok_cond (fun c_90 => ?_) (fun c_90 => ?_)
              · rw [i_ge] at c_90
                unfold d_leaves_96
                have l_91 : (48 : Int32).toInt = 48 := by decide
                have e_92 := i_add (x := 48) (y := x1) (by omega) (by omega)
                have l1x : (-1 : Int32).toInt = -1 := by decide
                refine ok_st (j := 48) hA_89 (by omega) (by omega) (trivial) ?_
                intro A_93 hA_93 A_93_o A_93_s A_93_n
                have QFA_93 : RVm F A 48 k → RVm F A_93 48 k := fun R => R.lv (by decide) A_89_o A_89_s A_89_n A_93_o A_93_s A_93_n (i := x1.toInt) (by omega) (by omega) (by omega) hk (fun q => by first | (exfalso; omega) | exact ⟨by omega, by omega, by omega, by omega⟩)
                refine ok_some ?_
                have l_94 : (1 : Int32).toInt = 1 := by decide
                refine ⟨hF, hA_93, (fun q hq => rfl), (fun q hq => ((A_93_o q (fun e => hq (by rw [e]; decide))).trans (A_89_o q (fun e => hq (by rw [e]; decide))))), ?_⟩
                first | exact QFA_93 | exact RFA_93
              · rw [i_nge] at c_90
                unfold d_leaves_96
                have l_95 : (48 : Int32).toInt = 48 := by decide
                have e_96 := i_add (x := 48) (y := x1) (by omega) (by omega)
                have l1x : (-1 : Int32).toInt = -1 := by decide
                refine ok_st (j := 48) hA_89 (by omega) (by omega) (trivial) ?_
                intro A_97 hA_97 A_97_o A_97_s A_97_n
                have QFA_97 : RVm F A 48 k → RVm F A_97 48 k := fun R => R.lv (by decide) A_89_o A_89_s A_89_n A_97_o A_97_s A_97_n (i := x1.toInt) (by omega) (by omega) (by omega) hk (fun q => by first | (exfalso; omega) | exact ⟨by omega, by omega, by omega, by omega⟩)
                refine ok_some ?_
                have l_98 : (1 : Int32).toInt = 1 := by decide
                refine ⟨hF, hA_97, (fun q hq => rfl), (fun q hq => ((A_97_o q (fun e => hq (by rw [e]; decide))).trans (A_89_o q (fun e => hq (by rw [e]; decide))))), ?_⟩
                first | exact QFA_97 | exact RFA_97
            · rw [i_nge] at c_86
              unfold d_leaves_78
              have l_99 : (42 : Int32).toInt = 42 := by decide
              have e_100 := i_add (x := 42) (y := x1) (by omega) (by omega)
              refine ok_st (j := 48) hA (by omega) (by omega) (trivial) ?_
              intro A_101 hA_101 A_101_o A_101_s A_101_n
              refine ok_cond (fun c_102 => ?_) (fun c_102 => ?_)
              · rw [i_ge] at c_102
                unfold d_leaves_96
                have l_103 : (48 : Int32).toInt = 48 := by decide
                have e_104 := i_add (x := 48) (y := x1) (by omega) (by omega)
                have l1x : (-1 : Int32).toInt = -1 := by decide
                refine ok_st (j := 48) hA_101 (by omega) (by omega) (trivial) ?_
                intro A_105 hA_105 A_105_o A_105_s A_105_n
                have QFA_105 : RVm F A 48 k → RVm F A_105 48 k := fun R => R.lv (by decide) A_101_o A_101_s A_101_n A_105_o A_105_s A_105_n (i := x1.toInt) (by omega) (by omega) (by omega) hk (fun q => by first | (exfalso; omega) | exact ⟨by omega, by omega, by omega, by omega⟩)
                refine ok_some ?_
                have l_106 : (1 : Int32).toInt = 1 := by decide
                refine ⟨hF, hA_105, (fun q hq => rfl), (fun q hq => ((A_105_o q (fun e => hq (by rw [e]; decide))).trans (A_101_o q (fun e => hq (by rw [e]; decide))))), ?_⟩
                first | exact QFA_105 | exact RFA_105
              · rw [i_nge] at c_102
                unfold d_leaves_96
                have l_107 : (48 : Int32).toInt = 48 := by decide
                have e_108 := i_add (x := 48) (y := x1) (by omega) (by omega)
                have l1x : (-1 : Int32).toInt = -1 := by decide
                refine ok_st (j := 48) hA_101 (by omega) (by omega) (trivial) ?_
                intro A_109 hA_109 A_109_o A_109_s A_109_n
                have QFA_109 : RVm F A 48 k → RVm F A_109 48 k := fun R => R.lv (by decide) A_101_o A_101_s A_101_n A_109_o A_109_s A_109_n (i := x1.toInt) (by omega) (by omega) (by omega) hk (fun q => by first | (exfalso; omega) | exact ⟨by omega, by omega, by omega, by omega⟩)
                refine ok_some ?_
                have l_110 : (1 : Int32).toInt = 1 := by decide
                refine ⟨hF, hA_109, (fun q hq => rfl), (fun q hq => ((A_109_o q (fun e => hq (by rw [e]; decide))).trans (A_101_o q (fun e => hq (by rw [e]; decide))))), ?_⟩
                first | exact QFA_109 | exact RFA_109
          · rw [i_nlt] at c_85
            refine ok_some ?_
            refine ⟨hF, hA, (fun q hq => rfl), (fun q hq => rfl), ?_⟩
            first | exact QFA | exact RFA
      · rw [i_nge] at c_57
        refine ok_call (s_d_stepsOf hF hA (by omega)) ?_
        intro v_111 v_111_p
        have v_111_p : v_111.toInt = ai A 22 (6 * (F 18).toInt + x4.toInt) ∧ 0 ≤ v_111.toInt ∧ v_111.toInt ≤ 6 := v_111_p
        refine ok_cond (fun c_112 => ?_) (fun c_112 => ?_)
        · rw [i_lt] at c_112
          unfold d_leaves_45
          refine ok_call (s_d_tasksNow hF hA) ?_
          intro v_113 v_113_p
          have v_113_p : v_113.toInt = ai A 19 (F 18).toInt ∧ 0 ≤ v_113.toInt ∧ v_113.toInt ≤ 6 := v_113_p
          refine ok_cond (fun c_114 => ?_) (fun c_114 => ?_)
          · rw [i_ne] at c_114
            unfold d_leaves_60
            refine ok_cond (fun c_115 => ?_) (fun c_115 => ?_)
            · rw [i_ge] at c_115
              unfold d_leaves_78
              have l_116 : (42 : Int32).toInt = 42 := by decide
              have e_117 := i_add (x := 42) (y := x1) (by omega) (by omega)
              refine ok_st (j := 48) hA (by omega) (by omega) (trivial) ?_
              intro A_118 hA_118 A_118_o A_118_s A_118_n
              refine ok_cond (fun c_119 => ?_) (fun c_119 => ?_)
              · rw [i_ge] at c_119
                unfold d_leaves_96
                have l_120 : (48 : Int32).toInt = 48 := by decide
                have e_121 := i_add (x := 48) (y := x1) (by omega) (by omega)
                have l1x : (-1 : Int32).toInt = -1 := by decide
                refine ok_st (j := 48) hA_118 (by omega) (by omega) (trivial) ?_
                intro A_122 hA_122 A_122_o A_122_s A_122_n
                have QFA_122 : RVm F A 48 k → RVm F A_122 48 k := fun R => R.lv (by decide) A_118_o A_118_s A_118_n A_122_o A_122_s A_122_n (i := x1.toInt) (by omega) (by omega) (by omega) hk (fun q => by first | (exfalso; omega) | exact ⟨by omega, by omega, by omega, by omega⟩)
                refine ok_some ?_
                have l_123 : (1 : Int32).toInt = 1 := by decide
                refine ⟨hF, hA_122, (fun q hq => rfl), (fun q hq => ((A_122_o q (fun e => hq (by rw [e]; decide))).trans (A_118_o q (fun e => hq (by rw [e]; decide))))), ?_⟩
                first | exact QFA_122 | exact RFA_122
              · rw [i_nge] at c_119
                unfold d_leaves_96
                have l_124 : (48 : Int32).toInt = 48 := by decide
                have e_125 := i_add (x := 48) (y := x1) (by omega) (by omega)
                have l1x : (-1 : Int32).toInt = -1 := by decide
                refine ok_st (j := 48) hA_118 (by omega) (by omega) (trivial) ?_
                intro A_126 hA_126 A_126_o A_126_s A_126_n
                have QFA_126 : RVm F A 48 k → RVm F A_126 48 k := fun R => R.lv (by decide) A_118_o A_118_s A_118_n A_126_o A_126_s A_126_n (i := x1.toInt) (by omega) (by omega) (by omega) hk (fun q => by first | (exfalso; omega) | exact ⟨by omega, by omega, by omega, by omega⟩)
                refine ok_some ?_
                have l_127 : (1 : Int32).toInt = 1 := by decide
                refine ⟨hF, hA_126, (fun q hq => rfl), (fun q hq => ((A_126_o q (fun e => hq (by rw [e]; decide))).trans (A_118_o q (fun e => hq (by rw [e]; decide))))), ?_⟩
                first | exact QFA_126 | exact RFA_126
            · rw [i_nge] at c_115
              unfold d_leaves_78
              have l_128 : (42 : Int32).toInt = 42 := by decide
              have e_129 := i_add (x := 42) (y := x1) (by omega) (by omega)
              refine ok_st (j := 48) hA (by omega) (by omega) (trivial) ?_
              intro A_130 hA_130 A_130_o A_130_s A_130_n
              refine ok_cond (fun c_131 => ?_) (fun c_131 => ?_)
              · rw [i_ge] at c_131
                unfold d_leaves_96
                have l_132 : (48 : Int32).toInt = 48 := by decide
                have e_133 := i_add (x := 48) (y := x1) (by omega) (by omega)
                have l1x : (-1 : Int32).toInt = -1 := by decide
                refine ok_st (j := 48) hA_130 (by omega) (by omega) (trivial) ?_
                intro A_134 hA_134 A_134_o A_134_s A_134_n
                have QFA_134 : RVm F A 48 k → RVm F A_134 48 k := fun R => R.lv (by decide) A_130_o A_130_s A_130_n A_134_o A_134_s A_134_n (i := x1.toInt) (by omega) (by omega) (by omega) hk (fun q => by first | (exfalso; omega) | exact ⟨by omega, by omega, by omega, by omega⟩)
                refine ok_some ?_
                have l_135 : (1 : Int32).toInt = 1 := by decide
                refine ⟨hF, hA_134, (fun q hq => rfl), (fun q hq => ((A_134_o q (fun e => hq (by rw [e]; decide))).trans (A_130_o q (fun e => hq (by rw [e]; decide))))), ?_⟩
                first | exact QFA_134 | exact RFA_134
              · rw [i_nge] at c_131
                unfold d_leaves_96
                have l_136 : (48 : Int32).toInt = 48 := by decide
                have e_137 := i_add (x := 48) (y := x1) (by omega) (by omega)
                have l1x : (-1 : Int32).toInt = -1 := by decide
                refine ok_st (j := 48) hA_130 (by omega) (by omega) (trivial) ?_
                intro A_138 hA_138 A_138_o A_138_s A_138_n
                have QFA_138 : RVm F A 48 k → RVm F A_138 48 k := fun R => R.lv (by decide) A_130_o A_130_s A_130_n A_138_o A_138_s A_138_n (i := x1.toInt) (by omega) (by omega) (by omega) hk (fun q => by first | (exfalso; omega) | exact ⟨by omega, by omega, by omega, by omega⟩)
                refine ok_some ?_
                have l_139 : (1 : Int32).toInt = 1 := by decide
                refine ⟨hF, hA_138, (fun q hq => rfl), (fun q hq => ((A_138_o q (fun e => hq (by rw [e]; decide))).trans (A_130_o q (fun e => hq (by rw [e]; decide))))), ?_⟩
                first | exact QFA_138 | exact RFA_138
          · rw [i_nne] at c_114
            refine ok_cond (fun c_140 => ?_) (fun c_140 => ?_)
            · rw [i_lt] at c_140
              unfold d_leaves_60
              refine ok_cond (fun c_141 => ?_) (fun c_141 => ?_)
              · rw [i_ge] at c_141
                unfold d_leaves_78
                have l_142 : (42 : Int32).toInt = 42 := by decide
                have e_143 := i_add (x := 42) (y := x1) (by omega) (by omega)
                refine ok_st (j := 48) hA (by omega) (by omega) (trivial) ?_
                intro A_144 hA_144 A_144_o A_144_s A_144_n
                refine ok_cond (fun c_145 => ?_) (fun c_145 => ?_)
                · rw [i_ge] at c_145
                  unfold d_leaves_96
                  have l_146 : (48 : Int32).toInt = 48 := by decide
                  have e_147 := i_add (x := 48) (y := x1) (by omega) (by omega)
                  have l1x : (-1 : Int32).toInt = -1 := by decide
                  refine ok_st (j := 48) hA_144 (by omega) (by omega) (trivial) ?_
                  intro A_148 hA_148 A_148_o A_148_s A_148_n
                  have QFA_148 : RVm F A 48 k → RVm F A_148 48 k := fun R => R.lv (by decide) A_144_o A_144_s A_144_n A_148_o A_148_s A_148_n (i := x1.toInt) (by omega) (by omega) (by omega) hk (fun q => by first | (exfalso; omega) | exact ⟨by omega, by omega, by omega, by omega⟩)
                  refine ok_some ?_
                  have l_149 : (1 : Int32).toInt = 1 := by decide
                  refine ⟨hF, hA_148, (fun q hq => rfl), (fun q hq => ((A_148_o q (fun e => hq (by rw [e]; decide))).trans (A_144_o q (fun e => hq (by rw [e]; decide))))), ?_⟩
                  first | exact QFA_148 | exact RFA_148
                · rw [i_nge] at c_145
                  unfold d_leaves_96
                  have l_150 : (48 : Int32).toInt = 48 := by decide
                  have e_151 := i_add (x := 48) (y := x1) (by omega) (by omega)
                  have l1x : (-1 : Int32).toInt = -1 := by decide
                  refine ok_st (j := 48) hA_144 (by omega) (by omega) (trivial) ?_
                  intro A_152 hA_152 A_152_o A_152_s A_152_n
                  have QFA_152 : RVm F A 48 k → RVm F A_152 48 k := fun R => R.lv (by decide) A_144_o A_144_s A_144_n A_152_o A_152_s A_152_n (i := x1.toInt) (by omega) (by omega) (by omega) hk (fun q => by first | (exfalso; omega) | exact ⟨by omega, by omega, by omega, by omega⟩)
                  refine ok_some ?_
                  have l_153 : (1 : Int32).toInt = 1 := by decide
                  refine ⟨hF, hA_152, (fun q hq => rfl), (fun q hq => ((A_152_o q (fun e => hq (by rw [e]; decide))).trans (A_144_o q (fun e => hq (by rw [e]; decide))))), ?_⟩
                  first | exact QFA_152 | exact RFA_152
              · rw [i_nge] at c_141
                unfold d_leaves_78
                have l_154 : (42 : Int32).toInt = 42 := by decide
                have e_155 := i_add (x := 42) (y := x1) (by omega) (by omega)
                refine ok_st (j := 48) hA (by omega) (by omega) (trivial) ?_
                intro A_156 hA_156 A_156_o A_156_s A_156_n
                refine ok_cond (fun c_157 => ?_) (fun c_157 => ?_)
                · rw [i_ge] at c_157
                  unfold d_leaves_96
                  have l_158 : (48 : Int32).toInt = 48 := by decide
                  have e_159 := i_add (x := 48) (y := x1) (by omega) (by omega)
                  have l1x : (-1 : Int32).toInt = -1 := by decide
                  refine ok_st (j := 48) hA_156 (by omega) (by omega) (trivial) ?_
                  intro A_160 hA_160 A_160_o A_160_s A_160_n
                  have QFA_160 : RVm F A 48 k → RVm F A_160 48 k := fun R => R.lv (by decide) A_156_o A_156_s A_156_n A_160_o A_160_s A_160_n (i := x1.toInt) (by omega) (by omega) (by omega) hk (fun q => by first | (exfalso; omega) | exact ⟨by omega, by omega, by omega, by omega⟩)
                  refine ok_some ?_
                  have l_161 : (1 : Int32).toInt = 1 := by decide
                  refine ⟨hF, hA_160, (fun q hq => rfl), (fun q hq => ((A_160_o q (fun e => hq (by rw [e]; decide))).trans (A_156_o q (fun e => hq (by rw [e]; decide))))), ?_⟩
                  first | exact QFA_160 | exact RFA_160
                · rw [i_nge] at c_157
                  unfold d_leaves_96
                  have l_162 : (48 : Int32).toInt = 48 := by decide
                  have e_163 := i_add (x := 48) (y := x1) (by omega) (by omega)
                  have l1x : (-1 : Int32).toInt = -1 := by decide
                  refine ok_st (j := 48) hA_156 (by omega) (by omega) (trivial) ?_
                  intro A_164 hA_164 A_164_o A_164_s A_164_n
                  have QFA_164 : RVm F A 48 k → RVm F A_164 48 k := fun R => R.lv (by decide) A_156_o A_156_s A_156_n A_164_o A_164_s A_164_n (i := x1.toInt) (by omega) (by omega) (by omega) hk (fun q => by first | (exfalso; omega) | exact ⟨by omega, by omega, by omega, by omega⟩)
                  refine ok_some ?_
                  have l_165 : (1 : Int32).toInt = 1 := by decide
                  refine ⟨hF, hA_164, (fun q hq => rfl), (fun q hq => ((A_164_o q (fun e => hq (by rw [e]; decide))).trans (A_156_o q (fun e => hq (by rw [e]; decide))))), ?_⟩
                  first | exact QFA_164 | exact RFA_164
            · rw [i_nlt] at c_140
              refine ok_some ?_
              refine ⟨hF, hA, (fun q hq => rfl), (fun q hq => rfl), ?_⟩
              first | exact QFA | exact RFA
        · rw [i_nlt] at c_112
          refine ok_call (s_d_stepsOf hF hA (by omega)) ?_
          intro v_166 v_166_p
          have v_166_p : v_166.toInt = ai A 22 (6 * (F 18).toInt + x4.toInt) ∧ 0 ≤ v_166.toInt ∧ v_166.toInt ≤ 6 := v_166_p
          have l_167 : (1 : Int32).toInt = 1 := by decide
          have e_168 := i_add (x := x4) (y := 1) (by omega) (by omega)
          refine ok_mono (ih hF hA (by omega) (by omega) (by omega)) ?_
          rintro ⟨v_169, F_170, A_171, J_172⟩ ⟨hF_170, hA_171, F_170_o, A_171_o, v_169_p⟩
          dsimp only at hF_170 hA_171 F_170_o A_171_o v_169_p ⊢
          have v_169_p : (RVm F A 48 k → RVm F_170 A_171 48 k) := v_169_p
          refine ⟨hF_170, hA_171, (fun q hq => (F_170_o q hq)), (fun q hq => (A_171_o q hq)), ?_⟩
          exact v_169_p
set_option maxRecDepth 10000 in
theorem s_d_leaves {n : Nat} {k : Int} {F : Nat → Int32} {A : Nat → Nat → Int32} {J : Nat → Nat → Int64} {x1 : Int32} {x2 : Int32} (hF : IFm F) (hA : IAm A) (hn : 10 ≤ n) (hk : k ≤ 6) (hx1 : 0 ≤ x1.toInt ∧ x1.toInt < k) : ok (d_leaves n F A J x1 x2) (fun r => IFm r.2.1 ∧ IAm r.2.2.1 ∧ (∀ q, q ∉ ([] : List Nat) → r.2.1 q = F q) ∧ (∀ q, q ∉ ([48] : List Nat) → r.2.2.1 q = A q) ∧ (RVm F A 48 k → RVm r.2.1 r.2.2.1 48 k)) := by
  have r18 : 0 ≤ (F 18).toInt ∧ (F 18).toInt ≤ 1 := hF 18
  have t19 : 0 ≤ ai A 19 (F 18).toInt ∧ ai A 19 (F 18).toInt ≤ 6 := hA 19 _ (by omega)
  unfold d_leaves
  have l_1 : (0 : Int32).toInt = 0 := by decide
  refine ok_mono (s_d_leaves_7 hF hA (by omega) (by omega) (by omega) (by omega) (by omega)) ?_
  rintro ⟨v_2, F_3, A_4, J_5⟩ ⟨hF_3, hA_4, F_3_o, A_4_o, v_2_p⟩
  dsimp only at hF_3 hA_4 F_3_o A_4_o v_2_p ⊢
  have v_2_p : (RVm F A 48 k → RVm F_3 A_4 48 k) := v_2_p
  refine ⟨hF_3, hA_4, (fun q hq => (F_3_o q hq)), (fun q hq => (A_4_o q hq)), ?_⟩
  exact v_2_p
set_option maxRecDepth 10000 in
theorem s_d_codeOf {n : Nat} {k : Int} {F : Nat → Int32} {A : Nat → Nat → Int32} {J : Nat → Nat → Int64} {x1 : Int32} {x2 : Int32} (hF : IFm F) (hA : IAm A) (hn : 10 ≤ n) (hk : k ≤ 6) (hx1 : 0 ≤ x1.toInt ∧ x1.toInt < k) : ok (d_codeOf n F A J x1 x2) (fun r => IFm r.2.1 ∧ IAm r.2.2.1 ∧ (∀ q, q ∉ ([] : List Nat) → r.2.1 q = F q) ∧ (∀ q, q ∉ ([48] : List Nat) → r.2.2.1 q = A q) ∧ True) := by
  have r18 : 0 ≤ (F 18).toInt ∧ (F 18).toInt ≤ 1 := hF 18
  unfold d_codeOf
  refine ok_call (s_d_leaves hF hA (by omega) (by omega) (by omega)) ?_
  rintro ⟨v_1, F_2, A_3, J_4⟩ ⟨hF_2, hA_3, F_2_o, A_3_o, v_1_p⟩
  dsimp only at hF_2 hA_3 F_2_o A_3_o v_1_p ⊢
  have v_1_p : (RVm F A 48 k → RVm F_2 A_3 48 k) := v_1_p
  have r_5 : 0 ≤ (F_2 18).toInt ∧ (F_2 18).toInt ≤ 1 := hF_2 18
  have r_6 : 0 ≤ (F 18).toInt ∧ (F 18).toInt ≤ 1 := hF 18
  have f_7 : (F_2 18).toInt = (F 18).toInt := congrArg Int32.toInt (F_2_o 18 (by decide))
  have l_8 : (0 : Int32).toInt = 0 := by decide
  refine ok_cond (fun c_9 => ?_) (fun c_9 => ?_)
  · rw [i_eq] at c_9
    refine ok_some ?_
    refine ⟨hF_2, hA_3, (fun q hq => (F_2_o q hq)), (fun q hq => (A_3_o q hq)), ?_⟩
    (first | trivial | omega | exact ⟨by omega, by omega⟩ | assumption)
  · rw [i_neq] at c_9
    have l_10 : (42 : Int32).toInt = 42 := by decide
    have e_11 := i_add (x := 42) (y := x1) (by omega) (by omega)
    refine ok_ld (j := 48) hA_3 (by omega) (by omega) ?_
    intro v_12 v_12_e v_12_r
    refine ok_cond (fun c_13 => ?_) (fun c_13 => ?_)
    · rw [i_lt] at c_13
      refine ok_some ?_
      refine ⟨hF_2, hA_3, (fun q hq => (F_2_o q hq)), (fun q hq => (A_3_o q hq)), ?_⟩
      (first | trivial | omega | exact ⟨by omega, by omega⟩ | assumption)
    · rw [i_nlt] at c_13
      refine ok_ld (j := 48) hA_3 (by omega) (by omega) ?_
      intro v_14 v_14_e v_14_r
      have l_15 : (48 : Int32).toInt = 48 := by decide
      have e_16 := i_add (x := 48) (y := x1) (by omega) (by omega)
      refine ok_ld (j := 48) hA_3 (by omega) (by omega) ?_
      intro v_17 v_17_e v_17_r
      refine ok_some ?_
      refine ⟨hF_2, hA_3, (fun q hq => (F_2_o q hq)), (fun q hq => (A_3_o q hq)), ?_⟩
      (first | trivial | omega | exact ⟨by omega, by omega⟩ | assumption)
