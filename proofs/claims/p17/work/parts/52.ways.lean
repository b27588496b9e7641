set_option maxRecDepth 10000 in
theorem s_d_in  {x0 : Int32} {x1 : Int32} {x2 : Int32}  : ok (d_in x0 x1 x2) (fun v => v.toInt = (if x1.toInt ≤ x0.toInt ∧ x0.toInt ≤ x2.toInt then 1 else 0)) := by
  unfold d_in
  refine ok_cond (fun c_1 => ?_) (fun c_1 => ?_)
  · rw [i_lt] at c_1
    refine ok_some ?_
    have l_2 : (0 : Int32).toInt = 0 := by decide
    (first | (rw [if_pos (by omega)]; assumption) | (rw [if_neg (by omega)]; assumption))
  · rw [i_nlt] at c_1
    refine ok_cond (fun c_3 => ?_) (fun c_3 => ?_)
    · rw [i_gt] at c_3
      refine ok_some ?_
      have l_4 : (0 : Int32).toInt = 0 := by decide
      (first | (rw [if_pos (by omega)]; assumption) | (rw [if_neg (by omega)]; assumption))
    · rw [i_ngt] at c_3
      refine ok_some ?_
      have l_5 : (1 : Int32).toInt = 1 := by decide
      (first | (rw [if_pos (by omega)]; assumption) | (rw [if_neg (by omega)]; assumption))
set_option maxRecDepth 10000 in
theorem s_d_tasksNow {F : Nat → Int32} {A : Nat → Nat → Int32} {J : Nat → Nat → Int64}  (hF : IFm F) (hA : IAm A) : ok (d_tasksNow F A J) (fun v => v.toInt = ai A 19 (F 18).toInt ∧ 0 ≤ v.toInt ∧ v.toInt ≤ 6) := by
  have r18 : 0 ≤ (F 18).toInt ∧ (F 18).toInt ≤ 1 := hF 18
  unfold d_tasksNow
  have r_1 : 0 ≤ (F 18).toInt ∧ (F 18).toInt ≤ 1 := hF 18
  refine ok_ld (j := 19) hA (by omega) (by omega) ?_
  intro v_2 v_2_e v_2_r
  have v_2_r : 0 ≤ v_2.toInt ∧ v_2.toInt ≤ 6 := v_2_r
  refine ok_some ?_
  exact ⟨by assumption, by omega, by omega⟩
set_option maxRecDepth 10000 in
theorem s_d_menNow {F : Nat → Int32} {A : Nat → Nat → Int32} {J : Nat → Nat → Int64}  (hF : IFm F) (hA : IAm A) : ok (d_menNow F A J) (fun v => v.toInt = ai A 29 (F 18).toInt ∧ 0 ≤ v.toInt ∧ v.toInt ≤ 6) := by
  have r18 : 0 ≤ (F 18).toInt ∧ (F 18).toInt ≤ 1 := hF 18
  unfold d_menNow
  have r_1 : 0 ≤ (F 18).toInt ∧ (F 18).toInt ≤ 1 := hF 18
  refine ok_ld (j := 29) hA (by omega) (by omega) ?_
  intro v_2 v_2_e v_2_r
  have v_2_r : 0 ≤ v_2.toInt ∧ v_2.toInt ≤ 6 := v_2_r
  refine ok_some ?_
  exact ⟨by assumption, by omega, by omega⟩
set_option maxRecDepth 10000 in
theorem s_d_takes_2  {n : Nat} {F : Nat → Int32} {A : Nat → Nat → Int32} {J : Nat → Nat → Int64} {x1 : Int32} (hF : IFm F) (hA : IAm A) (rx1 : 0 ≤ x1.toInt ∧ x1.toInt ≤ 100) (hn : 100 - x1.toInt < (n : Int)) : ok (d_takes_2 n F A J x1) (fun r => IFm r.2.1 ∧ IAm r.2.2.1 ∧ (∀ q, q ∉ ([] : List Nat) → r.2.1 q = F q) ∧ (∀ q, q ∉ ([48] : List Nat) → r.2.2.1 q = A q) ∧ True) := by
  induction n generalizing F A J x1 with
  | zero => exact absurd hn (by omega)
  | succ n ih =>
    have r18 : 0 ≤ (F 18).toInt ∧ (F 18).toInt ≤ 1 := hF 18
    unfold d_takes_2
    have l_1 : (100 : Int32).toInt = 100 := by decide
    refine ok_cond (fun c_2 => ?_) (fun c_2 => ?_)
    · rw [i_ge] at c_2
      refine ok_some ?_
      refine ⟨hF, hA, (fun q hq => rfl), (fun q hq => rfl), ?_⟩
      (first | trivial | omega | exact ⟨by omega, by omega⟩ | assumption)
    · rw [i_nge] at c_2
      refine ok_ld (j := 47) hA (by omega) (by omega) ?_
      intro v_3 v_3_e v_3_r
      refine ok_st (j := 48) hA (by omega) (by omega) (trivial) ?_
      intro A_4 hA_4 A_4_o A_4_s A_4_n
      have l_5 : (1 : Int32).toInt = 1 := by decide
      have e_6 := i_add (x := x1) (y := 1) (by omega) (by omega)
      refine ok_mono (ih hF hA_4 (by omega) (by omega)) ?_
      rintro ⟨v_7, F_8, A_9, J_10⟩ ⟨hF_8, hA_9, F_8_o, A_9_o, v_7_p⟩
      dsimp only at hF_8 hA_9 F_8_o A_9_o v_7_p ⊢
      refine ⟨hF_8, hA_9, (fun q hq => (F_8_o q hq)), (fun q hq => ((A_9_o q hq).trans (A_4_o q (fun e => hq (by rw [e]; decide))))), ?_⟩
      (first | trivial | omega | exact ⟨by omega, by omega⟩ | assumption)
set_option maxRecDepth 10000 in
theorem s_d_takes {n : Nat} {F : Nat → Int32} {A : Nat → Nat → Int32} {J : Nat → Nat → Int64}  (hF : IFm F) (hA : IAm A) (hn : 101 ≤ n) : ok (d_takes n F A J) (fun r => IFm r.2.1 ∧ IAm r.2.2.1 ∧ (∀ q, q ∉ ([] : List Nat) → r.2.1 q = F q) ∧ (∀ q, q ∉ ([48] : List Nat) → r.2.2.1 q = A q) ∧ True) := by
  have r18 : 0 ≤ (F 18).toInt ∧ (F 18).toInt ≤ 1 := hF 18
  unfold d_takes
  have l_1 : (0 : Int32).toInt = 0 := by decide
  refine ok_mono (s_d_takes_2 hF hA (by omega) (by omega)) ?_
  rintro ⟨v_2, F_3, A_4, J_5⟩ ⟨hF_3, hA_4, F_3_o, A_4_o, v_2_p⟩
  dsimp only at hF_3 hA_4 F_3_o A_4_o v_2_p ⊢
  refine ⟨hF_3, hA_4, (fun q hq => (F_3_o q hq)), (fun q hq => (A_4_o q hq)), ?_⟩
  (first | trivial | omega | exact ⟨by omega, by omega⟩ | assumption)
set_option maxRecDepth 10000 in
theorem s_d_stepsOf {F : Nat → Int32} {A : Nat → Nat → Int32} {J : Nat → Nat → Int64} {x1 : Int32} (hF : IFm F) (hA : IAm A) (rx1 : 0 ≤ x1.toInt ∧ x1.toInt ≤ 5) : ok (d_stepsOf F A J x1) (fun v => v.toInt = ai A 22 (6 * (F 18).toInt + x1.toInt) ∧ 0 ≤ v.toInt ∧ v.toInt ≤ 6) := by
  have r18 : 0 ≤ (F 18).toInt ∧ (F 18).toInt ≤ 1 := hF 18
  unfold d_stepsOf
  have l_1 : (6 : Int32).toInt = 6 := by decide
  have r_2 : 0 ≤ (F 18).toInt ∧ (F 18).toInt ≤ 1 := hF 18
  have e_3 := i_mulL (c := 6) (k := 6) (x := (F 18)) (by decide) (by omega) (by omega)
  have e_4 := i_add (x := (6 * (F 18))) (y := x1) (by omega) (by omega)
  refine ok_ld (j := 22) hA (by omega) (by omega) ?_
  intro v_5 v_5_e v_5_r
  have v_5_r : 0 ≤ v_5.toInt ∧ v_5.toInt ≤ 6 := v_5_r
  refine ok_some ?_
  refine ⟨?_, by omega, by omega⟩; rw [v_5_e]; congr 1; omega
set_option maxRecDepth 10000 in
theorem s_d_stepAt {F : Nat → Int32} {A : Nat → Nat → Int32} {J : Nat → Nat → Int64} {x1 : Int32} {x2 : Int32} (hF : IFm F) (rx1 : 0 ≤ x1.toInt ∧ x1.toInt ≤ 5) (rx2 : 0 ≤ x2.toInt ∧ x2.toInt ≤ 5) : ok (d_stepAt F A J x1 x2) (fun v => v.toInt = 6 * (6 * (F 18).toInt + x1.toInt) + x2.toInt) := by
  have r18 : 0 ≤ (F 18).toInt ∧ (F 18).toInt ≤ 1 := hF 18
  unfold d_stepAt
  refine ok_some ?_
  have l_1 : (6 : Int32).toInt = 6 := by decide
  have r_2 : 0 ≤ (F 18).toInt ∧ (F 18).toInt ≤ 1 := hF 18
  have e_3 := i_mulL (c := 6) (k := 6) (x := (F 18)) (by decide) (by omega) (by omega)
  have e_4 := i_add (x := (6 * (F 18))) (y := x1) (by omega) (by omega)
  have e_5 := i_mulL (c := 6) (k := 6) (x := ((6 * (F 18)) + x1)) (by decide) (by omega) (by omega)
  have e_6 := i_add (x := (6 * ((6 * (F 18)) + x1))) (y := x2) (by omega) (by omega)
  (first | trivial | omega | exact ⟨by omega, by omega⟩ | assumption)
set_option maxRecDepth 10000 in
theorem s_d_isEnded_2  {n : Nat} {F : Nat → Int32} {A : Nat → Nat → Int32} {J : Nat → Nat → Int64} {x1 : Int32} {x2 : Int32} (hF : IFm F) (hA : IAm A) (rx1 : 0 ≤ x1.toInt ∧ x1.toInt ≤ 5) (rx2 : 0 ≤ x2.toInt ∧ x2.toInt ≤ 6) (hn : 6 - x2.toInt < (n : Int)) : ok (d_isEnded_2 n F A J x1 x2) (fun v => v.toInt = 0 ∨ v.toInt = 1) := by
  induction n generalizing F A J x2 with
  | zero => exact absurd hn (by omega)
  | succ n ih =>
    have r18 : 0 ≤ (F 18).toInt ∧ (F 18).toInt ≤ 1 := hF 18
    unfold d_isEnded_2
    refine ok_call (s_d_stepsOf hF hA (by omega)) ?_
    intro v_1 v_1_p
    have v_1_p : v_1.toInt = ai A 22 (6 * (F 18).toInt + x1.toInt) ∧ 0 ≤ v_1.toInt ∧ v_1.toInt ≤ 6 := v_1_p
    refine ok_cond (fun c_2 => ?_) (fun c_2 => ?_)
    · rw [i_ge] at c_2
      refine ok_some ?_
      have l_3 : (1 : Int32).toInt = 1 := by decide
      (first | trivial | omega | exact ⟨by omega, by omega⟩ | assumption)
    · rw [i_nge] at c_2
      have l_4 : (6 : Int32).toInt = 6 := by decide
      have e_5 := i_mulL (c := 6) (k := 6) (x := x1) (by decide) (by omega) (by omega)
      have e_6 := i_add (x := 6) (y := (6 * x1)) (by omega) (by omega)
      have e_7 := i_add (x := (6 + (6 * x1))) (y := x2) (by omega) (by omega)
      refine ok_ld (j := 48) hA (by omega) (by omega) ?_
      intro v_8 v_8_e v_8_r
      refine ok_call (s_d_stepAt hF (by omega) (by omega)) ?_
      intro v_9 v_9_p
      have v_9_p : v_9.toInt = 6 * (6 * (F 18).toInt + x1.toInt) + x2.toInt := v_9_p
      refine ok_ld (j := 24) hA (by omega) (by omega) ?_
      intro v_10 v_10_e v_10_r
      refine ok_cond (fun c_11 => ?_) (fun c_11 => ?_)
      · rw [i_ge] at c_11
        have l_12 : (1 : Int32).toInt = 1 := by decide
        have e_13 := i_add (x := x2) (y := 1) (by omega) (by omega)
        refine ok_mono (ih hF hA (by omega) (by omega)) ?_
        intro v_14 v_14_p
        have v_14_p : v_14.toInt = 0 ∨ v_14.toInt = 1 := v_14_p
        (first | trivial | omega | exact ⟨by omega, by omega⟩ | assumption)
      · rw [i_nge] at c_11
        refine ok_some ?_
        have l_15 : (0 : Int32).toInt = 0 := by decide
        (first | trivial | omega | exact ⟨by omega, by omega⟩ | assumption)
set_option maxRecDepth 10000 in
theorem s_d_isEnded {n : Nat} {F : Nat → Int32} {A : Nat → Nat → Int32} {J : Nat → Nat → Int64} {x1 : Int32} (hF : IFm F) (hA : IAm A) (hn : 7 ≤ n) (rx1 : 0 ≤ x1.toInt ∧ x1.toInt ≤ 5) : ok (d_isEnded n F A J x1) (fun v => v.toInt = 0 ∨ v.toInt = 1) := by
  have r18 : 0 ≤ (F 18).toInt ∧ (F 18).toInt ≤ 1 := hF 18
  unfold d_isEnded
  have l_1 : (0 : Int32).toInt = 0 := by decide
  refine ok_mono (s_d_isEnded_2 hF hA (by omega) (by omega) (by omega)) ?_
  intro v_2 v_2_p
  have v_2_p : v_2.toInt = 0 ∨ v_2.toInt = 1 := v_2_p
  (first | trivial | omega | exact ⟨by omega, by omega⟩ | assumption)
set_option maxRecDepth 10000 in
theorem s_d_worthOf_4  {n : Nat} {F : Nat → Int32} {A : Nat → Nat → Int32} {J : Nat → Nat → Int64} {x1 : Int32} {x2 : Int32} {x3 : Int32} (hF : IFm F) (hA : IAm A) (rx1 : 0 ≤ x1.toInt ∧ x1.toInt ≤ 5) (rx3 : 0 ≤ x3.toInt ∧ x3.toInt ≤ 6) (hn : 6 - x3.toInt < (n : Int)) : ok (d_worthOf_4 n F A J x1 x2 x3) (fun v => True) := by
  induction n generalizing F A J x2 x3 with
  | zero => exact absurd hn (by omega)
  | succ n ih =>
    have r18 : 0 ≤ (F 18).toInt ∧ (F 18).toInt ≤ 1 := hF 18
    unfold d_worthOf_4
    refine ok_call (s_d_stepsOf hF hA (by omega)) ?_
    intro v_1 v_1_p
    have v_1_p : v_1.toInt = ai A 22 (6 * (F 18).toInt + x1.toInt) ∧ 0 ≤ v_1.toInt ∧ v_1.toInt ≤ 6 := v_1_p
    refine ok_cond (fun c_2 => ?_) (fun c_2 => ?_)
    · rw [i_ge] at c_2
      refine ok_some ?_
      (first | trivial | omega | exact ⟨by omega, by omega⟩ | assumption)
    · rw [i_nge] at c_2
      refine ok_call (s_d_stepAt hF (by omega) (by omega)) ?_
      intro v_3 v_3_p
      have v_3_p : v_3.toInt = 6 * (6 * (F 18).toInt + x1.toInt) + x3.toInt := v_3_p
      have l_4 : (6 : Int32).toInt = 6 := by decide
      have e_5 := i_mulL (c := 6) (k := 6) (x := x1) (by decide) (by omega) (by omega)
      have e_6 := i_add (x := 6) (y := (6 * x1)) (by omega) (by omega)
      have e_7 := i_add (x := (6 + (6 * x1))) (y := x3) (by omega) (by omega)
      refine ok_ld (j := 48) hA (by omega) (by omega) ?_
      intro v_8 v_8_e v_8_r
      refine ok_ld (j := 24) hA (by omega) (by omega) ?_
      intro v_9 v_9_e v_9_r
      refine ok_cond (fun c_10 => ?_) (fun c_10 => ?_)
      · rw [i_ge] at c_10
        unfold d_worthOf_61
        refine ok_ld (j := 25) hA (by omega) (by omega) ?_
        intro v_11 v_11_e v_11_r
        refine ok_cond (fun c_12 => ?_) (fun c_12 => ?_)
        · rw [i_le] at c_12
          unfold d_worthOf_85
          refine ok_ld (j := 26) hA (by omega) (by omega) ?_
          intro v_13 v_13_e v_13_r
          have l_14 : (1 : Int32).toInt = 1 := by decide
          have e_15 := i_add (x := x3) (y := 1) (by omega) (by omega)
          refine ok_mono (ih hF hA (by omega) (by omega)) ?_
          intro v_16 v_16_p
          (first | trivial | omega | exact ⟨by omega, by omega⟩ | assumption)
        · rw [i_nle] at c_12
          unfold d_worthOf_85
          refine ok_ld (j := 26) hA (by omega) (by omega) ?_
          intro v_17 v_17_e v_17_r
          have l_18 : (1 : Int32).toInt = 1 := by decide
          have e_19 := i_add (x := x3) (y := 1) (by omega) (by omega)
          refine ok_mono (ih hF hA (by omega) (by omega)) ?_
          intro v_20 v_20_p
          (first | trivial | omega | exact ⟨by omega, by omega⟩ | assumption)
      · rw [i_nge] at c_10
        unfold d_worthOf_61
        refine ok_ld (j := 25) hA (by omega) (by omega) ?_
        intro v_21 v_21_e v_21_r
        refine ok_cond (fun c_22 => ?_) (fun c_22 => ?_)
        · rw [i_le] at c_22
          unfold d_worthOf_85
          refine ok_ld (j := 26) hA (by omega) (by omega) ?_
          intro v_23 v_23_e v_23_r
          have l_24 : (1 : Int32).toInt = 1 := by decide
          have e_25 := i_add (x := x3) (y := 1) (by omega) (by omega)
          refine ok_mono (ih hF hA (by omega) (by omega)) ?_
          intro v_26 v_26_p
          (first | trivial | omega | exact ⟨by omega, by omega⟩ | assumption)
        · rw [i_nle] at c_22
          unfold d_worthOf_85
          refine ok_ld (j := 26) hA (by omega) (by omega) ?_
          intro v_27 v_27_e v_27_r
          have l_28 : (1 : Int32).toInt = 1 := by decide
          have e_29 := i_add (x := x3) (y := 1) (by omega) (by omega)
          refine ok_mono (ih hF hA (by omega) (by omega)) ?_
          intro v_30 v_30_p
          (first | trivial | omega | exact ⟨by omega, by omega⟩ | assumption)
set_option maxRecDepth 10000 in
theorem s_d_worthOf {n : Nat} {F : Nat → Int32} {A : Nat → Nat → Int32} {J : Nat → Nat → Int64} {x1 : Int32} (hF : IFm F) (hA : IAm A) (hn : 7 ≤ n) (rx1 : 0 ≤ x1.toInt ∧ x1.toInt ≤ 5) : ok (d_worthOf n F A J x1) (fun v => True) := by
  have r18 : 0 ≤ (F 18).toInt ∧ (F 18).toInt ≤ 1 := hF 18
  unfold d_worthOf
  have l_1 : (0 : Int32).toInt = 0 := by decide
  refine ok_mono (s_d_worthOf_4 hF hA (by omega) (by omega) (by omega)) ?_
  intro v_2 v_2_p
  (first | trivial | omega | exact ⟨by omega, by omega⟩ | assumption)
set_option maxRecDepth 10000 in
theorem s_d_worthNow_4  {n : Nat} {F : Nat → Int32} {A : Nat → Nat → Int32} {J : Nat → Nat → Int64} {x1 : Int32} {x2 : Int32} (hF : IFm F) (hA : IAm A) (rx2 : 0 ≤ x2.toInt ∧ x2.toInt ≤ 6) (hn : 13 - x2.toInt < (n : Int)) : ok (d_worthNow_4 n F A J x1 x2) (fun v => True) := by
  induction n generalizing F A J x1 x2 with
  | zero => exact absurd hn (by omega)
  | succ n ih =>
    have r18 : 0 ≤ (F 18).toInt ∧ (F 18).toInt ≤ 1 := hF 18
    unfold d_worthNow_4
    refine ok_call (s_d_tasksNow hF hA) ?_
    intro v_1 v_1_p
    have v_1_p : v_1.toInt = ai A 19 (F 18).toInt ∧ 0 ≤ v_1.toInt ∧ v_1.toInt ≤ 6 := v_1_p
    refine ok_cond (fun c_2 => ?_) (fun c_2 => ?_)
    · rw [i_ge] at c_2
      refine ok_some ?_
      (first | trivial | omega | exact ⟨by omega, by omega⟩ | assumption)
    · rw [i_nge] at c_2
      refine ok_call (s_d_worthOf hF hA (by omega) (by omega)) ?_
      intro v_3 v_3_p
      have l_4 : (1 : Int32).toInt = 1 := by decide
      have e_5 := i_add (x := x2) (y := 1) (by omega) (by omega)
      refine ok_mono (ih hF hA (by omega) (by omega)) ?_
      intro v_6 v_6_p
      (first | trivial | omega | exact ⟨by omega, by omega⟩ | assumption)
set_option maxRecDepth 10000 in
theorem s_d_worthNow {n : Nat} {F : Nat → Int32} {A : Nat → Nat → Int32} {J : Nat → Nat → Int64}  (hF : IFm F) (hA : IAm A) (hn : 14 ≤ n) : ok (d_worthNow n F A J) (fun v => True) := by
  have r18 : 0 ≤ (F 18).toInt ∧ (F 18).toInt ≤ 1 := hF 18
  unfold d_worthNow
  have l_1 : (0 : Int32).toInt = 0 := by decide
  refine ok_mono (s_d_worthNow_4 hF hA (by omega) (by omega)) ?_
  intro v_2 v_2_p
  (first | trivial | omega | exact ⟨by omega, by omega⟩ | assumption)
set_option maxRecDepth 10000 in
theorem s_d_fillsWays_186 {K170 : (Nat → Int32) → (Nat → Nat → Int32) → (Nat → Nat → Int64) → Int32 → Option (Unit × (Nat → Int32) × (Nat → Nat → Int32) × (Nat → Nat → Int64))} {K178 : (Nat → Int32) → (Nat → Nat → Int32) → (Nat → Nat → Int64) → Int32 → Int32 → Option (Unit × (Nat → Int32) × (Nat → Nat → Int32) × (Nat → Nat → Int64))} {Q : Unit × (Nat → Int32) × (Nat → Nat → Int32) × (Nat → Nat → Int64) → Prop} {n : Nat} {F0 : Nat → Int32} {A0 : Nat → Nat → Int32} {F : Nat → Int32} {A : Nat → Nat → Int32} {J : Nat → Nat → Int64} {x1 : Int32} {x2 : Int32} {x3 : Int32} (hF : IFm F) (hA : IAm A) (bF : ∀ q, q ∉ ([] : List Nat) → F q = F0 q) (bA : ∀ q, q ∉ ([49] : List Nat) → A q = A0 q) (rx1 : 0 ≤ x1.toInt ∧ x1.toInt ≤ 7) (rx2 : 0 ≤ x2.toInt ∧ x2.toInt ≤ 7) (rx3 : 0 ≤ x3.toInt ∧ x3.toInt ≤ 8) (hK178 : ∀ F A J, IFm F → IAm A → (∀ q, q ∉ ([] : List Nat) → F q = F0 q) → (∀ q, q ∉ ([49] : List Nat) → A q = A0 q) → ok (K178 F A J x1 (x2 + 1)) Q) (hn : 8 - x3.toInt < (n : Int)) : ok (d_fillsWays_186 K170 K178 n F A J x1 x2 x3) (Q) := by
  induction n generalizing F A J x3 with
  | zero => exact absurd hn (by omega)
  | succ n ih =>
    have r18 : 0 ≤ (F 18).toInt ∧ (F 18).toInt ≤ 1 := hF 18
    unfold d_fillsWays_186
    have l_1 : (8 : Int32).toInt = 8 := by decide
    refine ok_cond (fun c_2 => ?_) (fun c_2 => ?_)
    · rw [i_ge] at c_2
      exact hK178 _ _ _ hF hA (fun q hq => (bF q hq)) (fun q hq => (bA q hq))
    · rw [i_nge] at c_2
      have e_3 := i_mulL (c := 8) (k := 8) (x := x2) (by decide) (by omega) (by omega)
      have e_4 := i_add (x := (8 * x2)) (y := x1) (by omega) (by omega)
      refine ok_ld (j := 49) hA (by omega) (by omega) ?_
      intro v_5 v_5_e v_5_r
      have e_6 := i_mulL (c := 8) (k := 8) (x := x1) (by decide) (by omega) (by omega)
      have e_7 := i_add (x := (8 * x1)) (y := x3) (by omega) (by omega)
      refine ok_ld (j := 49) hA (by omega) (by omega) ?_
      intro v_8 v_8_e v_8_r
      have e_9 := i_add (x := (8 * x2)) (y := x3) (by omega) (by omega)
      refine ok_ld (j := 49) hA (by omega) (by omega) ?_
      intro v_10 v_10_e v_10_r
      refine ok_cond (fun c_11 => ?_) (fun c_11 => ?_)
      · rw [i_ge] at c_11
        unfold d_fillsWays_263
        have l_12 : (1 : Int32).toInt = 1 := by decide
        have e_13 := i_add (x := x3) (y := 1) (by omega) (by omega)
        exact ih hF hA (fun q hq => (bF q hq)) (fun q hq => (bA q hq)) (by omega) (by omega)
      · rw [i_nge] at c_11
        refine ok_ld (j := 49) hA (by omega) (by omega) ?_
        intro v_14 v_14_e v_14_r
        refine ok_ld (j := 49) hA (by omega) (by omega) ?_
        intro v_15 v_15_e v_15_r
        refine ok_st (j := 49) hA (by omega) (by omega) (trivial) ?_
        intro A_16 hA_16 A_16_o A_16_s A_16_n
        have l_17 : (1 : Int32).toInt = 1 := by decide
        have e_18 := i_add (x := x3) (y := 1) (by omega) (by omega)
        exact ih hF hA_16 (fun q hq => (bF q hq)) (fun q hq => ((A_16_o q (fun e => hq (by rw [e]; decide))).trans (bA q hq))) (by omega) (by omega)
set_option maxRecDepth 10000 in
theorem s_d_fillsWays_178 {K170 : (Nat → Int32) → (Nat → Nat → Int32) → (Nat → Nat → Int64) → Int32 → Option (Unit × (Nat → Int32) × (Nat → Nat → Int32) × (Nat → Nat → Int64))} {Q : Unit × (Nat → Int32) × (Nat → Nat → Int32) × (Nat → Nat → Int64) → Prop} {n : Nat} {F0 : Nat → Int32} {A0 : Nat → Nat → Int32} {F : Nat → Int32} {A : Nat → Nat → Int32} {J : Nat → Nat → Int64} {x1 : Int32} {x2 : Int32} (hF : IFm F) (hA : IAm A) (bF : ∀ q, q ∉ ([] : List Nat) → F q = F0 q) (bA : ∀ q, q ∉ ([49] : List Nat) → A q = A0 q) (rx1 : 0 ≤ x1.toInt ∧ x1.toInt ≤ 7) (rx2 : 0 ≤ x2.toInt ∧ x2.toInt ≤ 8) (hK170 : ∀ F A J, IFm F → IAm A → (∀ q, q ∉ ([] : List Nat) → F q = F0 q) → (∀ q, q ∉ ([49] : List Nat) → A q = A0 q) → ok (K170 F A J (x1 + 1)) Q) (hn : 17 - x2.toInt < (n : Int)) : ok (d_fillsWays_178 K170 n F A J x1 x2) (Q) := by
  induction n generalizing F A J x2 with
  | zero => exact absurd hn (by omega)
  | succ n ih =>
    have r18 : 0 ≤ (F 18).toInt ∧ (F 18).toInt ≤ 1 := hF 18
    unfold d_fillsWays_178
    have l_1 : (8 : Int32).toInt = 8 := by decide
    refine ok_cond (fun c_2 => ?_) (fun c_2 => ?_)
    · rw [i_ge] at c_2
      exact hK170 _ _ _ hF hA (fun q hq => (bF q hq)) (fun q hq => (bA q hq))
    · rw [i_nge] at c_2
      have l_3 : (0 : Int32).toInt = 0 := by decide
      have l_4 : (1 : Int32).toInt = 1 := by decide
      have e_5 := i_add (x := x2) (y := 1) (by omega) (by omega)
      exact s_d_fillsWays_186 (K178 := (d_fillsWays_178 K170 n)) hF hA (fun q hq => (bF q hq)) (fun q hq => (bA q hq)) (by omega) (by omega) (by omega) (fun F A J hF hA bF bA => ih hF hA bF bA (by omega) (by omega)) (by omega)
set_option maxRecDepth 10000 in
theorem s_d_fillsWays_170  {n : Nat} {F0 : Nat → Int32} {A0 : Nat → Nat → Int32} {F : Nat → Int32} {A : Nat → Nat → Int32} {J : Nat → Nat → Int64} {x1 : Int32} (hF : IFm F) (hA : IAm A) (bF : ∀ q, q ∉ ([] : List Nat) → F q = F0 q) (bA : ∀ q, q ∉ ([49] : List Nat) → A q = A0 q) (rx1 : 0 ≤ x1.toInt ∧ x1.toInt ≤ 8) (hn : 26 - x1.toInt < (n : Int)) : ok (d_fillsWays_170 n F A J x1) (fun r => IFm r.2.1 ∧ IAm r.2.2.1 ∧ (∀ q, q ∉ ([] : List Nat) → r.2.1 q = F0 q) ∧ (∀ q, q ∉ ([49] : List Nat) → r.2.2.1 q = A0 q) ∧ True) := by
  induction n generalizing F A J x1 with
  | zero => exact absurd hn (by omega)
  | succ n ih =>
    have r18 : 0 ≤ (F 18).toInt ∧ (F 18).toInt ≤ 1 := hF 18
    unfold d_fillsWays_170
    have l_1 : (8 : Int32).toInt = 8 := by decide
    refine ok_cond (fun c_2 => ?_) (fun c_2 => ?_)
    · rw [i_ge] at c_2
      refine ok_some ?_
      refine ⟨hF, hA, (fun q hq => (bF q hq)), (fun q hq => (bA q hq)), ?_⟩
      (first | trivial | omega | exact ⟨by omega, by omega⟩ | assumption)
    · rw [i_nge] at c_2
      have l_3 : (0 : Int32).toInt = 0 := by decide
      have l_4 : (1 : Int32).toInt = 1 := by decide
      have e_5 := i_add (x := x1) (y := 1) (by omega) (by omega)
      exact s_d_fillsWays_178 (K170 := (d_fillsWays_170 n)) hF hA (fun q hq => (bF q hq)) (fun q hq => (bA q hq)) (by omega) (by omega) (fun F A J hF hA bF bA => ih hF hA bF bA (by omega) (by omega)) (by omega)
set_option maxRecDepth 10000 in
theorem s_d_fillsWays_40  {n : Nat} {F0 : Nat → Int32} {A0 : Nat → Nat → Int32} {F : Nat → Int32} {A : Nat → Nat → Int32} {J : Nat → Nat → Int64} {x1 : Int32} (hF : IFm F) (hA : IAm A) (bF : ∀ q, q ∉ ([] : List Nat) → F q = F0 q) (bA : ∀ q, q ∉ ([49] : List Nat) → A q = A0 q) (hV : VMs F0 A0) (rx1 : 0 ≤ x1.toInt ∧ x1.toInt ≤ 12) (hn : 39 - x1.toInt < (n : Int)) : ok (d_fillsWays_40 n F A J x1) (fun r => IFm r.2.1 ∧ IAm r.2.2.1 ∧ (∀ q, q ∉ ([] : List Nat) → r.2.1 q = F0 q) ∧ (∀ q, q ∉ ([49] : List Nat) → r.2.2.1 q = A0 q) ∧ True) := by
  induction n generalizing F A J x1 with
  | zero => exact absurd hn (by omega)
  | succ n ih =>
    have r18 : 0 ≤ (F 18).toInt ∧ (F 18).toInt ≤ 1 := hF 18
    have hV1 : VMs F A := hV.fr (bF 18 (by decide)) (fun q h1 h2 => bA q (by intro e; simp at e; omega))
    unfold d_fillsWays_40
    have r_1 : 0 ≤ (F 18).toInt ∧ (F 18).toInt ≤ 1 := hF 18
    refine ok_ld (j := 12) hA (by omega) (by omega) ?_
    intro v_2 v_2_e v_2_r
    have v_2_r : 0 ≤ v_2.toInt ∧ v_2.toInt ≤ 12 := v_2_r
    refine ok_cond (fun c_3 => ?_) (fun c_3 => ?_)
    · rw [i_ge] at c_3
      have l_4 : (0 : Int32).toInt = 0 := by decide
      exact s_d_fillsWays_170 hF hA (fun q hq => (bF q hq)) (fun q hq => (bA q hq)) (by omega) (by omega)
    · rw [i_nge] at c_3
      have l_5 : (78 : Int32).toInt = 78 := by decide
      refine ok_ld (j := 48) hA (by omega) (by omega) ?_
      intro v_6 v_6_e v_6_r
      have l_7 : (1 : Int32).toInt = 1 := by decide
      refine ok_cond (fun c_8 => ?_) (fun c_8 => ?_)
      · rw [i_ne] at c_8
        have l_9 : (12 : Int32).toInt = 12 := by decide
        have e_10 := i_mulL (c := 12) (k := 12) (x := (F 18)) (by decide) (by omega) (by omega)
        have e_11 := i_add (x := (12 * (F 18))) (y := x1) (by omega) (by omega)
        refine ok_ld (j := 13) hA (by omega) (by omega) ?_
        intro v_12 v_12_e v_12_r
        have v_12_r : -1 ≤ v_12.toInt ∧ v_12.toInt ≤ 7 := v_12_r
        refine ok_ld (j := 14) hA (by omega) (by omega) ?_
        intro v_13 v_13_e v_13_r
        have v_13_r : -1 ≤ v_13.toInt ∧ v_13.toInt ≤ 7 := v_13_r
        refine ok_ld (j := 15) hA (by omega) (by omega) ?_
        intro v_14 v_14_e v_14_r
        have dd := hV1.1 x1.toInt (by omega) (by omega)
        have e13 : ai A 13 (12 * F 18 + x1).toInt = ai A 13 (12 * (F 18).toInt + x1.toInt) := by congr 1; omega
        have e14 : ai A 14 (12 * F 18 + x1).toInt = ai A 14 (12 * (F 18).toInt + x1.toInt) := by congr 1; omega
        have l_15 : (8 : Int32).toInt = 8 := by decide
        have e_16 := i_mulL (c := 8) (k := 8) (x := v_12) (by decide) (by omega) (by omega)
        have e_17 := i_add (x := (8 * v_12)) (y := v_13) (by omega) (by omega)
        refine ok_ld (j := 49) hA (by omega) (by omega) ?_
        intro v_18 v_18_e v_18_r
        refine ok_cond (fun c_19 => ?_) (fun c_19 => ?_)
        · rw [i_lt] at c_19
          refine ok_st (j := 49) hA (by omega) (by omega) (trivial) ?_
          intro A_20 hA_20 A_20_o A_20_s A_20_n
          have e_21 := i_mulL (c := 8) (k := 8) (x := v_13) (by decide) (by omega) (by omega)
          have e_22 := i_add (x := (8 * v_13)) (y := v_12) (by omega) (by omega)
          refine ok_st (j := 49) hA_20 (by omega) (by omega) (trivial) ?_
          intro A_23 hA_23 A_23_o A_23_s A_23_n
          have e_24 := i_add (x := x1) (y := 1) (by omega) (by omega)
          exact ih hF hA_23 (fun q hq => (bF q hq)) (fun q hq => (((A_23_o q (fun e => hq (by rw [e]; decide))).trans (A_20_o q (fun e => hq (by rw [e]; decide)))).trans (bA q hq))) (by omega) (by omega)
        · rw [i_nlt] at c_19
          unfold d_fillsWays_162
          have e_25 := i_add (x := x1) (y := 1) (by omega) (by omega)
          exact ih hF hA (fun q hq => (bF q hq)) (fun q hq => (bA q hq)) (by omega) (by omega)
      · rw [i_nne] at c_8
        unfold d_fillsWays_162
        have e_26 := i_add (x := x1) (y := 1) (by omega) (by omega)
        exact ih hF hA (fun q hq => (bF q hq)) (fun q hq => (bA q hq)) (by omega) (by omega)
set_option maxRecDepth 10000 in
theorem s_d_fillsWays_2  {n : Nat} {F0 : Nat → Int32} {A0 : Nat → Nat → Int32} {F : Nat → Int32} {A : Nat → Nat → Int32} {J : Nat → Nat → Int64} {x1 : Int32} (hF : IFm F) (hA : IAm A) (bF : ∀ q, q ∉ ([] : List Nat) → F q = F0 q) (bA : ∀ q, q ∉ ([49] : List Nat) → A q = A0 q) (hV : VMs F0 A0) (rx1 : 0 ≤ x1.toInt ∧ x1.toInt ≤ 64) (hn : 104 - x1.toInt < (n : Int)) : ok (d_fillsWays_2 n F A J x1) (fun r => IFm r.2.1 ∧ IAm r.2.2.1 ∧ (∀ q, q ∉ ([] : List Nat) → r.2.1 q = F0 q) ∧ (∀ q, q ∉ ([49] : List Nat) → r.2.2.1 q = A0 q) ∧ True) := by
  induction n generalizing F A J x1 with
  | zero => exact absurd hn (by omega)
  | succ n ih =>
    have r18 : 0 ≤ (F 18).toInt ∧ (F 18).toInt ≤ 1 := hF 18
    unfold d_fillsWays_2
    have l_1 : (64 : Int32).toInt = 64 := by decide
    refine ok_cond (fun c_2 => ?_) (fun c_2 => ?_)
    · rw [i_ge] at c_2
      have l_3 : (0 : Int32).toInt = 0 := by decide
      exact s_d_fillsWays_40 hF hA (fun q hq => (bF q hq)) (fun q hq => (bA q hq)) (hV) (by omega) (by omega)
    · rw [i_nge] at c_2
      have l_5 : (8 : Int32).toInt = 8 := by decide
      refine ok_div1 (by omega) ?_
      intro v_4 v_4_e
      refine ok_rem1 (by omega) ?_
      intro v_6 v_6_e
      refine ok_cond (fun c_7 => ?_) (fun c_7 => ?_)
      · rw [i_ne] at c_7
        unfold d_fillsWays_31
        refine ok_st (j := 49) hA (by omega) (by omega) (trivial) ?_
        intro A_8 hA_8 A_8_o A_8_s A_8_n
        have l_9 : (1 : Int32).toInt = 1 := by decide
        have e_10 := i_add (x := x1) (y := 1) (by omega) (by omega)
        exact ih hF hA_8 (fun q hq => (bF q hq)) (fun q hq => ((A_8_o q (fun e => hq (by rw [e]; decide))).trans (bA q hq))) (by omega) (by omega)
      · rw [i_nne] at c_7
        unfold d_fillsWays_31
        refine ok_st (j := 49) hA (by omega) (by omega) (trivial) ?_
        intro A_11 hA_11 A_11_o A_11_s A_11_n
        have l_12 : (1 : Int32).toInt = 1 := by decide
        have e_13 := i_add (x := x1) (y := 1) (by omega) (by omega)
        exact ih hF hA_11 (fun q hq => (bF q hq)) (fun q hq => ((A_11_o q (fun e => hq (by rw [e]; decide))).trans (bA q hq))) (by omega) (by omega)
set_option maxRecDepth 10000 in
theorem s_d_fillsWays {n : Nat} {F : Nat → Int32} {A : Nat → Nat → Int32} {J : Nat → Nat → Int64}  (hF : IFm F) (hA : IAm A) (hn : 110 ≤ n) (hV : VMs F A) : ok (d_fillsWays n F A J) (fun r => IFm r.2.1 ∧ IAm r.2.2.1 ∧ (∀ q, q ∉ ([] : List Nat) → r.2.1 q = F q) ∧ (∀ q, q ∉ ([49] : List Nat) → r.2.2.1 q = A q) ∧ True) := by
  have r18 : 0 ≤ (F 18).toInt ∧ (F 18).toInt ≤ 1 := hF 18
  unfold d_fillsWays
  have l_1 : (0 : Int32).toInt = 0 := by decide
  refine ok_mono (s_d_fillsWays_2 hF hA (fun q hq => rfl) (fun q hq => rfl) (hV) (by omega) (by omega)) ?_
  rintro ⟨v_2, F_3, A_4, J_5⟩ ⟨hF_3, hA_4, F_3_o, A_4_o, v_2_p⟩
  dsimp only at hF_3 hA_4 F_3_o A_4_o v_2_p ⊢
  refine ⟨hF_3, hA_4, (fun q hq => (F_3_o q hq)), (fun q hq => (A_4_o q hq)), ?_⟩
  (first | trivial | omega | exact ⟨by omega, by omega⟩ | assumption)
