set_option maxRecDepth 10000 in
theorem s_d_put_3  {n : Nat} {F : Nat → Int32} {A : Nat → Nat → Int32} {J : Nat → Nat → Int64} {x1 : Int32} {x2 : Int32} (hF : IFm F) (hA : IAm A) (hm : x2.toInt = 24 ∨ x2.toInt = 16 ∨ x2.toInt = 8 ∨ x2.toInt = 0 ∨ x2.toInt = -8) (hb : 8 * (F 2).toInt + x2.toInt + 8 ≤ 16000) (hn : x2.toInt + 9 < (n : Int)) : ok (d_put_3 n F A J x1 x2) (fun r => IFm r.2.1 ∧ IAm r.2.2.1 ∧ (∀ q, q ∉ ([2] : List Nat) → r.2.1 q = F q) ∧ (∀ q, q ∉ ([1] : List Nat) → r.2.2.1 q = A q) ∧ 8 * (r.2.1 2).toInt = 8 * (F 2).toInt + x2.toInt + 8) := by
  induction n generalizing F A J x2 with
  | zero => exact absurd hn (by omega)
  | succ n ih =>
    have r18 : 0 ≤ (F 18).toInt ∧ (F 18).toInt ≤ 1 := hF 18
    unfold d_put_3
    have l_1 : (0 : Int32).toInt = 0 := by decide
    refine ok_cond (fun c_2 => ?_) (fun c_2 => ?_)
    · rw [i_lt] at c_2
      refine ok_some ?_
      refine ⟨hF, hA, (fun q hq => rfl), (fun q hq => rfl), ?_⟩
      (try dsimp only) <;> omega
    · rw [i_nlt] at c_2
      have r_3 : 0 ≤ (F 2).toInt ∧ (F 2).toInt ≤ 2000 := hF 2
      refine ok_st (j := 1) hA (by omega) (by omega) (trivial) ?_
      intro A_4 hA_4 A_4_o A_4_s A_4_n
      have l_5 : (1 : Int32).toInt = 1 := by decide
      have e_6 := i_add (x := (F 2)) (y := 1) (by omega) (by omega)
      refine ok_pf hF (⟨by omega, by omega⟩) ?_
      intro F_7 hF_7 F_7_k F_7_o
      have f2v : (F_7 2).toInt = (F 2).toInt + 1 := by rw [F_7_k]; omega
      have ey := i_m8 (x := x2) (by omega)
      generalize hy : x2 + -8 = y2 at ey ⊢
      clear hy
      refine ok_mono (ih hF_7 hA_4 (by omega) (by omega) (by omega)) ?_
      rintro ⟨v_8, F_9, A_10, J_11⟩ ⟨hF_9, hA_10, F_9_o, A_10_o, v_8_p⟩
      dsimp only at hF_9 hA_10 F_9_o A_10_o v_8_p ⊢
      have v_8_p : 8 * (F_9 2).toInt = 8 * (F_7 2).toInt + y2.toInt + 8 := v_8_p
      refine ⟨hF_9, hA_10, (fun q hq => ((F_9_o q hq).trans (F_7_o q (fun e => hq (by rw [e]; decide))))), (fun q hq => ((A_10_o q hq).trans (A_4_o q (fun e => hq (by rw [e]; decide))))), ?_⟩
      (try dsimp only) <;> omega
set_option maxRecDepth 10000 in
theorem s_d_put {n : Nat} {F : Nat → Int32} {A : Nat → Nat → Int32} {J : Nat → Nat → Int64} {x1 : Int32} (hF : IFm F) (hA : IAm A) (hn : 40 ≤ n) (hb : (F 2).toInt + 4 ≤ 2000) : ok (d_put n F A J x1) (fun r => IFm r.2.1 ∧ IAm r.2.2.1 ∧ (∀ q, q ∉ ([2] : List Nat) → r.2.1 q = F q) ∧ (∀ q, q ∉ ([1] : List Nat) → r.2.2.1 q = A q) ∧ (r.2.1 2).toInt = (F 2).toInt + 4) := by
  have r18 : 0 ≤ (F 18).toInt ∧ (F 18).toInt ≤ 1 := hF 18
  have l24 : (24 : Int32).toInt = 24 := by decide
  unfold d_put
  refine ok_mono (s_d_put_3 hF hA (by omega) (by omega) (by omega)) ?_
  rintro ⟨v_1, F_2, A_3, J_4⟩ ⟨hF_2, hA_3, F_2_o, A_3_o, v_1_p⟩
  dsimp only at hF_2 hA_3 F_2_o A_3_o v_1_p ⊢
  have v_1_p : 8 * (F_2 2).toInt = 8 * (F 2).toInt + (24 : Int32).toInt + 8 := v_1_p
  refine ⟨hF_2, hA_3, (fun q hq => (F_2_o q hq)), (fun q hq => (A_3_o q hq)), ?_⟩
  (try dsimp only) <;> omega
set_option maxRecDepth 10000 in
theorem s_d_feed {n : Nat} {F : Nat → Int32} {A : Nat → Nat → Int32} {J : Nat → Nat → Int64} {x1 : Int32} {x2 : Int32} {x3 : Int32} {x4 : Int32} {x5 : Int32} (hF : IFm F) (hA : IAm A) (hn : 50 ≤ n) : ok (d_feed n F A J x1 x2 x3 x4 x5) (fun r => IFm r.2.1 ∧ IAm r.2.2.1 ∧ (∀ q, q ∉ ([2] : List Nat) → r.2.1 q = F q) ∧ (∀ q, q ∉ ([1] : List Nat) → r.2.2.1 q = A q) ∧ (((F 2).toInt + 20 ≤ 2000 ∧ r.1.toInt = (F 2).toInt + 20 ∧ (r.2.1 2).toInt = (F 2).toInt + 20) ∨ (2000 < (F 2).toInt + 20 ∧ r.1.toInt = -1 ∧ (r.2.1 2).toInt = (F 2).toInt))) := by
  have r18 : 0 ≤ (F 18).toInt ∧ (F 18).toInt ≤ 1 := hF 18
  unfold d_feed
  have r_1 : 0 ≤ (F 2).toInt ∧ (F 2).toInt ≤ 2000 := hF 2
  have l_2 : (20 : Int32).toInt = 20 := by decide
  have e_3 := i_add (x := (F 2)) (y := 20) (by omega) (by omega)
  have l_4 : (2000 : Int32).toInt = 2000 := by decide
  refine ok_cond (fun c_5 => ?_) (fun c_5 => ?_)
  · rw [i_le] at c_5
    refine ok_call (s_d_put hF hA (by omega) (by omega)) ?_
    rintro ⟨u_6, F_7, A_8, J_9⟩ ⟨hF_7, hA_8, F_7_o, A_8_o, u_6_p⟩
    dsimp only at hF_7 hA_8 F_7_o A_8_o u_6_p ⊢
    have u_6_p : (F_7 2).toInt = (F 2).toInt + 4 := u_6_p
    have r_10 : 0 ≤ (F_7 18).toInt ∧ (F_7 18).toInt ≤ 1 := hF_7 18
    have r_11 : 0 ≤ (F 18).toInt ∧ (F 18).toInt ≤ 1 := hF 18
    have f_12 : (F_7 18).toInt = (F 18).toInt := congrArg Int32.toInt (F_7_o 18 (by decide))
    refine ok_call (s_d_put hF_7 hA_8 (by omega) (by omega)) ?_
    rintro ⟨u_13, F_14, A_15, J_16⟩ ⟨hF_14, hA_15, F_14_o, A_15_o, u_13_p⟩
    dsimp only at hF_14 hA_15 F_14_o A_15_o u_13_p ⊢
    have u_13_p : (F_14 2).toInt = (F_7 2).toInt + 4 := u_13_p
    have r_17 : 0 ≤ (F_14 18).toInt ∧ (F_14 18).toInt ≤ 1 := hF_14 18
    have f_18 : (F_14 18).toInt = (F_7 18).toInt := congrArg Int32.toInt (F_14_o 18 (by decide))
    refine ok_call (s_d_put hF_14 hA_15 (by omega) (by omega)) ?_
    rintro ⟨u_19, F_20, A_21, J_22⟩ ⟨hF_20, hA_21, F_20_o, A_21_o, u_19_p⟩
    dsimp only at hF_20 hA_21 F_20_o A_21_o u_19_p ⊢
    have u_19_p : (F_20 2).toInt = (F_14 2).toInt + 4 := u_19_p
    have r_23 : 0 ≤ (F_20 18).toInt ∧ (F_20 18).toInt ≤ 1 := hF_20 18
    have f_24 : (F_20 18).toInt = (F_14 18).toInt := congrArg Int32.toInt (F_20_o 18 (by decide))
    refine ok_call (s_d_put hF_20 hA_21 (by omega) (by omega)) ?_
    rintro ⟨u_25, F_26, A_27, J_28⟩ ⟨hF_26, hA_27, F_26_o, A_27_o, u_25_p⟩
    dsimp only at hF_26 hA_27 F_26_o A_27_o u_25_p ⊢
    have u_25_p : (F_26 2).toInt = (F_20 2).toInt + 4 := u_25_p
    have r_29 : 0 ≤ (F_26 18).toInt ∧ (F_26 18).toInt ≤ 1 := hF_26 18
    have f_30 : (F_26 18).toInt = (F_20 18).toInt := congrArg Int32.toInt (F_26_o 18 (by decide))
    refine ok_call (s_d_put hF_26 hA_27 (by omega) (by omega)) ?_
    rintro ⟨u_31, F_32, A_33, J_34⟩ ⟨hF_32, hA_33, F_32_o, A_33_o, u_31_p⟩
    dsimp only at hF_32 hA_33 F_32_o A_33_o u_31_p ⊢
    have u_31_p : (F_32 2).toInt = (F_26 2).toInt + 4 := u_31_p
    have r_35 : 0 ≤ (F_32 18).toInt ∧ (F_32 18).toInt ≤ 1 := hF_32 18
    have f_36 : (F_32 18).toInt = (F_26 18).toInt := congrArg Int32.toInt (F_32_o 18 (by decide))
    refine ok_some ?_
    have r_37 : 0 ≤ (F_32 2).toInt ∧ (F_32 2).toInt ≤ 2000 := hF_32 2
    refine ⟨hF_32, hA_33, (fun q hq => (((((F_32_o q hq).trans (F_26_o q hq)).trans (F_20_o q hq)).trans (F_14_o q hq)).trans (F_7_o q hq))), (fun q hq => (((((A_33_o q hq).trans (A_27_o q hq)).trans (A_21_o q hq)).trans (A_15_o q hq)).trans (A_8_o q hq))), ?_⟩
    (try dsimp only) <;> omega
  · rw [i_nle] at c_5
    refine ok_some ?_
    have l_38 : (-1 : Int32).toInt = -1 := by decide
    refine ⟨hF, hA, (fun q hq => rfl), (fun q hq => rfl), ?_⟩
    (try dsimp only) <;> omega
set_option maxRecDepth 10000 in
theorem s_d_back {F : Nat → Int32} {A : Nat → Nat → Int32} {J : Nat → Nat → Int64} {x1 : Int32} (hF : IFm F) (hA : IAm A) : ok (d_back F A J x1) (fun r => IFm r.2.1 ∧ IAm r.2.2.1 ∧ (∀ q, q ∉ ([2] : List Nat) → r.2.1 q = F q) ∧ (∀ q, q ∉ ([] : List Nat) → r.2.2.1 q = A q) ∧ ((0 ≤ x1.toInt ∧ x1.toInt ≤ (F 2).toInt ∧ r.1.toInt = (F 2).toInt - x1.toInt ∧ (r.2.1 2).toInt = (F 2).toInt - x1.toInt) ∨ ((x1.toInt < 0 ∨ (F 2).toInt < x1.toInt) ∧ r.1.toInt = -1 ∧ (r.2.1 2).toInt = (F 2).toInt))) := by
  have r18 : 0 ≤ (F 18).toInt ∧ (F 18).toInt ≤ 1 := hF 18
  unfold d_back
  have l_1 : (0 : Int32).toInt = 0 := by decide
  refine ok_cond (fun c_2 => ?_) (fun c_2 => ?_)
  · rw [i_lt] at c_2
    refine ok_some ?_
    have l_3 : (-1 : Int32).toInt = -1 := by decide
    refine ⟨hF, hA, (fun q hq => rfl), (fun q hq => rfl), ?_⟩
    (try dsimp only) <;> omega
  · rw [i_nlt] at c_2
    have r_4 : 0 ≤ (F 2).toInt ∧ (F 2).toInt ≤ 2000 := hF 2
    refine ok_cond (fun c_5 => ?_) (fun c_5 => ?_)
    · rw [i_le] at c_5
      have e_6 := i_sub (x := (F 2)) (y := x1) (by omega) (by omega)
      refine ok_pf hF (⟨by omega, by omega⟩) ?_
      intro F_7 hF_7 F_7_k F_7_o
      refine ok_some ?_
      have r_8 : 0 ≤ (F_7 2).toInt ∧ (F_7 2).toInt ≤ 2000 := hF_7 2
      have f_9 : (F_7 2).toInt = (((F 2) - x1)).toInt := congrArg Int32.toInt F_7_k
      refine ⟨hF_7, hA, (fun q hq => (F_7_o q (fun e => hq (by rw [e]; decide)))), (fun q hq => rfl), ?_⟩
      (try dsimp only) <;> omega
    · rw [i_nle] at c_5
      refine ok_some ?_
      have l_10 : (-1 : Int32).toInt = -1 := by decide
      refine ⟨hF, hA, (fun q hq => rfl), (fun q hq => rfl), ?_⟩
      (try dsimp only) <;> omega
