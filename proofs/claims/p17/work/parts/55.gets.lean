set_option maxRecDepth 10000 in
theorem s_d_getsUp {k : Int} {F : Nat → Int32} {A : Nat → Nat → Int32} {J : Nat → Nat → Int64} {x1 : Int32} (hF : IFm F) (hA : IAm A) (hk : k ≤ 6) (hx : x1.toInt < k) (VFA : VMs F A) (MFA : k = ai A 29 (F 18).toInt) (RFA : RVm F A 48 k) (NFA : NVm F A x1.toInt) (rx1 : 0 ≤ x1.toInt ∧ x1.toInt ≤ 5) : ok (d_getsUp F A J x1) (fun r => IFm r.2.1 ∧ IAm r.2.2.1 ∧ (∀ q, q ∉ ([] : List Nat) → r.2.1 q = F q) ∧ (∀ q, q ∉ ([48, 50, 51, 54, 55, 56] : List Nat) → r.2.2.1 q = A q) ∧ NVm r.2.1 r.2.2.1 (x1.toInt + 1) ∧ RVm r.2.1 r.2.2.1 48 k) := by
  have r18 : 0 ≤ (F 18).toInt ∧ (F 18).toInt ≤ 1 := hF 18
  have XFA : ∀ i, 42 ≤ i → i < 54 → ai A 48 i = ai A 48 i := fun _ _ _ => rfl
  have t19 : 0 ≤ ai A 19 (F 18).toInt ∧ ai A 19 (F 18).toInt ≤ 6 := hA 19 _ (by omega)
  have YFA : ∀ q, 8 ≤ q → q ≤ 43 → A q = A q := fun _ _ _ => rfl
  unfold d_getsUp
  have l_1 : (42 : Int32).toInt = 42 := by decide
  have e_2 := i_add (x := 42) (y := x1) (by omega) (by omega)
  refine ok_ld (j := 48) hA (by omega) (by omega) ?_
  intro v_3 v_3_e v_3_r
  have w1 : v_3.toInt = ai A 48 (42 + x1.toInt) := by rw [v_3_e]; congr 1 <;> omega
  have l_4 : (0 : Int32).toInt = 0 := by decide
  refine ok_st (j := 50) hA (by omega) (by omega) (trivial) ?_
  intro A_5 hA_5 A_5_o A_5_s A_5_n
  have VFA_5 : VMs F A_5 := VFA.fr rfl (fun q h1 h2 => A_5_o q (by omega))
  have MFA_5 : k = ai A_5 29 (F 18).toInt := by rw [ai_fr (A_5_o 29 (by decide))]; exact MFA
  have RFA_5 : RVm F A_5 48 k := RFA.sto A_5_o (by decide) (by decide)
  have NFA_5 : NVm F A_5 x1.toInt := NFA.st50 A_5_o A_5_s A_5_n (fun q _ => absurd q (by omega)) (fun q _ => absurd q (by omega))
  have XFA_5 : ∀ i, 42 ≤ i → i < 54 → ai A_5 48 i = ai A 48 i := by rw [ai_fr (A_5_o 48 (by decide))]; exact XFA
  have YFA_5 : ∀ q, 8 ≤ q → q ≤ 43 → A_5 q = A q := fun q h1 h2 => (A_5_o q (by omega)).trans (YFA q h1 h2)
  have QFA_5 : (ai A_5 50 x1.toInt = 1 → 0 ≤ ai A 48 (42 + x1.toInt)) ∧ ai A_5 50 x1.toInt ≠ 2 := ⟨fun e => absurd e (by omega), by omega⟩
  refine ok_st (j := 55) hA_5 (by omega) (by omega) (trivial) ?_
  intro A_6 hA_6 A_6_o A_6_s A_6_n
  have VFA_6 : VMs F A_6 := VFA_5.fr rfl (fun q h1 h2 => A_6_o q (by omega))
  have MFA_6 : k = ai A_6 29 (F 18).toInt := by rw [ai_fr (A_6_o 29 (by decide))]; exact MFA_5
  have RFA_6 : RVm F A_6 48 k := RFA_5.sto A_6_o (by decide) (by decide)
  have NFA_6 : NVm F A_6 x1.toInt := NFA_5.sto A_6_o (by decide)
  have XFA_6 : ∀ i, 42 ≤ i → i < 54 → ai A_6 48 i = ai A 48 i := by rw [ai_fr (A_6_o 48 (by decide))]; exact XFA_5
  have QFA_6 : (ai A_6 50 x1.toInt = 1 → 0 ≤ ai A 48 (42 + x1.toInt)) ∧ ai A_6 50 x1.toInt ≠ 2 := by rw [ai_fr (A_6_o 50 (by decide))]; exact QFA_5
  have YFA_6 : ∀ q, 8 ≤ q → q ≤ 43 → A_6 q = A q := fun q h1 h2 => (A_6_o q (by omega)).trans (YFA_5 q h1 h2)
  refine ok_st (j := 56) hA_6 (by omega) (by omega) (show 0 ≤ (vp_nar .boolean 0).toInt ∧ (vp_nar .boolean 0).toInt ≤ 1 by decide) ?_
  intro A_7 hA_7 A_7_o A_7_s A_7_n
  have VFA_7 : VMs F A_7 := VFA_6.fr rfl (fun q h1 h2 => A_7_o q (by omega))
  have MFA_7 : k = ai A_7 29 (F 18).toInt := by rw [ai_fr (A_7_o 29 (by decide))]; exact MFA_6
  have RFA_7 : RVm F A_7 48 k := RFA_6.sto A_7_o (by decide) (by decide)
  have NFA_7 : NVm F A_7 x1.toInt := NFA_6.sto A_7_o (by decide)
  have XFA_7 : ∀ i, 42 ≤ i → i < 54 → ai A_7 48 i = ai A 48 i := by rw [ai_fr (A_7_o 48 (by decide))]; exact XFA_6
  have QFA_7 : (ai A_7 50 x1.toInt = 1 → 0 ≤ ai A 48 (42 + x1.toInt)) ∧ ai A_7 50 x1.toInt ≠ 2 := by rw [ai_fr (A_7_o 50 (by decide))]; exact QFA_6
  have YFA_7 : ∀ q, 8 ≤ q → q ≤ 43 → A_7 q = A q := fun q h1 h2 => (A_7_o q (by omega)).trans (YFA_6 q h1 h2)
  have l_8 : (66 : Int32).toInt = 66 := by decide
  have e_9 := i_add (x := 66) (y := x1) (by omega) (by omega)
  refine ok_st (j := 48) hA_7 (by omega) (by omega) (trivial) ?_
  intro A_10 hA_10 A_10_o A_10_s A_10_n
  have VFA_10 : VMs F A_10 := VFA_7.fr rfl (fun q h1 h2 => A_10_o q (by omega))
  have MFA_10 : k = ai A_10 29 (F 18).toInt := by rw [ai_fr (A_10_o 29 (by decide))]; exact MFA_7
  have RFA_10 : RVm F A_10 48 k := RFA_7.st (by decide) A_10_o A_10_n (by omega) hk
  have NFA_10 : NVm F A_10 x1.toInt := NFA_7.st48 A_10_o A_10_n (by omega)
  have XFA_10 : ∀ i, 42 ≤ i → i < 54 → ai A_10 48 i = ai A 48 i := fun i hi hj => (A_10_n i (by omega) (by omega)).trans (XFA_7 i hi hj)
  have QFA_10 : (ai A_10 50 x1.toInt = 1 → 0 ≤ ai A 48 (42 + x1.toInt)) ∧ ai A_10 50 x1.toInt ≠ 2 := by rw [ai_fr (A_10_o 50 (by decide))]; exact QFA_7
  have YFA_10 : ∀ q, 8 ≤ q → q ≤ 43 → A_10 q = A q := fun q h1 h2 => (A_10_o q (by omega)).trans (YFA_7 q h1 h2)
  have l_11 : (48 : Int32).toInt = 48 := by decide
  have e_12 := i_add (x := 48) (y := x1) (by omega) (by omega)
  refine ok_ld (j := 48) hA_10 (by omega) (by omega) ?_
  intro v_13 v_13_e v_13_r
  refine ok_st (j := 54) hA_10 (by omega) (by omega) (trivial) ?_
  intro A_14 hA_14 A_14_o A_14_s A_14_n
  have VFA_14 : VMs F A_14 := VFA_10.fr rfl (fun q h1 h2 => A_14_o q (by omega))
  have MFA_14 : k = ai A_14 29 (F 18).toInt := by rw [ai_fr (A_14_o 29 (by decide))]; exact MFA_10
  have RFA_14 : RVm F A_14 48 k := RFA_10.sto A_14_o (by decide) (by decide)
  have NFA_14 : NVm F A_14 x1.toInt := NFA_10.st54 A_14_o A_14_s A_14_n (fun q => absurd q (by omega))
  have XFA_14 : ∀ i, 42 ≤ i → i < 54 → ai A_14 48 i = ai A 48 i := by rw [ai_fr (A_14_o 48 (by decide))]; exact XFA_10
  have QFA_14 : (ai A_14 50 x1.toInt = 1 → 0 ≤ ai A 48 (42 + x1.toInt)) ∧ ai A_14 50 x1.toInt ≠ 2 := by rw [ai_fr (A_14_o 50 (by decide))]; exact QFA_10
  have YFA_14 : ∀ q, 8 ≤ q → q ≤ 43 → A_14 q = A q := fun q h1 h2 => (A_14_o q (by omega)).trans (YFA_10 q h1 h2)
  have PFA_14 : ai A_14 54 x1.toInt = ai A 48 (48 + x1.toInt) := by rw [A_14_s, v_13_e, show (48 + x1).toInt = 48 + x1.toInt by omega, XFA_10 (48 + x1.toInt) (by omega) (by omega)]
  refine ok_cond (fun c_15 => ?_) (fun c_15 => ?_)
  · rw [i_ge] at c_15
    have l_16 : (6 : Int32).toInt = 6 := by decide
    have r_17 : 0 ≤ (F 18).toInt ∧ (F 18).toInt ≤ 1 := hF 18
    have e_18 := i_mulL (c := 6) (k := 6) (x := (F 18)) (by decide) (by omega) (by omega)
    have e_19 := i_add (x := (6 * (F 18))) (y := x1) (by omega) (by omega)
    refine ok_ld (j := 30) hA_14 (by omega) (by omega) ?_
    intro v_20 v_20_e v_20_r
    have v_20_r : -1 ≤ v_20.toInt ∧ v_20.toInt ≤ 7 := v_20_r
    have hh := VFA_14.2.1 x1.toInt (by omega) (by rw [← MFA_14]; omega)
    have e9 : ai A_14 30 (6 * F 18 + x1).toInt = ai A_14 30 (6 * (F 18).toInt + x1.toInt) := by congr 1 <;> omega
    have hs := RFA x1.toInt (by omega) (by omega) (by omega)
    obtain ⟨g1, g2, g3, g4⟩ := id hs
    have e_21 := i_add (x := (6 * (F 18))) (y := v_3) (by omega) (by omega)
    refine ok_ld (j := 20) hA_14 (by omega) (by omega) ?_
    intro v_22 v_22_e v_22_r
    have v_22_r : -1 ≤ v_22.toInt ∧ v_22.toInt ≤ 7 := v_22_r
    have hr := VFA.2.2.1 v_3.toInt (by omega) (by omega)
    have e10 : ai A_14 20 (6 * F 18 + v_3).toInt = ai A 20 (6 * (F 18).toInt + v_3.toInt) := by rw [show (6 * F 18 + v_3).toInt = 6 * (F 18).toInt + v_3.toInt by omega]; exact congrFun (ai_fr (YFA_14 20 (by decide) (by decide))) _
    have l_23 : (8 : Int32).toInt = 8 := by decide
    have e_24 := i_mulL (c := 8) (k := 8) (x := v_20) (by decide) (by omega) (by omega)
    have e_25 := i_add (x := (8 * v_20)) (y := v_22) (by omega) (by omega)
    refine ok_ld (j := 49) hA_14 (by omega) (by omega) ?_
    intro v_26 v_26_e v_26_r
    have l_27 : (1000000 : Int32).toInt = 1000000 := by decide
    refine ok_cond (fun c_28 => ?_) (fun c_28 => ?_)
    · rw [i_ne] at c_28
      unfold d_getsUp_117
      have l_29 : (1 : Int32).toInt = 1 := by decide
      refine ok_st (j := 50) hA_14 (by omega) (by omega) (trivial) ?_
      intro A_30 hA_30 A_30_o A_30_s A_30_n
      have VFA_30 : VMs F A_30 := VFA_14.fr rfl (fun q h1 h2 => A_30_o q (by omega))
      have MFA_30 : k = ai A_30 29 (F 18).toInt := by rw [ai_fr (A_30_o 29 (by decide))]; exact MFA_14
      have RFA_30 : RVm F A_30 48 k := RFA_14.sto A_30_o (by decide) (by decide)
      have NFA_30 : NVm F A_30 x1.toInt := NFA_14.st50 A_30_o A_30_s A_30_n (fun q _ => absurd q (by omega)) (fun q _ => absurd q (by omega))
      have XFA_30 : ∀ i, 42 ≤ i → i < 54 → ai A_30 48 i = ai A 48 i := by rw [ai_fr (A_30_o 48 (by decide))]; exact XFA_14
      have QFA_30 : (ai A_30 50 x1.toInt = 1 → 0 ≤ ai A 48 (42 + x1.toInt)) ∧ ai A_30 50 x1.toInt ≠ 2 := ⟨fun _ => by omega, by omega⟩
      have PFA_30 : ai A_30 54 x1.toInt = ai A 48 (48 + x1.toInt) := by rw [ai_fr (A_30_o 54 (by decide))]; exact PFA_14
      have YFA_30 : ∀ q, 8 ≤ q → q ≤ 43 → A_30 q = A q := fun q h1 h2 => (A_30_o q (by omega)).trans (YFA_14 q h1 h2)
      refine ok_st (j := 51) hA_30 (by omega) (by omega) (trivial) ?_
      intro A_31 hA_31 A_31_o A_31_s A_31_n
      have VFA_31 : VMs F A_31 := VFA_30.fr rfl (fun q h1 h2 => A_31_o q (by omega))
      have MFA_31 : k = ai A_31 29 (F 18).toInt := by rw [ai_fr (A_31_o 29 (by decide))]; exact MFA_30
      have RFA_31 : RVm F A_31 48 k := RFA_30.sto A_31_o (by decide) (by decide)
      have NFA_31 : NVm F A_31 x1.toInt := NFA_30.sto A_31_o (by decide)
      have XFA_31 : ∀ i, 42 ≤ i → i < 54 → ai A_31 48 i = ai A 48 i := by rw [ai_fr (A_31_o 48 (by decide))]; exact XFA_30
      have QFA_31 : (ai A_31 50 x1.toInt = 1 → 0 ≤ ai A 48 (42 + x1.toInt)) ∧ ai A_31 50 x1.toInt ≠ 2 := by rw [ai_fr (A_31_o 50 (by decide))]; exact QFA_30
      have PFA_31 : ai A_31 54 x1.toInt = ai A 48 (48 + x1.toInt) := by rw [ai_fr (A_31_o 54 (by decide))]; exact PFA_30
      have YFA_31 : ∀ q, 8 ≤ q → q ≤ 43 → A_31 q = A q := fun q h1 h2 => (A_31_o q (by omega)).trans (YFA_30 q h1 h2)
      refine ok_cond (fun c_32 => ?_) (fun c_32 => ?_)
      · rw [i_ne] at c_32
        refine ok_some ?_
        refine ⟨hF, hA_31, (fun q hq => rfl), (fun q hq => (((((((A_31_o q (fun e => hq (by rw [e]; decide))).trans (A_30_o q (fun e => hq (by rw [e]; decide)))).trans (A_14_o q (fun e => hq (by rw [e]; decide)))).trans (A_10_o q (fun e => hq (by rw [e]; decide)))).trans (A_7_o q (fun e => hq (by rw [e]; decide)))).trans (A_6_o q (fun e => hq (by rw [e]; decide)))).trans (A_5_o q (fun e => hq (by rw [e]; decide))))), ?_⟩
        exact ⟨(NFA_31).ext (fun q => by rw [PFA_31, ← XFA_31 (48 + x1.toInt) (by omega) (by omega)]; exact RFA_31 x1.toInt (by omega) (by omega) q) (fun q => by rw [XFA_31 (42 + x1.toInt) (by omega) (by omega)]; exact QFA_31.1 q) QFA_31.2, RFA_31⟩
      · rw [i_nne] at c_32
        refine ok_st (j := 48) hA_31 (by omega) (by omega) (trivial) ?_
        intro A_33 hA_33 A_33_o A_33_s A_33_n
        have VFA_33 : VMs F A_33 := VFA_31.fr rfl (fun q h1 h2 => A_33_o q (by omega))
        have MFA_33 : k = ai A_33 29 (F 18).toInt := by rw [ai_fr (A_33_o 29 (by decide))]; exact MFA_31
        have RFA_33 : RVm F A_33 48 k := RFA_31.st (by decide) A_33_o A_33_n (by omega) hk
        have NFA_33 : NVm F A_33 x1.toInt := NFA_31.st48 A_33_o A_33_n (by omega)
        have XFA_33 : ∀ i, 42 ≤ i → i < 54 → ai A_33 48 i = ai A 48 i := fun i hi hj => (A_33_n i (by omega) (by omega)).trans (XFA_31 i hi hj)
        have QFA_33 : (ai A_33 50 x1.toInt = 1 → 0 ≤ ai A 48 (42 + x1.toInt)) ∧ ai A_33 50 x1.toInt ≠ 2 := by rw [ai_fr (A_33_o 50 (by decide))]; exact QFA_31
        have PFA_33 : ai A_33 54 x1.toInt = ai A 48 (48 + x1.toInt) := by rw [ai_fr (A_33_o 54 (by decide))]; exact PFA_31
        have YFA_33 : ∀ q, 8 ≤ q → q ≤ 43 → A_33 q = A q := fun q h1 h2 => (A_33_o q (by omega)).trans (YFA_31 q h1 h2)
        refine ok_some ?_
        refine ⟨hF, hA_33, (fun q hq => rfl), (fun q hq => ((((((((A_33_o q (fun e => hq (by rw [e]; decide))).trans (A_31_o q (fun e => hq (by rw [e]; decide)))).trans (A_30_o q (fun e => hq (by rw [e]; decide)))).trans (A_14_o q (fun e => hq (by rw [e]; decide)))).trans (A_10_o q (fun e => hq (by rw [e]; decide)))).trans (A_7_o q (fun e => hq (by rw [e]; decide)))).trans (A_6_o q (fun e => hq (by rw [e]; decide)))).trans (A_5_o q (fun e => hq (by rw [e]; decide))))), ?_⟩
        exact ⟨(NFA_33).ext (fun q => by rw [PFA_33, ← XFA_33 (48 + x1.toInt) (by omega) (by omega)]; exact RFA_33 x1.toInt (by omega) (by omega) q) (fun q => by rw [XFA_33 (42 + x1.toInt) (by omega) (by omega)]; exact QFA_33.1 q) QFA_33.2, RFA_33⟩
    · rw [i_nne] at c_28
      unfold d_getsUp_117
      have l_34 : (3 : Int32).toInt = 3 := by decide
      refine ok_st (j := 50) hA_14 (by omega) (by omega) (trivial) ?_
      intro A_35 hA_35 A_35_o A_35_s A_35_n
      have VFA_35 : VMs F A_35 := VFA_14.fr rfl (fun q h1 h2 => A_35_o q (by omega))
      have MFA_35 : k = ai A_35 29 (F 18).toInt := by rw [ai_fr (A_35_o 29 (by decide))]; exact MFA_14
      have RFA_35 : RVm F A_35 48 k := RFA_14.sto A_35_o (by decide) (by decide)
      have NFA_35 : NVm F A_35 x1.toInt := NFA_14.st50 A_35_o A_35_s A_35_n (fun q _ => absurd q (by omega)) (fun q _ => absurd q (by omega))
      have XFA_35 : ∀ i, 42 ≤ i → i < 54 → ai A_35 48 i = ai A 48 i := by rw [ai_fr (A_35_o 48 (by decide))]; exact XFA_14
      have QFA_35 : (ai A_35 50 x1.toInt = 1 → 0 ≤ ai A 48 (42 + x1.toInt)) ∧ ai A_35 50 x1.toInt ≠ 2 := ⟨fun _ => by omega, by omega⟩
      have PFA_35 : ai A_35 54 x1.toInt = ai A 48 (48 + x1.toInt) := by rw [ai_fr (A_35_o 54 (by decide))]; exact PFA_14
      have YFA_35 : ∀ q, 8 ≤ q → q ≤ 43 → A_35 q = A q := fun q h1 h2 => (A_35_o q (by omega)).trans (YFA_14 q h1 h2)
      refine ok_st (j := 51) hA_35 (by omega) (by omega) (trivial) ?_
      intro A_36 hA_36 A_36_o A_36_s A_36_n
      have VFA_36 : VMs F A_36 := VFA_35.fr rfl (fun q h1 h2 => A_36_o q (by omega))
      have MFA_36 : k = ai A_36 29 (F 18).toInt := by rw [ai_fr (A_36_o 29 (by decide))]; exact MFA_35
      have RFA_36 : RVm F A_36 48 k := RFA_35.sto A_36_o (by decide) (by decide)
      have NFA_36 : NVm F A_36 x1.toInt := NFA_35.sto A_36_o (by decide)
      have XFA_36 : ∀ i, 42 ≤ i → i < 54 → ai A_36 48 i = ai A 48 i := by rw [ai_fr (A_36_o 48 (by decide))]; exact XFA_35
      have QFA_36 : (ai A_36 50 x1.toInt = 1 → 0 ≤ ai A 48 (42 + x1.toInt)) ∧ ai A_36 50 x1.toInt ≠ 2 := by rw [ai_fr (A_36_o 50 (by decide))]; exact QFA_35
      have PFA_36 : ai A_36 54 x1.toInt = ai A 48 (48 + x1.toInt) := by rw [ai_fr (A_36_o 54 (by decide))]; exact PFA_35
      have YFA_36 : ∀ q, 8 ≤ q → q ≤ 43 → A_36 q = A q := fun q h1 h2 => (A_36_o q (by omega)).trans (YFA_35 q h1 h2)
      refine ok_cond (fun c_37 => ?_) (fun c_37 => ?_)
      · rw [i_ne] at c_37
        refine ok_some ?_
        refine ⟨hF, hA_36, (fun q hq => rfl), (fun q hq => (((((((A_36_o q (fun e => hq (by rw [e]; decide))).trans (A_35_o q (fun e => hq (by rw [e]; decide)))).trans (A_14_o q (fun e => hq (by rw [e]; decide)))).trans (A_10_o q (fun e => hq (by rw [e]; decide)))).trans (A_7_o q (fun e => hq (by rw [e]; decide)))).trans (A_6_o q (fun e => hq (by rw [e]; decide)))).trans (A_5_o q (fun e => hq (by rw [e]; decide))))), ?_⟩
        exact ⟨(NFA_36).ext (fun q => by rw [PFA_36, ← XFA_36 (48 + x1.toInt) (by omega) (by omega)]; exact RFA_36 x1.toInt (by omega) (by omega) q) (fun q => by rw [XFA_36 (42 + x1.toInt) (by omega) (by omega)]; exact QFA_36.1 q) QFA_36.2, RFA_36⟩
      · rw [i_nne] at c_37
        refine ok_st (j := 48) hA_36 (by omega) (by omega) (trivial) ?_
        intro A_38 hA_38 A_38_o A_38_s A_38_n
        have VFA_38 : VMs F A_38 := VFA_36.fr rfl (fun q h1 h2 => A_38_o q (by omega))
        have MFA_38 : k = ai A_38 29 (F 18).toInt := by rw [ai_fr (A_38_o 29 (by decide))]; exact MFA_36
        have RFA_38 : RVm F A_38 48 k := RFA_36.st (by decide) A_38_o A_38_n (by omega) hk
        have NFA_38 : NVm F A_38 x1.toInt := NFA_36.st48 A_38_o A_38_n (by omega)
        have XFA_38 : ∀ i, 42 ≤ i → i < 54 → ai A_38 48 i = ai A 48 i := fun i hi hj => (A_38_n i (by omega) (by omega)).trans (XFA_36 i hi hj)
        have QFA_38 : (ai A_38 50 x1.toInt = 1 → 0 ≤ ai A 48 (42 + x1.toInt)) ∧ ai A_38 50 x1.toInt ≠ 2 := by rw [ai_fr (A_38_o 50 (by decide))]; exact QFA_36
        have PFA_38 : ai A_38 54 x1.toInt = ai A 48 (48 + x1.toInt) := by rw [ai_fr (A_38_o 54 (by decide))]; exact PFA_36
        have YFA_38 : ∀ q, 8 ≤ q → q ≤ 43 → A_38 q = A q := fun q h1 h2 => (A_38_o q (by omega)).trans (YFA_36 q h1 h2)
        refine ok_some ?_
        refine ⟨hF, hA_38, (fun q hq => rfl), (fun q hq => ((((((((A_38_o q (fun e => hq (by rw [e]; decide))).trans (A_36_o q (fun e => hq (by rw [e]; decide)))).trans (A_35_o q (fun e => hq (by rw [e]; decide)))).trans (A_14_o q (fun e => hq (by rw [e]; decide)))).trans (A_10_o q (fun e => hq (by rw [e]; decide)))).trans (A_7_o q (fun e => hq (by rw [e]; decide)))).trans (A_6_o q (fun e => hq (by rw [e]; decide)))).trans (A_5_o q (fun e => hq (by rw [e]; decide))))), ?_⟩
        exact ⟨(NFA_38).ext (fun q => by rw [PFA_38, ← XFA_38 (48 + x1.toInt) (by omega) (by omega)]; exact RFA_38 x1.toInt (by omega) (by omega) q) (fun q => by rw [XFA_38 (42 + x1.toInt) (by omega) (by omega)]; exact QFA_38.1 q) QFA_38.2, RFA_38⟩
  · rw [i_nge] at c_15
    refine ok_some ?_
    refine ⟨hF, hA_14, (fun q hq => rfl), (fun q hq => (((((A_14_o q (fun e => hq (by rw [e]; decide))).trans (A_10_o q (fun e => hq (by rw [e]; decide)))).trans (A_7_o q (fun e => hq (by rw [e]; decide)))).trans (A_6_o q (fun e => hq (by rw [e]; decide)))).trans (A_5_o q (fun e => hq (by rw [e]; decide))))), ?_⟩
    exact ⟨(NFA_14).ext (fun q => by rw [PFA_14, ← XFA_14 (48 + x1.toInt) (by omega) (by omega)]; exact RFA_14 x1.toInt (by omega) (by omega) q) (fun q => by rw [XFA_14 (42 + x1.toInt) (by omega) (by omega)]; exact QFA_14.1 q) QFA_14.2, RFA_14⟩
