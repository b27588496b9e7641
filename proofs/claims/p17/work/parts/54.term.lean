set_option maxRecDepth 10000 in
theorem s_d_lies {k : Int} {F : Nat → Int32} {A : Nat → Nat → Int32} {J : Nat → Nat → Int64} {x1 : Int32} {x2 : Int32} (hF : IFm F) (hA : IAm A) (hk : k ≤ 6) (NFA : NVm F A k) (rx1 : 0 ≤ x1.toInt ∧ x1.toInt ≤ 5) : ok (d_lies F A J x1 x2) (fun r => IFm r.2.1 ∧ IAm r.2.2.1 ∧ (∀ q, q ∉ ([] : List Nat) → r.2.1 q = F q) ∧ (∀ q, q ∉ ([48, 50] : List Nat) → r.2.2.1 q = A q) ∧ NVm r.2.1 r.2.2.1 k) := by
  have r18 : 0 ≤ (F 18).toInt ∧ (F 18).toInt ≤ 1 := hF 18
  unfold d_lies
  have l_1 : (3 : Int32).toInt = 3 := by decide
  refine ok_st (j := 50) hA (by omega) (by omega) (trivial) ?_
  intro A_2 hA_2 A_2_o A_2_s A_2_n
  have NFA_2 : NVm F A_2 k := NFA.st50 A_2_o A_2_s A_2_n (fun _ e => by omega) (fun _ e => by omega)
  have l_3 : (66 : Int32).toInt = 66 := by decide
  have e_4 := i_add (x := 66) (y := x1) (by omega) (by omega)
  refine ok_st (j := 48) hA_2 (by omega) (by omega) (trivial) ?_
  intro A_5 hA_5 A_5_o A_5_s A_5_n
  have NFA_5 : NVm F A_5 k := NFA_2.st48 A_5_o A_5_n (by omega)
  refine ok_some ?_
  refine ⟨hF, hA_5, (fun q hq => rfl), (fun q hq => ((A_5_o q (fun e => hq (by rw [e]; decide))).trans (A_2_o q (fun e => hq (by rw [e]; decide))))), ?_⟩
  exact NFA_5
set_option maxRecDepth 10000 in
theorem s_d_does {F : Nat → Int32} {A : Nat → Nat → Int32} {J : Nat → Nat → Int64} {x1 : Int32} {x2 : Int32} (hF : IFm F) (hA : IAm A) (VFA : VMs F A) (SFA : SVm F A x1.toInt x2.toInt) (rx1 : 0 ≤ x1.toInt ∧ x1.toInt ≤ 5) (rx2 : 0 ≤ x2.toInt ∧ x2.toInt ≤ 5) : ok (d_does F A J x1 x2) (fun r => IFm r.2.1 ∧ IAm r.2.2.1 ∧ (∀ q, q ∉ ([] : List Nat) → r.2.1 q = F q) ∧ (∀ q, q ∉ ([48] : List Nat) → r.2.2.1 q = A q) ∧ ∀ i, 42 ≤ i → ai r.2.2.1 48 i = ai A 48 i) := by
  have r18 : 0 ≤ (F 18).toInt ∧ (F 18).toInt ≤ 1 := hF 18
  have GFA : ∀ i, 42 ≤ i → ai A 48 i = ai A 48 i := fun _ _ => rfl
  unfold d_does
  have l_1 : (6 : Int32).toInt = 6 := by decide
  have e_2 := i_mulL (c := 6) (k := 6) (x := x1) (by decide) (by omega) (by omega)
  have e_3 := i_add (x := 6) (y := (6 * x1)) (by omega) (by omega)
  have e_4 := i_add (x := (6 + (6 * x1))) (y := x2) (by omega) (by omega)
  refine ok_ld (j := 48) hA (by omega) (by omega) ?_
  intro v_5 v_5_e v_5_r
  refine ok_st (j := 48) hA (by omega) (by omega) (trivial) ?_
  intro A_6 hA_6 A_6_o A_6_s A_6_n
  have VFA_6 : VMs F A_6 := VFA.fr rfl (fun q h1 h2 => A_6_o q (by omega))
  have SFA_6 : SVm F A_6 x1.toInt x2.toInt := SFA.fr rfl (A_6_o 19 (by decide)) (A_6_o 22 (by decide))
  have GFA_6 : ∀ i, 42 ≤ i → ai A_6 48 i = ai A 48 i := fun i hi => (A_6_n i (by omega) (by omega)).trans (GFA i hi)
  refine ok_call (s_d_stepAt hF (by omega) (by omega)) ?_
  intro v_7 v_7_p
  have v_7_p : v_7.toInt = 6 * (6 * (F 18).toInt + x1.toInt) + x2.toInt := v_7_p
  refine ok_ld (j := 28) hA_6 (by omega) (by omega) ?_
  intro v_8 v_8_e v_8_r
  have hu := VFA_6.2.2.2.1 x1.toInt x2.toInt SFA_6.1 SFA_6.2.1 SFA_6.2.2.1 SFA_6.2.2.2
  have eu : ai A_6 28 v_7.toInt = ai A_6 28 (6 * (6 * (F 18).toInt + x1.toInt) + x2.toInt) := by congr 1
  have l_9 : (0 : Int32).toInt = 0 := by decide
  refine ok_cond (fun c_10 => ?_) (fun c_10 => ?_)
  · rw [i_lt] at c_10
    refine ok_some ?_
    refine ⟨hF, hA_6, (fun q hq => rfl), (fun q hq => (A_6_o q (fun e => hq (by rw [e]; decide)))), ?_⟩
    exact GFA_6
  · rw [i_nlt] at c_10
    have e_11 := i_add (x := (6 + (6 * x1))) (y := v_8) (by omega) (by omega)
    refine ok_ld (j := 48) hA_6 (by omega) (by omega) ?_
    intro v_12 v_12_e v_12_r
    refine ok_cond (fun c_13 => ?_) (fun c_13 => ?_)
    · rw [i_le] at c_13
      refine ok_some ?_
      refine ⟨hF, hA_6, (fun q hq => rfl), (fun q hq => (A_6_o q (fun e => hq (by rw [e]; decide)))), ?_⟩
      exact GFA_6
    · rw [i_nle] at c_13
      refine ok_ld (j := 48) hA_6 (by omega) (by omega) ?_
      intro v_14 v_14_e v_14_r
      refine ok_st (j := 48) hA_6 (by omega) (by omega) (trivial) ?_
      intro A_15 hA_15 A_15_o A_15_s A_15_n
      have VFA_15 : VMs F A_15 := VFA_6.fr rfl (fun q h1 h2 => A_15_o q (by omega))
      have SFA_15 : SVm F A_15 x1.toInt x2.toInt := SFA_6.fr rfl (A_15_o 19 (by decide)) (A_15_o 22 (by decide))
      have GFA_15 : ∀ i, 42 ≤ i → ai A_15 48 i = ai A 48 i := fun i hi => (A_15_n i (by omega) (by omega)).trans (GFA_6 i hi)
      refine ok_some ?_
      refine ⟨hF, hA_15, (fun q hq => rfl), (fun q hq => ((A_15_o q (fun e => hq (by rw [e]; decide))).trans (A_6_o q (fun e => hq (by rw [e]; decide))))), ?_⟩
      exact GFA_15
set_option maxRecDepth 10000 in
theorem s_d_isOver {k : Int} {F : Nat → Int32} {A : Nat → Nat → Int32} {J : Nat → Nat → Int64} {x1 : Int32} (hF : IFm F) (hA : IAm A) (hk : k ≤ 6) (hx : x1.toInt < k) (VFA : VMs F A) (NFA : NVm F A k) (h2 : ai A 50 x1.toInt = 2) (rx1 : 0 ≤ x1.toInt ∧ x1.toInt ≤ 5) : ok (d_isOver F A J x1) (fun r => IFm r.2.1 ∧ IAm r.2.2.1 ∧ (∀ q, q ∉ ([] : List Nat) → r.2.1 q = F q) ∧ (∀ q, q ∉ ([48, 50, 54, 55] : List Nat) → r.2.2.1 q = A q) ∧ NVm r.2.1 r.2.2.1 k) := by
  have r18 : 0 ≤ (F 18).toInt ∧ (F 18).toInt ≤ 1 := hF 18
  have hs := (NFA x1.toInt (by omega) (by omega)).2.2 h2
  obtain ⟨g1, g2, g3, g4⟩ := id hs
  have t19 : 0 ≤ ai A 19 (F 18).toInt ∧ ai A 19 (F 18).toInt ≤ 6 := hA 19 _ (by omega)
  have t22 : 0 ≤ ai A 22 (6 * (F 18).toInt + ai A 48 (42 + x1.toInt)) ∧ ai A 22 (6 * (F 18).toInt + ai A 48 (42 + x1.toInt)) ≤ 6 := hA 22 _ (by omega)
  unfold d_isOver
  have l_1 : (42 : Int32).toInt = 42 := by decide
  have e_2 := i_add (x := 42) (y := x1) (by omega) (by omega)
  refine ok_ld (j := 48) hA (by omega) (by omega) ?_
  intro v_3 v_3_e v_3_r
  have w1 : v_3.toInt = ai A 48 (42 + x1.toInt) := by rw [v_3_e]; congr 1 <;> omega
  refine ok_ld (j := 53) hA (by omega) (by omega) ?_
  intro v_4 v_4_e v_4_r
  have s1 : SVm F A v_3.toInt v_4.toInt := by rw [w1, v_4_e]; exact hs
  refine ok_call (s_d_does hF hA (VFA) (by assumption) (by omega) (by omega)) ?_
  rintro ⟨u_5, F_6, A_7, J_8⟩ ⟨hF_6, hA_7, F_6_o, A_7_o, u_5_p⟩
  dsimp only at hF_6 hA_7 F_6_o A_7_o u_5_p ⊢
  have u_5_p : ∀ i, 42 ≤ i → ai A_7 48 i = ai A 48 i := u_5_p
  have r_9 : 0 ≤ (F_6 18).toInt ∧ (F_6 18).toInt ≤ 1 := hF_6 18
  have r_10 : 0 ≤ (F 18).toInt ∧ (F 18).toInt ≤ 1 := hF 18
  have f_11 : (F_6 18).toInt = (F 18).toInt := congrArg Int32.toInt (F_6_o 18 (by decide))
  have VF_6A_7 : VMs F_6 A_7 := VFA.fr (F_6_o 18 (by decide)) (fun q h1 h2 => A_7_o q (by intro e; simp at e <;> omega))
  have NF_6A_7 : NVm F_6 A_7 k := NFA.cg (F_6_o 18 (by decide)) (A_7_o 19 (by decide)) (A_7_o 22 (by decide)) (fun m _ _ => u_5_p (42 + m) (by omega)) (A_7_o 50 (by decide)) (A_7_o 53 (by decide)) (A_7_o 54 (by decide))
  have hp : 0 ≤ ai A_7 48 (42 + x1.toInt) := by rw [u_5_p (42 + x1.toInt) (by omega)]; exact g1
  have l_12 : (1 : Int32).toInt = 1 := by decide
  refine ok_st (j := 50) hA_7 (by omega) (by omega) (trivial) ?_
  intro A_13 hA_13 A_13_o A_13_s A_13_n
  have VF_6A_13 : VMs F_6 A_13 := VF_6A_7.fr rfl (fun q h1 h2 => A_13_o q (by omega))
  have NF_6A_13 : NVm F_6 A_13 k := NF_6A_7.st50 A_13_o A_13_s A_13_n (fun _ _ => hp) (fun _ e => by omega)
  refine ok_ld (j := 53) hA_13 (by omega) (by omega) ?_
  intro v_14 v_14_e v_14_r
  have s8 : SVm F_6 A_13 (ai A_13 48 (42 + x1.toInt)) v_14.toInt := by rw [v_14_e, ai_fr (A_13_o 48 (by decide)), ai_fr (A_13_o 53 (by decide)), u_5_p (42 + x1.toInt) (by omega), ai_fr (A_7_o 53 (by decide))]; exact (hs.fr (F_6_o 18 (by decide)) (A_7_o 19 (by decide)) (A_7_o 22 (by decide))).fr rfl (A_13_o 19 (by decide)) (A_13_o 22 (by decide))
  refine ok_st (j := 54) hA_13 (by omega) (by omega) (trivial) ?_
  intro A_15 hA_15 A_15_o A_15_s A_15_n
  have VF_6A_15 : VMs F_6 A_15 := VF_6A_13.fr rfl (fun q h1 h2 => A_15_o q (by omega))
  have NF_6A_15 : NVm F_6 A_15 k := NF_6A_13.st54 A_15_o A_15_s A_15_n (fun _ _ => s8)
  refine ok_ld (j := 55) hA_15 (by omega) (by omega) ?_
  intro v_16 v_16_e v_16_r
  refine ok_st (j := 55) hA_15 (by omega) (by omega) (trivial) ?_
  intro A_17 hA_17 A_17_o A_17_s A_17_n
  have VF_6A_17 : VMs F_6 A_17 := VF_6A_15.fr rfl (fun q h1 h2 => A_17_o q (by omega))
  have NF_6A_17 : NVm F_6 A_17 k := NF_6A_15.sto A_17_o (by decide)
  refine ok_some ?_
  refine ⟨hF_6, hA_17, (fun q hq => (F_6_o q hq)), (fun q hq => ((((A_17_o q (fun e => hq (by rw [e]; decide))).trans (A_15_o q (fun e => hq (by rw [e]; decide)))).trans (A_13_o q (fun e => hq (by rw [e]; decide)))).trans (A_7_o q (fun e => hq ((by decide : ∀ x, x ∈ ([48] : List Nat) → x ∈ ([48, 50, 54, 55] : List Nat)) q e))))), ?_⟩
  exact NF_6A_17
set_option maxRecDepth 10000 in
theorem s_d_isInUse_2  {n : Nat} {k : Int} {F : Nat → Int32} {A : Nat → Nat → Int32} {J : Nat → Nat → Int64} {x1 : Int32} {x2 : Int32} {x3 : Int32} (hF : IFm F) (hA : IAm A) (hk : k ≤ 6) (hm : k = ai A 29 (F 18).toInt) (NFA : NVm F A k) (rx3 : 0 ≤ x3.toInt ∧ x3.toInt ≤ 6) (hn : 6 - x3.toInt < (n : Int)) : ok (d_isInUse_2 n F A J x1 x2 x3) (fun v => v.toInt = 0 ∨ v.toInt = 1) := by
  induction n generalizing F A J x3 with
  | zero => exact absurd hn (by omega)
  | succ n ih =>
    have r18 : 0 ≤ (F 18).toInt ∧ (F 18).toInt ≤ 1 := hF 18
    unfold d_isInUse_2
    refine ok_call (s_d_menNow hF hA) ?_
    intro v_1 v_1_p
    have v_1_p : v_1.toInt = ai A 29 (F 18).toInt ∧ 0 ≤ v_1.toInt ∧ v_1.toInt ≤ 6 := v_1_p
    refine ok_cond (fun c_2 => ?_) (fun c_2 => ?_)
    · rw [i_ge] at c_2
      refine ok_some ?_
      have l_3 : (0 : Int32).toInt = 0 := by decide
      (first | trivial | omega | exact ⟨by omega, by omega⟩ | assumption)
    · rw [i_nge] at c_2
      refine ok_cond (fun c_4 => ?_) (fun c_4 => ?_)
      · rw [i_eq] at c_4
        unfold d_isInUse_55
        have l_5 : (1 : Int32).toInt = 1 := by decide
        have e_6 := i_add (x := x3) (y := 1) (by omega) (by omega)
        refine ok_mono (ih hF hA (by assumption) (NFA) (by omega) (by omega)) ?_
        intro v_7 v_7_p
        have v_7_p : v_7.toInt = 0 ∨ v_7.toInt = 1 := v_7_p
        (first | trivial | omega | exact ⟨by omega, by omega⟩ | assumption)
      · rw [i_neq] at c_4
        refine ok_ld (j := 50) hA (by omega) (by omega) ?_
        intro v_8 v_8_e v_8_r
        have l_9 : (2 : Int32).toInt = 2 := by decide
        refine ok_cond (fun c_10 => ?_) (fun c_10 => ?_)
        · rw [i_ne] at c_10
          unfold d_isInUse_55
          have l_11 : (1 : Int32).toInt = 1 := by decide
          have e_12 := i_add (x := x3) (y := 1) (by omega) (by omega)
          refine ok_mono (ih hF hA (by assumption) (NFA) (by omega) (by omega)) ?_
          intro v_13 v_13_p
          have v_13_p : v_13.toInt = 0 ∨ v_13.toInt = 1 := v_13_p
          (first | trivial | omega | exact ⟨by omega, by omega⟩ | assumption)
        · rw [i_nne] at c_10
          have l_14 : (42 : Int32).toInt = 42 := by decide
          have e_15 := i_add (x := 42) (y := x3) (by omega) (by omega)
          refine ok_ld (j := 48) hA (by omega) (by omega) ?_
          intro v_16 v_16_e v_16_r
          refine ok_ld (j := 53) hA (by omega) (by omega) ?_
          intro v_17 v_17_e v_17_r
          have w6 : v_16.toInt = ai A 48 (42 + x3.toInt) := by rw [v_16_e]; congr 1 <;> omega
          obtain ⟨g1, g2, g3, g4⟩ := (NFA x3.toInt (by omega) (by omega)).2.2 (by omega)
          have t19 : 0 ≤ ai A 19 (F 18).toInt ∧ ai A 19 (F 18).toInt ≤ 6 := hA 19 _ (by omega)
          have t22 : 0 ≤ ai A 22 (6 * (F 18).toInt + ai A 48 (42 + x3.toInt)) ∧ ai A 22 (6 * (F 18).toInt + ai A 48 (42 + x3.toInt)) ≤ 6 := hA 22 _ (by omega)
          refine ok_call (s_d_stepAt hF (by omega) (by omega)) ?_
          intro v_18 v_18_p
          have v_18_p : v_18.toInt = 6 * (6 * (F 18).toInt + v_16.toInt) + v_17.toInt := v_18_p
          refine ok_ld (j := 27) hA (by omega) (by omega) ?_
          intro v_19 v_19_e v_19_r
          have v_19_r : -1 ≤ v_19.toInt ∧ v_19.toInt ≤ 5 := v_19_r
          refine ok_cond (fun c_20 => ?_) (fun c_20 => ?_)
          · rw [i_ne] at c_20
            unfold d_isInUse_55
            have l_21 : (1 : Int32).toInt = 1 := by decide
            have e_22 := i_add (x := x3) (y := 1) (by omega) (by omega)
            refine ok_mono (ih hF hA (by assumption) (NFA) (by omega) (by omega)) ?_
            intro v_23 v_23_p
            have v_23_p : v_23.toInt = 0 ∨ v_23.toInt = 1 := v_23_p
            (first | trivial | omega | exact ⟨by omega, by omega⟩ | assumption)
          · rw [i_nne] at c_20
            refine ok_some ?_
            have l_24 : (1 : Int32).toInt = 1 := by decide
            (first | trivial | omega | exact ⟨by omega, by omega⟩ | assumption)
set_option maxRecDepth 10000 in
theorem s_d_isInUse {n : Nat} {k : Int} {F : Nat → Int32} {A : Nat → Nat → Int32} {J : Nat → Nat → Int64} {x1 : Int32} {x2 : Int32} (hF : IFm F) (hA : IAm A) (hn : 8 ≤ n) (hk : k ≤ 6) (hm : k = ai A 29 (F 18).toInt) (NFA : NVm F A k) : ok (d_isInUse n F A J x1 x2) (fun v => v.toInt = 0 ∨ v.toInt = 1) := by
  have r18 : 0 ≤ (F 18).toInt ∧ (F 18).toInt ≤ 1 := hF 18
  unfold d_isInUse
  have l_1 : (0 : Int32).toInt = 0 := by decide
  refine ok_mono (s_d_isInUse_2 hF hA (by omega) (by assumption) (NFA) (by omega) (by omega)) ?_
  intro v_2 v_2_p
  have v_2_p : v_2.toInt = 0 ∨ v_2.toInt = 1 := v_2_p
  (first | trivial | omega | exact ⟨by omega, by omega⟩ | assumption)
