set_option maxRecDepth 10000 in
theorem s_d_goesTill_75 {K27 : (Nat → Int32) → (Nat → Nat → Int32) → (Nat → Nat → Int64) → Int32 → Int32 → Option (Unit × (Nat → Int32) × (Nat → Nat → Int32) × (Nat → Nat → Int64))} {Q : Unit × (Nat → Int32) × (Nat → Nat → Int32) × (Nat → Nat → Int64) → Prop} {n : Nat} {F0 : Nat → Int32} {A0 : Nat → Nat → Int32} {k : Int} {F : Nat → Int32} {A : Nat → Nat → Int32} {J : Nat → Nat → Int64} {x1 : Int32} {x2 : Int32} {x3 : Int32} (hF : IFm F) (hA : IAm A) (bF : ∀ q, q ∉ ([63] : List Nat) → F q = F0 q) (bA : ∀ q, q ∉ ([45, 46, 48, 49, 50, 51, 52, 53, 54, 55, 56] : List Nat) → A q = A0 q) (hk : k ≤ 6) (hV : VMs F0 A0) (hM : k = ai A0 29 (F0 18).toInt) (NFA : NVm F A k) (rx1 : 0 ≤ x1.toInt ∧ x1.toInt ≤ 9999) (rx2 : 0 ≤ x2.toInt ∧ x2.toInt ≤ 9999) (rx3 : 0 ≤ x3.toInt ∧ x3.toInt ≤ 6) (hK27 : ∀ F A J, IFm F → IAm A → (∀ q, q ∉ ([63] : List Nat) → F q = F0 q) → (∀ q, q ∉ ([45, 46, 48, 49, 50, 51, 52, 53, 54, 55, 56] : List Nat) → A q = A0 q) → NVm F A k → ok (K27 F A J x1 (x2 + 1)) Q) (hn : 607 - x3.toInt < (n : Int)) : ok (d_goesTill_75 K27 n F A J x1 x2 x3) (Q) := by
  induction n generalizing F A J x3 with
  | zero => exact absurd hn (by omega)
  | succ n ih =>
    have r18 : 0 ≤ (F 18).toInt ∧ (F 18).toInt ≤ 1 := hF 18
    have VFA : VMs F A := hV.fr (bF 18 (by decide)) (fun q h1 h2 => bA q (by intro e; simp at e <;> omega))
    have MFA : k = ai A 29 (F 18).toInt := by rw [ai_fr (bA 29 (by decide)), bF 18 (by decide)]; exact hM
    unfold d_goesTill_75
    refine ok_call (s_d_menNow hF hA) ?_
    intro v_1 v_1_p
    have v_1_p : v_1.toInt = ai A 29 (F 18).toInt ∧ 0 ≤ v_1.toInt ∧ v_1.toInt ≤ 6 := v_1_p
    refine ok_cond (fun c_2 => ?_) (fun c_2 => ?_)
    · rw [i_ge] at c_2
      unfold d_goesTill_128
      exact hK27 _ _ _ hF hA (fun q hq => (bF q hq)) (fun q hq => (bA q hq)) (NFA)
    · rw [i_nge] at c_2
      have r_3 : 0 ≤ (F 18).toInt ∧ (F 18).toInt ≤ 1 := hF 18
      refine ok_ld (j := 41) hA (by omega) (by omega) ?_
      intro v_4 v_4_e v_4_r
      have v_4_r : 0 ≤ v_4.toInt ∧ v_4.toInt ≤ 9999 := v_4_r
      refine ok_cond (fun c_5 => ?_) (fun c_5 => ?_)
      · rw [i_ge] at c_5
        unfold d_goesTill_128
        exact hK27 _ _ _ hF hA (fun q hq => (bF q hq)) (fun q hq => (bA q hq)) (NFA)
      · rw [i_nge] at c_5
        refine ok_ld (j := 50) hA (by omega) (by omega) ?_
        intro v_6 v_6_e v_6_r
        have l_7 : (1 : Int32).toInt = 1 := by decide
        refine ok_cond (fun c_8 => ?_) (fun c_8 => ?_)
        · rw [i_ne] at c_8
          unfold d_goesTill_122
          have e_9 := i_add (x := x3) (y := 1) (by omega) (by omega)
          exact ih hF hA (fun q hq => (bF q hq)) (fun q hq => (bA q hq)) (NFA) (by omega) (by omega)
        · rw [i_nne] at c_8
          refine ok_ld (j := 51) hA (by omega) (by omega) ?_
          intro v_10 v_10_e v_10_r
          refine ok_cond (fun c_11 => ?_) (fun c_11 => ?_)
          · rw [i_gt] at c_11
            unfold d_goesTill_122
            have e_12 := i_add (x := x3) (y := 1) (by omega) (by omega)
            exact ih hF hA (fun q hq => (bF q hq)) (fun q hq => (bA q hq)) (NFA) (by omega) (by omega)
          · rw [i_ngt] at c_11
            refine ok_call (s_d_begins1 hF hA (by omega) (by omega) (by omega) (VFA) (MFA) (NFA) (by omega) (by omega)) ?_
            rintro ⟨u_13, F_14, A_15, J_16⟩ ⟨hF_14, hA_15, F_14_o, A_15_o, u_13_p⟩
            dsimp only at hF_14 hA_15 F_14_o A_15_o u_13_p ⊢
            have u_13_p : NVm F_14 A_15 k := u_13_p
            have r_17 : 0 ≤ (F_14 18).toInt ∧ (F_14 18).toInt ≤ 1 := hF_14 18
            have f_18 : (F_14 18).toInt = (F 18).toInt := congrArg Int32.toInt (F_14_o 18 (by decide))
            have VF_14A_15 : VMs F_14 A_15 := VFA.fr (F_14_o 18 (by decide)) (fun q h1 h2 => A_15_o q (by intro e; simp at e <;> omega))
            have MF_14A_15 : k = ai A_15 29 (F_14 18).toInt := by rw [ai_fr (A_15_o 29 (by decide)), F_14_o 18 (by decide)] <;> exact MFA
            have NF_14A_15 : NVm F_14 A_15 k := u_13_p
            have e_19 := i_add (x := x3) (y := 1) (by omega) (by omega)
            exact ih hF_14 hA_15 (fun q hq => ((F_14_o q hq).trans (bF q hq))) (fun q hq => ((A_15_o q (fun e => hq ((by decide : ∀ x, x ∈ ([45, 46, 48, 50, 52, 53, 56] : List Nat) → x ∈ ([45, 46, 48, 49, 50, 51, 52, 53, 54, 55, 56] : List Nat)) q e))).trans (bA q hq))) (NF_14A_15) (by omega) (by omega)
set_option maxRecDepth 10000 in
theorem s_d_goesTill_34 {K27 : (Nat → Int32) → (Nat → Nat → Int32) → (Nat → Nat → Int64) → Int32 → Int32 → Option (Unit × (Nat → Int32) × (Nat → Nat → Int32) × (Nat → Nat → Int64))} {Q : Unit × (Nat → Int32) × (Nat → Nat → Int32) × (Nat → Nat → Int64) → Prop} {n : Nat} {F0 : Nat → Int32} {A0 : Nat → Nat → Int32} {k : Int} {F : Nat → Int32} {A : Nat → Nat → Int32} {J : Nat → Nat → Int64} {x1 : Int32} {x2 : Int32} {x3 : Int32} (hF : IFm F) (hA : IAm A) (bF : ∀ q, q ∉ ([63] : List Nat) → F q = F0 q) (bA : ∀ q, q ∉ ([45, 46, 48, 49, 50, 51, 52, 53, 54, 55, 56] : List Nat) → A q = A0 q) (hk : k ≤ 6) (hV : VMs F0 A0) (hM : k = ai A0 29 (F0 18).toInt) (NFA : NVm F A k) (rx1 : 0 ≤ x1.toInt ∧ x1.toInt ≤ 9999) (rx2 : 0 ≤ x2.toInt ∧ x2.toInt ≤ 9999) (rx3 : 0 ≤ x3.toInt ∧ x3.toInt ≤ 6) (hK27 : ∀ F A J, IFm F → IAm A → (∀ q, q ∉ ([63] : List Nat) → F q = F0 q) → (∀ q, q ∉ ([45, 46, 48, 49, 50, 51, 52, 53, 54, 55, 56] : List Nat) → A q = A0 q) → NVm F A k → ok (K27 F A J x1 (x2 + 1)) Q) (hn : 615 - x3.toInt < (n : Int)) : ok (d_goesTill_34 K27 n F A J x1 x2 x3) (Q) := by
  induction n generalizing F A J x3 with
  | zero => exact absurd hn (by omega)
  | succ n ih =>
    have r18 : 0 ≤ (F 18).toInt ∧ (F 18).toInt ≤ 1 := hF 18
    have VFA : VMs F A := hV.fr (bF 18 (by decide)) (fun q h1 h2 => bA q (by intro e; simp at e <;> omega))
    have MFA : k = ai A 29 (F 18).toInt := by rw [ai_fr (bA 29 (by decide)), bF 18 (by decide)]; exact hM
    unfold d_goesTill_34
    refine ok_call (s_d_menNow hF hA) ?_
    intro v_1 v_1_p
    have v_1_p : v_1.toInt = ai A 29 (F 18).toInt ∧ 0 ≤ v_1.toInt ∧ v_1.toInt ≤ 6 := v_1_p
    refine ok_cond (fun c_2 => ?_) (fun c_2 => ?_)
    · rw [i_ge] at c_2
      have l_3 : (0 : Int32).toInt = 0 := by decide
      have l_4 : (1 : Int32).toInt = 1 := by decide
      have e_5 := i_add (x := x2) (y := 1) (by omega) (by omega)
      exact s_d_goesTill_75 (K27 := K27) hF hA (fun q hq => (bF q hq)) (fun q hq => (bA q hq)) (by omega) (hV) (hM) (NFA) (by omega) (by omega) (by omega) (fun F A J hF hA bF bA hN => hK27 _ _ _ hF hA bF bA hN) (by omega)
    · rw [i_nge] at c_2
      refine ok_ld (j := 50) hA (by omega) (by omega) ?_
      intro v_6 v_6_e v_6_r
      have l_7 : (2 : Int32).toInt = 2 := by decide
      refine ok_cond (fun c_8 => ?_) (fun c_8 => ?_)
      · rw [i_ne] at c_8
        unfold d_goesTill_67
        have l_9 : (1 : Int32).toInt = 1 := by decide
        have e_10 := i_add (x := x3) (y := 1) (by omega) (by omega)
        exact ih hF hA (fun q hq => (bF q hq)) (fun q hq => (bA q hq)) (NFA) (by omega) (by omega)
      · rw [i_nne] at c_8
        refine ok_ld (j := 52) hA (by omega) (by omega) ?_
        intro v_11 v_11_e v_11_r
        refine ok_cond (fun c_12 => ?_) (fun c_12 => ?_)
        · rw [i_ne] at c_12
          unfold d_goesTill_67
          have l_13 : (1 : Int32).toInt = 1 := by decide
          have e_14 := i_add (x := x3) (y := 1) (by omega) (by omega)
          exact ih hF hA (fun q hq => (bF q hq)) (fun q hq => (bA q hq)) (NFA) (by omega) (by omega)
        · rw [i_nne] at c_12
          refine ok_call (s_d_isOver hF hA (by omega) (by omega) (VFA) (NFA) (by omega) (by omega)) ?_
          rintro ⟨u_15, F_16, A_17, J_18⟩ ⟨hF_16, hA_17, F_16_o, A_17_o, u_15_p⟩
          dsimp only at hF_16 hA_17 F_16_o A_17_o u_15_p ⊢
          have u_15_p : NVm F_16 A_17 k := u_15_p
          have r_19 : 0 ≤ (F_16 18).toInt ∧ (F_16 18).toInt ≤ 1 := hF_16 18
          have r_20 : 0 ≤ (F 18).toInt ∧ (F 18).toInt ≤ 1 := hF 18
          have f_21 : (F_16 18).toInt = (F 18).toInt := congrArg Int32.toInt (F_16_o 18 (by decide))
          have VF_16A_17 : VMs F_16 A_17 := VFA.fr (F_16_o 18 (by decide)) (fun q h1 h2 => A_17_o q (by intro e; simp at e <;> omega))
          have MF_16A_17 : k = ai A_17 29 (F_16 18).toInt := by rw [ai_fr (A_17_o 29 (by decide)), F_16_o 18 (by decide)] <;> exact MFA
          have NF_16A_17 : NVm F_16 A_17 k := u_15_p
          have l_22 : (1 : Int32).toInt = 1 := by decide
          have e_23 := i_add (x := x3) (y := 1) (by omega) (by omega)
          exact ih hF_16 hA_17 (fun q hq => ((F_16_o q (fun e => hq ((by decide : ∀ x, x ∈ ([] : List Nat) → x ∈ ([63] : List Nat)) q e))).trans (bF q hq))) (fun q hq => ((A_17_o q (fun e => hq ((by decide : ∀ x, x ∈ ([48, 50, 54, 55] : List Nat) → x ∈ ([45, 46, 48, 49, 50, 51, 52, 53, 54, 55, 56] : List Nat)) q e))).trans (bA q hq))) (NF_16A_17) (by omega) (by omega)
set_option maxRecDepth 10000 in
theorem s_d_goesTill_27  {n : Nat} {F0 : Nat → Int32} {A0 : Nat → Nat → Int32} {k : Int} {F : Nat → Int32} {A : Nat → Nat → Int32} {J : Nat → Nat → Int64} {x1 : Int32} {x2 : Int32} (hF : IFm F) (hA : IAm A) (bF : ∀ q, q ∉ ([63] : List Nat) → F q = F0 q) (bA : ∀ q, q ∉ ([45, 46, 48, 49, 50, 51, 52, 53, 54, 55, 56] : List Nat) → A q = A0 q) (hk : k ≤ 6) (hV : VMs F0 A0) (hM : k = ai A0 29 (F0 18).toInt) (hx12 : x2.toInt ≤ x1.toInt + 1) (NFA : NVm F A k) (rx1 : 0 ≤ x1.toInt ∧ x1.toInt ≤ 9999) (rx2 : 0 ≤ x2.toInt ∧ x2.toInt ≤ 10000) (hn : x1.toInt - x2.toInt + 620 < (n : Int)) : ok (d_goesTill_27 n F A J x1 x2) (fun r => IFm r.2.1 ∧ IAm r.2.2.1 ∧ (∀ q, q ∉ ([63] : List Nat) → r.2.1 q = F0 q) ∧ (∀ q, q ∉ ([45, 46, 48, 49, 50, 51, 52, 53, 54, 55, 56] : List Nat) → r.2.2.1 q = A0 q) ∧ NVm r.2.1 r.2.2.1 k) := by
  induction n generalizing F A J x2 with
  | zero => exact absurd hn (by omega)
  | succ n ih =>
    have r18 : 0 ≤ (F 18).toInt ∧ (F 18).toInt ≤ 1 := hF 18
    have VFA : VMs F A := hV.fr (bF 18 (by decide)) (fun q h1 h2 => bA q (by intro e; simp at e <;> omega))
    have MFA : k = ai A 29 (F 18).toInt := by rw [ai_fr (bA 29 (by decide)), bF 18 (by decide)]; exact hM
    unfold d_goesTill_27
    refine ok_cond (fun c_1 => ?_) (fun c_1 => ?_)
    · rw [i_gt] at c_1
      refine ok_some ?_
      refine ⟨hF, hA, (fun q hq => (bF q hq)), (fun q hq => (bA q hq)), ?_⟩
      exact NFA
    · rw [i_ngt] at c_1
      have l_2 : (0 : Int32).toInt = 0 := by decide
      have l_3 : (1 : Int32).toInt = 1 := by decide
      have e_4 := i_add (x := x2) (y := 1) (by omega) (by omega)
      exact s_d_goesTill_34 (K27 := (d_goesTill_27 n)) hF hA (fun q hq => (bF q hq)) (fun q hq => (bA q hq)) (by omega) (hV) (hM) (NFA) (by omega) (by omega) (by omega) (fun F A J hF hA bF bA hN => ih hF hA bF bA (by omega) (hN) (by omega) (by omega)) (by omega)
set_option maxRecDepth 10000 in
theorem s_d_goesTill_6  {n : Nat} {F0 : Nat → Int32} {A0 : Nat → Nat → Int32} {k : Int} {F : Nat → Int32} {A : Nat → Nat → Int32} {J : Nat → Nat → Int64} {x1 : Int32} {x2 : Int32} (hF : IFm F) (hA : IAm A) (bF : ∀ q, q ∉ ([63] : List Nat) → F q = F0 q) (bA : ∀ q, q ∉ ([45, 46, 48, 49, 50, 51, 52, 53, 54, 55, 56] : List Nat) → A q = A0 q) (hk : k ≤ 6) (hV : VMs F0 A0) (hM : k = ai A0 29 (F0 18).toInt) (hx2 : x2.toInt ≤ k) (RFA : RVm F A 48 k) (NFA : NVm F A x2.toInt) (rx1 : 0 ≤ x1.toInt ∧ x1.toInt ≤ 9999) (rx2 : 0 ≤ x2.toInt ∧ x2.toInt ≤ 6) (hn : 10630 - x2.toInt < (n : Int)) : ok (d_goesTill_6 n F A J x1 x2) (fun r => IFm r.2.1 ∧ IAm r.2.2.1 ∧ (∀ q, q ∉ ([63] : List Nat) → r.2.1 q = F0 q) ∧ (∀ q, q ∉ ([45, 46, 48, 49, 50, 51, 52, 53, 54, 55, 56] : List Nat) → r.2.2.1 q = A0 q) ∧ NVm r.2.1 r.2.2.1 k) := by
  induction n generalizing F A J x2 with
  | zero => exact absurd hn (by omega)
  | succ n ih =>
    have r18 : 0 ≤ (F 18).toInt ∧ (F 18).toInt ≤ 1 := hF 18
    have VFA : VMs F A := hV.fr (bF 18 (by decide)) (fun q h1 h2 => bA q (by intro e; simp at e <;> omega))
    have MFA : k = ai A 29 (F 18).toInt := by rw [ai_fr (bA 29 (by decide)), bF 18 (by decide)]; exact hM
    unfold d_goesTill_6
    refine ok_call (s_d_menNow hF hA) ?_
    intro v_1 v_1_p
    have v_1_p : v_1.toInt = ai A 29 (F 18).toInt ∧ 0 ≤ v_1.toInt ∧ v_1.toInt ≤ 6 := v_1_p
    refine ok_cond (fun c_2 => ?_) (fun c_2 => ?_)
    · rw [i_ge] at c_2
      have l_3 : (0 : Int32).toInt = 0 := by decide
      exact s_d_goesTill_27 hF hA (fun q hq => (bF q hq)) (fun q hq => (bA q hq)) (by omega) (hV) (hM) (by omega) (NFA.mono (by omega)) (by omega) (by omega) (by omega)
    · rw [i_nge] at c_2
      refine ok_call (s_d_getsUp hF hA (by omega) (by omega) (VFA) (MFA) (RFA) (NFA) (by omega)) ?_
      rintro ⟨u_4, F_5, A_6, J_7⟩ ⟨hF_5, hA_6, F_5_o, A_6_o, u_4_p⟩
      dsimp only at hF_5 hA_6 F_5_o A_6_o u_4_p ⊢
      have u_4_p : NVm F_5 A_6 (x2.toInt + 1) ∧ RVm F_5 A_6 48 k := u_4_p
      have r_8 : 0 ≤ (F_5 18).toInt ∧ (F_5 18).toInt ≤ 1 := hF_5 18
      have r_9 : 0 ≤ (F 18).toInt ∧ (F 18).toInt ≤ 1 := hF 18
      have f_10 : (F_5 18).toInt = (F 18).toInt := congrArg Int32.toInt (F_5_o 18 (by decide))
      have VF_5A_6 : VMs F_5 A_6 := VFA.fr (F_5_o 18 (by decide)) (fun q h1 h2 => A_6_o q (by intro e; simp at e <;> omega))
      have MF_5A_6 : k = ai A_6 29 (F_5 18).toInt := by rw [ai_fr (A_6_o 29 (by decide)), F_5_o 18 (by decide)] <;> exact MFA
      have N1 : NVm F_5 A_6 (x2.toInt + 1) := u_4_p.1
      have R1 : RVm F_5 A_6 48 k := u_4_p.2
      have l_11 : (1 : Int32).toInt = 1 := by decide
      have e_12 := i_add (x := x2) (y := 1) (by omega) (by omega)
      exact ih hF_5 hA_6 (fun q hq => ((F_5_o q (fun e => hq ((by decide : ∀ x, x ∈ ([] : List Nat) → x ∈ ([63] : List Nat)) q e))).trans (bF q hq))) (fun q hq => ((A_6_o q (fun e => hq ((by decide : ∀ x, x ∈ ([48, 50, 51, 54, 55, 56] : List Nat) → x ∈ ([45, 46, 48, 49, 50, 51, 52, 53, 54, 55, 56] : List Nat)) q e))).trans (bA q hq))) (by omega) (R1) (by rw [show (x2 + 1).toInt = x2.toInt + 1 by omega]; exact N1) (by omega) (by omega)
set_option maxRecDepth 10000 in
theorem s_d_goesTill {n : Nat} {k : Int} {F : Nat → Int32} {A : Nat → Nat → Int32} {J : Nat → Nat → Int64} {x1 : Int32} (hF : IFm F) (hA : IAm A) (hn : 10640 ≤ n) (hk : k ≤ 6) (hk0 : 0 ≤ k) (VFA : VMs F A) (MFA : k = ai A 29 (F 18).toInt) (RFA : RVm F A 48 k) (rx1 : 0 ≤ x1.toInt ∧ x1.toInt ≤ 9999) : ok (d_goesTill n F A J x1) (fun r => IFm r.2.1 ∧ IAm r.2.2.1 ∧ (∀ q, q ∉ ([63] : List Nat) → r.2.1 q = F q) ∧ (∀ q, q ∉ ([45, 46, 48, 49, 50, 51, 52, 53, 54, 55, 56] : List Nat) → r.2.2.1 q = A q) ∧ NVm r.2.1 r.2.2.1 k) := by
  have r18 : 0 ≤ (F 18).toInt ∧ (F 18).toInt ≤ 1 := hF 18
  unfold d_goesTill
  refine ok_call (s_d_fillsWays hF hA (by omega) (VFA)) ?_
  rintro ⟨u_1, F_2, A_3, J_4⟩ ⟨hF_2, hA_3, F_2_o, A_3_o, u_1_p⟩
  dsimp only at hF_2 hA_3 F_2_o A_3_o u_1_p ⊢
  have r_5 : 0 ≤ (F_2 18).toInt ∧ (F_2 18).toInt ≤ 1 := hF_2 18
  have r_6 : 0 ≤ (F 18).toInt ∧ (F 18).toInt ≤ 1 := hF 18
  have f_7 : (F_2 18).toInt = (F 18).toInt := congrArg Int32.toInt (F_2_o 18 (by decide))
  have VF_2A_3 : VMs F_2 A_3 := VFA.fr (F_2_o 18 (by decide)) (fun q h1 h2 => A_3_o q (by intro e; simp at e <;> omega))
  have MF_2A_3 : k = ai A_3 29 (F_2 18).toInt := by rw [ai_fr (A_3_o 29 (by decide)), F_2_o 18 (by decide)] <;> exact MFA
  have RF_2A_3 : RVm F_2 A_3 48 k := RFA.cg (F_2_o 18 (by decide)) (A_3_o 19 (by decide)) (A_3_o 22 (by decide)) (fun m _ _ => by rw [ai_fr (A_3_o 48 (by decide))]; exact ⟨rfl, rfl⟩)
  have l_8 : (0 : Int32).toInt = 0 := by decide
  refine ok_mono (s_d_goesTill_6 hF_2 hA_3 (fun q hq => (F_2_o q (fun e => hq ((by decide : ∀ x, x ∈ ([] : List Nat) → x ∈ ([63] : List Nat)) q e)))) (fun q hq => (A_3_o q (fun e => hq ((by decide : ∀ x, x ∈ ([49] : List Nat) → x ∈ ([45, 46, 48, 49, 50, 51, 52, 53, 54, 55, 56] : List Nat)) q e)))) (by omega) (VFA) (MFA) (by omega) (RF_2A_3) (fun m h0 h1 => absurd h1 (by omega)) (by omega) (by omega) (by omega)) ?_
  rintro ⟨v_9, F_10, A_11, J_12⟩ ⟨hF_10, hA_11, F_10_o, A_11_o, v_9_p⟩
  dsimp only at hF_10 hA_11 F_10_o A_11_o v_9_p ⊢
  have v_9_p : NVm F_10 A_11 k := v_9_p
  refine ⟨hF_10, hA_11, (fun q hq => (F_10_o q hq)), (fun q hq => (A_11_o q hq)), ?_⟩
  exact v_9_p
