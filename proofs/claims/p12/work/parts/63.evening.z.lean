section Qz53
set_option maxRecDepth 10000 in
theorem s_d_gainBy {n : Nat} {k : Int} {F : Nat → Int32} {A : Nat → Nat → Int32} {J : Nat → Nat → Int64} {x1 : Int32} {x2 : Int32} (hF : IFm F) (hA : IAm A) (hn : 10710 ≤ n) (hk : k ≤ 6) (hk0 : 0 ≤ k) (VFA : VMs F A) (MFA : k = ai A 29 (F 18).toInt) (PFA : RVm F A 47 k) (hx1 : 0 ≤ x1.toInt ∧ x1.toInt < k) : ok (d_gainBy n F A J x1 x2) (fun r => IFm r.2.1 ∧ IAm r.2.2.1 ∧ (∀ q, q ∉ ([63] : List Nat) → r.2.1 q = F q) ∧ (∀ q, q ∉ ([45, 46, 48, 49, 50, 51, 52, 53, 54, 55, 56] : List Nat) → r.2.2.1 q = A q) ∧ RVm r.2.1 r.2.2.1 48 k) := by
  have r18 : 0 ≤ (F 18).toInt ∧ (F 18).toInt ≤ 1 := hF 18
  unfold d_gainBy
  refine ok_call (s2_d_takes hF hA (by omega) (by omega) (PFA)) ?_
  rintro ⟨u_1, F_2, A_3, J_4⟩ ⟨hF_2, hA_3, F_2_o, A_3_o, u_1_p⟩
  dsimp only at hF_2 hA_3 F_2_o A_3_o u_1_p ⊢
  have u_1_p : RVm F_2 A_3 48 k := u_1_p
  have r_5 : 0 ≤ (F_2 18).toInt ∧ (F_2 18).toInt ≤ 1 := hF_2 18
  have r_6 : 0 ≤ (F 18).toInt ∧ (F 18).toInt ≤ 1 := hF 18
  have f_7 : (F_2 18).toInt = (F 18).toInt := congrArg Int32.toInt (F_2_o 18 (by decide))
  have VF_2A_3 : VMs F_2 A_3 := VFA.fr (F_2_o 18 (by decide)) (fun q h1 h2 => A_3_o q (by intro e; simp at e <;> omega))
  have MF_2A_3 : k = ai A_3 29 (F_2 18).toInt := by rw [ai_fr (A_3_o 29 (by decide)), F_2_o 18 (by decide)] <;> exact MFA
  have PF_2A_3 : RVm F_2 A_3 47 k := PFA.cg (F_2_o 18 (by decide)) (A_3_o 19 (by decide)) (A_3_o 22 (by decide)) (fun m _ _ => by rw [ai_fr (A_3_o 47 (by decide))]; exact ⟨rfl, rfl⟩)
  have RF_2A_3 : RVm F_2 A_3 48 k := u_1_p
  refine ok_call (s_d_leaves hF_2 hA_3 (by omega) (by omega) (by omega)) ?_
  rintro ⟨v_8, F_9, A_10, J_11⟩ ⟨hF_9, hA_10, F_9_o, A_10_o, v_8_p⟩
  dsimp only at hF_9 hA_10 F_9_o A_10_o v_8_p ⊢
  have v_8_p : (RVm F_2 A_3 48 k → RVm F_9 A_10 48 k) := v_8_p
  have r_12 : 0 ≤ (F_9 18).toInt ∧ (F_9 18).toInt ≤ 1 := hF_9 18
  have f_13 : (F_9 18).toInt = (F_2 18).toInt := congrArg Int32.toInt (F_9_o 18 (by decide))
  have VF_9A_10 : VMs F_9 A_10 := VF_2A_3.fr (F_9_o 18 (by decide)) (fun q h1 h2 => A_10_o q (by intro e; simp at e <;> omega))
  have MF_9A_10 : k = ai A_10 29 (F_9 18).toInt := by rw [ai_fr (A_10_o 29 (by decide)), F_9_o 18 (by decide)] <;> exact MF_2A_3
  have PF_9A_10 : RVm F_9 A_10 47 k := PF_2A_3.cg (F_9_o 18 (by decide)) (A_10_o 19 (by decide)) (A_10_o 22 (by decide)) (fun m _ _ => by rw [ai_fr (A_10_o 47 (by decide))]; exact ⟨rfl, rfl⟩)
  have RF_9A_10 : RVm F_9 A_10 48 k := v_8_p RF_2A_3
  refine ok_call (s_d_wholeNight hF_9 hA_10 (by omega) (by omega) (by omega) (VF_9A_10) (MF_9A_10) (RF_9A_10)) ?_
  rintro ⟨v_14, F_15, A_16, J_17⟩ ⟨hF_15, hA_16, F_15_o, A_16_o, v_14_p⟩
  dsimp only at hF_15 hA_16 F_15_o A_16_o v_14_p ⊢
  have v_14_p : RVm F_15 A_16 48 k := v_14_p
  have r_18 : 0 ≤ (F_15 18).toInt ∧ (F_15 18).toInt ≤ 1 := hF_15 18
  have f_19 : (F_15 18).toInt = (F_9 18).toInt := congrArg Int32.toInt (F_15_o 18 (by decide))
  have VF_15A_16 : VMs F_15 A_16 := VF_9A_10.fr (F_15_o 18 (by decide)) (fun q h1 h2 => A_16_o q (by intro e; simp at e <;> omega))
  have MF_15A_16 : k = ai A_16 29 (F_15 18).toInt := by rw [ai_fr (A_16_o 29 (by decide)), F_15_o 18 (by decide)] <;> exact MF_9A_10
  have PF_15A_16 : RVm F_15 A_16 47 k := PF_9A_10.cg (F_15_o 18 (by decide)) (A_16_o 19 (by decide)) (A_16_o 22 (by decide)) (fun m _ _ => by rw [ai_fr (A_16_o 47 (by decide))]; exact ⟨rfl, rfl⟩)
  have RF_15A_16 : RVm F_15 A_16 48 k := v_14_p
  refine ok_some ?_
  refine ⟨hF_15, hA_16, (fun q hq => (((F_15_o q hq).trans (F_9_o q (fun e => hq ((by decide : ∀ x, x ∈ ([] : List Nat) → x ∈ ([63] : List Nat)) q e)))).trans (F_2_o q (fun e => hq ((by decide : ∀ x, x ∈ ([] : List Nat) → x ∈ ([63] : List Nat)) q e))))), (fun q hq => (((A_16_o q hq).trans (A_10_o q (fun e => hq ((by decide : ∀ x, x ∈ ([48] : List Nat) → x ∈ ([45, 46, 48, 49, 50, 51, 52, 53, 54, 55, 56] : List Nat)) q e)))).trans (A_3_o q (fun e => hq ((by decide : ∀ x, x ∈ ([48] : List Nat) → x ∈ ([45, 46, 48, 49, 50, 51, 52, 53, 54, 55, 56] : List Nat)) q e))))), ?_⟩
  exact RF_15A_16
set_option maxRecDepth 10000 in
theorem s_d_bestOption_14  {n : Nat} {k : Int} {F : Nat → Int32} {A : Nat → Nat → Int32} {J : Nat → Nat → Int64} {x1 : Int32} {x2 : Int32} {x3 : Int32} (hF : IFm F) (hA : IAm A) (hk : k ≤ 6) (hk0 : 0 ≤ k) (VFA : VMs F A) (MFA : k = ai A 29 (F 18).toInt) (PFA : RVm F A 47 k) (hx1 : 0 ≤ x1.toInt ∧ x1.toInt < k) (rx3 : 0 ≤ x3.toInt ∧ x3.toInt ≤ 40) (hn : 10800 - x3.toInt < (n : Int)) : ok (d_bestOption_14 n F A J x1 x2 x3) (fun r => IFm r.2.1 ∧ IAm r.2.2.1 ∧ (∀ q, q ∉ ([63, 76] : List Nat) → r.2.1 q = F q) ∧ (∀ q, q ∉ ([45, 46, 48, 49, 50, 51, 52, 53, 54, 55, 56] : List Nat) → r.2.2.1 q = A q) ∧ True) := by
  induction n generalizing F A J x2 x3 with
  | zero => exact absurd hn (by omega)
  | succ n ih =>
    have r18 : 0 ≤ (F 18).toInt ∧ (F 18).toInt ≤ 1 := hF 18
    unfold d_bestOption_14
    refine ok_call (s_d_options hF hA (by omega)) ?_
    intro v_1 v_1_p
    have v_1_p : 1 ≤ v_1.toInt ∧ v_1.toInt ≤ 37 := v_1_p
    refine ok_cond (fun c_2 => ?_) (fun c_2 => ?_)
    · rw [i_ge] at c_2
      refine ok_some ?_
      refine ⟨hF, hA, (fun q hq => rfl), (fun q hq => rfl), ?_⟩
      (first | trivial | omega | exact ⟨by omega, by omega⟩ | assumption)
    · rw [i_nge] at c_2
      refine ok_call (s_d_gainBy hF hA (by omega) (by omega) (by omega) (VFA) (MFA) (PFA) (by omega)) ?_
      rintro ⟨v_3, F_4, A_5, J_6⟩ ⟨hF_4, hA_5, F_4_o, A_5_o, v_3_p⟩
      dsimp only at hF_4 hA_5 F_4_o A_5_o v_3_p ⊢
      have v_3_p : RVm F_4 A_5 48 k := v_3_p
      have r_7 : 0 ≤ (F_4 18).toInt ∧ (F_4 18).toInt ≤ 1 := hF_4 18
      have r_8 : 0 ≤ (F 18).toInt ∧ (F 18).toInt ≤ 1 := hF 18
      have f_9 : (F_4 18).toInt = (F 18).toInt := congrArg Int32.toInt (F_4_o 18 (by decide))
      have VF_4A_5 : VMs F_4 A_5 := VFA.fr (F_4_o 18 (by decide)) (fun q h1 h2 => A_5_o q (by intro e; simp at e <;> omega))
      have MF_4A_5 : k = ai A_5 29 (F_4 18).toInt := by rw [ai_fr (A_5_o 29 (by decide)), F_4_o 18 (by decide)] <;> exact MFA
      have PF_4A_5 : RVm F_4 A_5 47 k := PFA.cg (F_4_o 18 (by decide)) (A_5_o 19 (by decide)) (A_5_o 22 (by decide)) (fun m _ _ => by rw [ai_fr (A_5_o 47 (by decide))]; exact ⟨rfl, rfl⟩)
      have RF_4A_5 : RVm F_4 A_5 48 k := v_3_p
      have f_10 : (F_4 76).toInt = (F 76).toInt := congrArg Int32.toInt (F_4_o 76 (by decide))
      refine ok_cond (fun c_11 => ?_) (fun c_11 => ?_)
      · rw [i_gt] at c_11
        refine ok_pf hF_4 (trivial) ?_
        intro F_12 hF_12 F_12_k F_12_o
        have VF_12A_5 : VMs F_12 A_5 := VF_4A_5.fr (F_12_o 18 (by decide)) (fun _ _ _ => rfl)
        have MF_12A_5 : k = ai A_5 29 (F_12 18).toInt := by rw [F_12_o 18 (by decide)] <;> exact MF_4A_5
        have PF_12A_5 : RVm F_12 A_5 47 k := PF_4A_5.cg (F_12_o 18 (by decide)) rfl rfl (fun _ _ _ => ⟨rfl, rfl⟩)
        have RF_12A_5 : RVm F_12 A_5 48 k := RF_4A_5.cg (F_12_o 18 (by decide)) rfl rfl (fun _ _ _ => ⟨rfl, rfl⟩)
        have l_13 : (1 : Int32).toInt = 1 := by decide
        have e_14 := i_add (x := x3) (y := 1) (by omega) (by omega)
        refine ok_mono (ih hF_12 hA_5 (VF_12A_5) (MF_12A_5) (PF_12A_5) (by omega) (by omega)) ?_
        rintro ⟨v_15, F_16, A_17, J_18⟩ ⟨hF_16, hA_17, F_16_o, A_17_o, v_15_p⟩
        dsimp only at hF_16 hA_17 F_16_o A_17_o v_15_p ⊢
        have VF_16A_17 : VMs F_16 A_17 := VF_12A_5.fr (F_16_o 18 (by decide)) (fun q h1 h2 => A_17_o q (by intro e; simp at e <;> omega))
        have MF_16A_17 : k = ai A_17 29 (F_16 18).toInt := by rw [ai_fr (A_17_o 29 (by decide)), F_16_o 18 (by decide)] <;> exact MF_12A_5
        have PF_16A_17 : RVm F_16 A_17 47 k := PF_12A_5.cg (F_16_o 18 (by decide)) (A_17_o 19 (by decide)) (A_17_o 22 (by decide)) (fun m _ _ => by rw [ai_fr (A_17_o 47 (by decide))]; exact ⟨rfl, rfl⟩)
        refine ⟨hF_16, hA_17, (fun q hq => (((F_16_o q hq).trans (F_12_o q (fun e => hq (by rw [e]; decide)))).trans (F_4_o q (fun e => hq ((by decide : ∀ x, x ∈ ([63] : List Nat) → x ∈ ([63, 76] : List Nat)) q e))))), (fun q hq => ((A_17_o q hq).trans (A_5_o q hq))), ?_⟩
        (first | trivial | omega | exact ⟨by omega, by omega⟩ | assumption)
      · rw [i_ngt] at c_11
        unfold d_bestOption_50
        have l_19 : (1 : Int32).toInt = 1 := by decide
        have e_20 := i_add (x := x3) (y := 1) (by omega) (by omega)
        refine ok_mono (ih hF_4 hA_5 (VF_4A_5) (MF_4A_5) (PF_4A_5) (by omega) (by omega)) ?_
        rintro ⟨v_21, F_22, A_23, J_24⟩ ⟨hF_22, hA_23, F_22_o, A_23_o, v_21_p⟩
        dsimp only at hF_22 hA_23 F_22_o A_23_o v_21_p ⊢
        have VF_22A_23 : VMs F_22 A_23 := VF_4A_5.fr (F_22_o 18 (by decide)) (fun q h1 h2 => A_23_o q (by intro e; simp at e <;> omega))
        have MF_22A_23 : k = ai A_23 29 (F_22 18).toInt := by rw [ai_fr (A_23_o 29 (by decide)), F_22_o 18 (by decide)] <;> exact MF_4A_5
        have PF_22A_23 : RVm F_22 A_23 47 k := PF_4A_5.cg (F_22_o 18 (by decide)) (A_23_o 19 (by decide)) (A_23_o 22 (by decide)) (fun m _ _ => by rw [ai_fr (A_23_o 47 (by decide))]; exact ⟨rfl, rfl⟩)
        refine ⟨hF_22, hA_23, (fun q hq => ((F_22_o q hq).trans (F_4_o q (fun e => hq ((by decide : ∀ x, x ∈ ([63] : List Nat) → x ∈ ([63, 76] : List Nat)) q e))))), (fun q hq => ((A_23_o q hq).trans (A_5_o q hq))), ?_⟩
        (first | trivial | omega | exact ⟨by omega, by omega⟩ | assumption)
set_option maxRecDepth 10000 in
theorem s_d_bestOption {n : Nat} {k : Int} {F : Nat → Int32} {A : Nat → Nat → Int32} {J : Nat → Nat → Int64} {x1 : Int32} (hF : IFm F) (hA : IAm A) (hn : 10900 ≤ n) (hk : k ≤ 6) (hk0 : 0 ≤ k) (VFA : VMs F A) (MFA : k = ai A 29 (F 18).toInt) (PFA : RVm F A 47 k) (hx1 : 0 ≤ x1.toInt ∧ x1.toInt < k) : ok (d_bestOption n F A J x1) (fun r => IFm r.2.1 ∧ IAm r.2.2.1 ∧ (∀ q, q ∉ ([63, 76] : List Nat) → r.2.1 q = F q) ∧ (∀ q, q ∉ ([45, 46, 48, 49, 50, 51, 52, 53, 54, 55, 56] : List Nat) → r.2.2.1 q = A q) ∧ True) := by
  have r18 : 0 ≤ (F 18).toInt ∧ (F 18).toInt ≤ 1 := hF 18
  unfold d_bestOption
  refine ok_call (s_d_gainBy hF hA (by omega) (by omega) (by omega) (VFA) (MFA) (PFA) (by omega)) ?_
  rintro ⟨v_1, F_2, A_3, J_4⟩ ⟨hF_2, hA_3, F_2_o, A_3_o, v_1_p⟩
  dsimp only at hF_2 hA_3 F_2_o A_3_o v_1_p ⊢
  have v_1_p : RVm F_2 A_3 48 k := v_1_p
  have r_5 : 0 ≤ (F_2 18).toInt ∧ (F_2 18).toInt ≤ 1 := hF_2 18
  have r_6 : 0 ≤ (F 18).toInt ∧ (F 18).toInt ≤ 1 := hF 18
  have f_7 : (F_2 18).toInt = (F 18).toInt := congrArg Int32.toInt (F_2_o 18 (by decide))
  have VF_2A_3 : VMs F_2 A_3 := VFA.fr (F_2_o 18 (by decide)) (fun q h1 h2 => A_3_o q (by intro e; simp at e <;> omega))
  have MF_2A_3 : k = ai A_3 29 (F_2 18).toInt := by rw [ai_fr (A_3_o 29 (by decide)), F_2_o 18 (by decide)] <;> exact MFA
  have PF_2A_3 : RVm F_2 A_3 47 k := PFA.cg (F_2_o 18 (by decide)) (A_3_o 19 (by decide)) (A_3_o 22 (by decide)) (fun m _ _ => by rw [ai_fr (A_3_o 47 (by decide))]; exact ⟨rfl, rfl⟩)
  have RF_2A_3 : RVm F_2 A_3 48 k := v_1_p
  refine ok_pf hF_2 (trivial) ?_
  intro F_8 hF_8 F_8_k F_8_o
  have VF_8A_3 : VMs F_8 A_3 := VF_2A_3.fr (F_8_o 18 (by decide)) (fun _ _ _ => rfl)
  have MF_8A_3 : k = ai A_3 29 (F_8 18).toInt := by rw [F_8_o 18 (by decide)] <;> exact MF_2A_3
  have PF_8A_3 : RVm F_8 A_3 47 k := PF_2A_3.cg (F_8_o 18 (by decide)) rfl rfl (fun _ _ _ => ⟨rfl, rfl⟩)
  have RF_8A_3 : RVm F_8 A_3 48 k := RF_2A_3.cg (F_8_o 18 (by decide)) rfl rfl (fun _ _ _ => ⟨rfl, rfl⟩)
  have l_9 : (1 : Int32).toInt = 1 := by decide
  refine ok_mono (s_d_bestOption_14 hF_8 hA_3 (by omega) (by omega) (VF_8A_3) (MF_8A_3) (PF_8A_3) (by omega) (by omega) (by omega)) ?_
  rintro ⟨v_10, F_11, A_12, J_13⟩ ⟨hF_11, hA_12, F_11_o, A_12_o, v_10_p⟩
  dsimp only at hF_11 hA_12 F_11_o A_12_o v_10_p ⊢
  have VF_11A_12 : VMs F_11 A_12 := VF_8A_3.fr (F_11_o 18 (by decide)) (fun q h1 h2 => A_12_o q (by intro e; simp at e <;> omega))
  have MF_11A_12 : k = ai A_12 29 (F_11 18).toInt := by rw [ai_fr (A_12_o 29 (by decide)), F_11_o 18 (by decide)] <;> exact MF_8A_3
  have PF_11A_12 : RVm F_11 A_12 47 k := PF_8A_3.cg (F_11_o 18 (by decide)) (A_12_o 19 (by decide)) (A_12_o 22 (by decide)) (fun m _ _ => by rw [ai_fr (A_12_o 47 (by decide))]; exact ⟨rfl, rfl⟩)
  refine ⟨hF_11, hA_12, (fun q hq => (((F_11_o q hq).trans (F_8_o q (fun e => hq (by rw [e]; decide)))).trans (F_2_o q (fun e => hq ((by decide : ∀ x, x ∈ ([63] : List Nat) → x ∈ ([63, 76] : List Nat)) q e))))), (fun q hq => ((A_12_o q hq).trans (A_3_o q hq))), ?_⟩
  (first | trivial | omega | exact ⟨by omega, by omega⟩ | assumption)
set_option maxRecDepth 10000 in
theorem s_d_best {n : Nat} {k : Int} {F : Nat → Int32} {A : Nat → Nat → Int32} {J : Nat → Nat → Int64} {x1 : Int32} {x2 : Int32} (hF : IFm F) (hA : IAm A) (hn : 10900 ≤ n) (hk : k ≤ 6) (hk0 : 0 ≤ k) (VFA : VMs F A) (MFA : k = ai A 29 (F 18).toInt) (PFA : RVm F A 47 k) : ok (d_best n F A J x1 x2) (fun r => IFm r.2.1 ∧ IAm r.2.2.1 ∧ (∀ q, q ∉ ([63, 76] : List Nat) → r.2.1 q = F q) ∧ (∀ q, q ∉ ([45, 46, 48, 49, 50, 51, 52, 53, 54, 55, 56] : List Nat) → r.2.2.1 q = A q) ∧ True) := by
  have r18 : 0 ≤ (F 18).toInt ∧ (F 18).toInt ≤ 1 := hF 18
  unfold d_best
  refine ok_call (s_d_isMan hF hA) ?_
  intro v_1 v_1_p
  have v_1_p : (v_1.toInt = 0 ∨ (v_1.toInt = 1 ∧ 0 ≤ x1.toInt ∧ x1.toInt < ai A 29 (F 18).toInt ∧ x1.toInt < 6)) := v_1_p
  have l_2 : (0 : Int32).toInt = 0 := by decide
  refine ok_cond (fun c_3 => ?_) (fun c_3 => ?_)
  · rw [i_eq] at c_3
    refine ok_some ?_
    refine ⟨hF, hA, (fun q hq => rfl), (fun q hq => rfl), ?_⟩
    (first | trivial | omega | exact ⟨by omega, by omega⟩ | assumption)
  · rw [i_neq] at c_3
    have l_4 : (1 : Int32).toInt = 1 := by decide
    refine ok_call (s_d_in ) ?_
    intro v_5 v_5_p
    have v_5_p : v_5.toInt = (if (0 : Int32).toInt ≤ x2.toInt ∧ x2.toInt ≤ (1 : Int32).toInt then 1 else 0) := v_5_p
    refine ok_cond (fun c_6 => ?_) (fun c_6 => ?_)
    · rw [i_ne] at c_6
      refine ok_call (s_d_bestOption hF hA (by omega) (by omega) (by omega) (VFA) (MFA) (PFA) (by omega)) ?_
      rintro ⟨v_7, F_8, A_9, J_10⟩ ⟨hF_8, hA_9, F_8_o, A_9_o, v_7_p⟩
      dsimp only at hF_8 hA_9 F_8_o A_9_o v_7_p ⊢
      have r_11 : 0 ≤ (F_8 18).toInt ∧ (F_8 18).toInt ≤ 1 := hF_8 18
      have r_12 : 0 ≤ (F 18).toInt ∧ (F 18).toInt ≤ 1 := hF 18
      have f_13 : (F_8 18).toInt = (F 18).toInt := congrArg Int32.toInt (F_8_o 18 (by decide))
      have VF_8A_9 : VMs F_8 A_9 := VFA.fr (F_8_o 18 (by decide)) (fun q h1 h2 => A_9_o q (by intro e; simp at e <;> omega))
      have MF_8A_9 : k = ai A_9 29 (F_8 18).toInt := by rw [ai_fr (A_9_o 29 (by decide)), F_8_o 18 (by decide)] <;> exact MFA
      have PF_8A_9 : RVm F_8 A_9 47 k := PFA.cg (F_8_o 18 (by decide)) (A_9_o 19 (by decide)) (A_9_o 22 (by decide)) (fun m _ _ => by rw [ai_fr (A_9_o 47 (by decide))]; exact ⟨rfl, rfl⟩)
      refine ok_cond (fun c_14 => ?_) (fun c_14 => ?_)
      · rw [i_ne] at c_14
        refine ok_call (s_d_codeOf hF_8 hA_9 (by omega) (by omega) (by omega)) ?_
        rintro ⟨v_15, F_16, A_17, J_18⟩ ⟨hF_16, hA_17, F_16_o, A_17_o, v_15_p⟩
        dsimp only at hF_16 hA_17 F_16_o A_17_o v_15_p ⊢
        have r_19 : 0 ≤ (F_16 18).toInt ∧ (F_16 18).toInt ≤ 1 := hF_16 18
        have f_20 : (F_16 18).toInt = (F_8 18).toInt := congrArg Int32.toInt (F_16_o 18 (by decide))
        have VF_16A_17 : VMs F_16 A_17 := VF_8A_9.fr (F_16_o 18 (by decide)) (fun q h1 h2 => A_17_o q (by intro e; simp at e <;> omega))
        have MF_16A_17 : k = ai A_17 29 (F_16 18).toInt := by rw [ai_fr (A_17_o 29 (by decide)), F_16_o 18 (by decide)] <;> exact MF_8A_9
        have PF_16A_17 : RVm F_16 A_17 47 k := PF_8A_9.cg (F_16_o 18 (by decide)) (A_17_o 19 (by decide)) (A_17_o 22 (by decide)) (fun m _ _ => by rw [ai_fr (A_17_o 47 (by decide))]; exact ⟨rfl, rfl⟩)
        refine ok_some ?_
        refine ⟨hF_16, hA_17, (fun q hq => ((F_16_o q (fun e => hq ((by decide : ∀ x, x ∈ ([] : List Nat) → x ∈ ([63, 76] : List Nat)) q e))).trans (F_8_o q hq))), (fun q hq => ((A_17_o q (fun e => hq ((by decide : ∀ x, x ∈ ([48] : List Nat) → x ∈ ([45, 46, 48, 49, 50, 51, 52, 53, 54, 55, 56] : List Nat)) q e))).trans (A_9_o q hq))), ?_⟩
        (first | trivial | omega | exact ⟨by omega, by omega⟩ | assumption)
      · rw [i_nne] at c_14
        refine ok_some ?_
        refine ⟨hF_8, hA_9, (fun q hq => (F_8_o q hq)), (fun q hq => (A_9_o q hq)), ?_⟩
        (first | trivial | omega | exact ⟨by omega, by omega⟩ | assumption)
    · rw [i_nne] at c_6
      refine ok_some ?_
      refine ⟨hF, hA, (fun q hq => rfl), (fun q hq => rfl), ?_⟩
      (first | trivial | omega | exact ⟨by omega, by omega⟩ | assumption)
set_option maxRecDepth 10000 in
theorem s_d_hire {n : Nat} {k : Int} {F : Nat → Int32} {A : Nat → Nat → Int32} {J : Nat → Nat → Int64} {x1 : Int32} (hF : IFm F) (hA : IAm A) (hn : 10900 ≤ n) (hk : k ≤ 6) (hk0 : 0 ≤ k) (VFA : VMs F A) (MFA : k = ai A 29 (F 18).toInt) (PFA : RVm F A 47 k) : ok (d_hire n F A J x1) (fun r => IFm r.2.1 ∧ IAm r.2.2.1 ∧ (∀ q, q ∉ ([63, 76] : List Nat) → r.2.1 q = F q) ∧ (∀ q, q ∉ ([45, 46, 48, 49, 50, 51, 52, 53, 54, 55, 56] : List Nat) → r.2.2.1 q = A q) ∧ True) := by
  have r18 : 0 ≤ (F 18).toInt ∧ (F 18).toInt ≤ 1 := hF 18
  unfold d_hire
  refine ok_call (s_d_isMan hF hA) ?_
  intro v_1 v_1_p
  have v_1_p : (v_1.toInt = 0 ∨ (v_1.toInt = 1 ∧ 0 ≤ x1.toInt ∧ x1.toInt < ai A 29 (F 18).toInt ∧ x1.toInt < 6)) := v_1_p
  have l_2 : (0 : Int32).toInt = 0 := by decide
  refine ok_cond (fun c_3 => ?_) (fun c_3 => ?_)
  · rw [i_ne] at c_3
    refine ok_call (s_d_bestOption hF hA (by omega) (by omega) (by omega) (VFA) (MFA) (PFA) (by omega)) ?_
    rintro ⟨v_4, F_5, A_6, J_7⟩ ⟨hF_5, hA_6, F_5_o, A_6_o, v_4_p⟩
    dsimp only at hF_5 hA_6 F_5_o A_6_o v_4_p ⊢
    have r_8 : 0 ≤ (F_5 18).toInt ∧ (F_5 18).toInt ≤ 1 := hF_5 18
    have r_9 : 0 ≤ (F 18).toInt ∧ (F 18).toInt ≤ 1 := hF 18
    have f_10 : (F_5 18).toInt = (F 18).toInt := congrArg Int32.toInt (F_5_o 18 (by decide))
    have VF_5A_6 : VMs F_5 A_6 := VFA.fr (F_5_o 18 (by decide)) (fun q h1 h2 => A_6_o q (by intro e; simp at e <;> omega))
    have MF_5A_6 : k = ai A_6 29 (F_5 18).toInt := by rw [ai_fr (A_6_o 29 (by decide)), F_5_o 18 (by decide)] <;> exact MFA
    have PF_5A_6 : RVm F_5 A_6 47 k := PFA.cg (F_5_o 18 (by decide)) (A_6_o 19 (by decide)) (A_6_o 22 (by decide)) (fun m _ _ => by rw [ai_fr (A_6_o 47 (by decide))]; exact ⟨rfl, rfl⟩)
    refine ok_call (s_d_gainBy hF_5 hA_6 (by omega) (by omega) (by omega) (VF_5A_6) (MF_5A_6) (PF_5A_6) (by omega)) ?_
    rintro ⟨v_11, F_12, A_13, J_14⟩ ⟨hF_12, hA_13, F_12_o, A_13_o, v_11_p⟩
    dsimp only at hF_12 hA_13 F_12_o A_13_o v_11_p ⊢
    have v_11_p : RVm F_12 A_13 48 k := v_11_p
    have r_15 : 0 ≤ (F_12 18).toInt ∧ (F_12 18).toInt ≤ 1 := hF_12 18
    have f_16 : (F_12 18).toInt = (F_5 18).toInt := congrArg Int32.toInt (F_12_o 18 (by decide))
    have VF_12A_13 : VMs F_12 A_13 := VF_5A_6.fr (F_12_o 18 (by decide)) (fun q h1 h2 => A_13_o q (by intro e; simp at e <;> omega))
    have MF_12A_13 : k = ai A_13 29 (F_12 18).toInt := by rw [ai_fr (A_13_o 29 (by decide)), F_12_o 18 (by decide)] <;> exact MF_5A_6
    have PF_12A_13 : RVm F_12 A_13 47 k := PF_5A_6.cg (F_12_o 18 (by decide)) (A_13_o 19 (by decide)) (A_13_o 22 (by decide)) (fun m _ _ => by rw [ai_fr (A_13_o 47 (by decide))]; exact ⟨rfl, rfl⟩)
    have RF_12A_13 : RVm F_12 A_13 48 k := v_11_p
    refine ok_some ?_
    refine ⟨hF_12, hA_13, (fun q hq => ((F_12_o q (fun e => hq ((by decide : ∀ x, x ∈ ([63] : List Nat) → x ∈ ([63, 76] : List Nat)) q e))).trans (F_5_o q hq))), (fun q hq => ((A_13_o q hq).trans (A_6_o q hq))), ?_⟩
    (first | trivial | omega | exact ⟨by omega, by omega⟩ | assumption)
  · rw [i_nne] at c_3
    refine ok_some ?_
    refine ⟨hF, hA, (fun q hq => rfl), (fun q hq => rfl), ?_⟩
    (first | trivial | omega | exact ⟨by omega, by omega⟩ | assumption)
set_option maxRecDepth 10000 in
theorem s_d_gain {n : Nat} {k : Int} {F : Nat → Int32} {A : Nat → Nat → Int32} {J : Nat → Nat → Int64}  (hF : IFm F) (hA : IAm A) (hn : 10900 ≤ n) (hk : k ≤ 6) (hk0 : 0 ≤ k) (VFA : VMs F A) (MFA : k = ai A 29 (F 18).toInt) (PFA : RVm F A 47 k) : ok (d_gain n F A J) (fun r => IFm r.2.1 ∧ IAm r.2.2.1 ∧ (∀ q, q ∉ ([63] : List Nat) → r.2.1 q = F q) ∧ (∀ q, q ∉ ([45, 46, 48, 49, 50, 51, 52, 53, 54, 55, 56] : List Nat) → r.2.2.1 q = A q) ∧ True) := by
  have r18 : 0 ≤ (F 18).toInt ∧ (F 18).toInt ≤ 1 := hF 18
  unfold d_gain
  refine ok_call (s2_d_takes hF hA (by omega) (by omega) (PFA)) ?_
  rintro ⟨u_1, F_2, A_3, J_4⟩ ⟨hF_2, hA_3, F_2_o, A_3_o, u_1_p⟩
  dsimp only at hF_2 hA_3 F_2_o A_3_o u_1_p ⊢
  have u_1_p : RVm F_2 A_3 48 k := u_1_p
  have r_5 : 0 ≤ (F_2 18).toInt ∧ (F_2 18).toInt ≤ 1 := hF_2 18
  have r_6 : 0 ≤ (F 18).toInt ∧ (F 18).toInt ≤ 1 := hF 18
  have f_7 : (F_2 18).toInt = (F 18).toInt := congrArg Int32.toInt (F_2_o 18 (by decide))
  have VF_2A_3 : VMs F_2 A_3 := VFA.fr (F_2_o 18 (by decide)) (fun q h1 h2 => A_3_o q (by intro e; simp at e <;> omega))
  have MF_2A_3 : k = ai A_3 29 (F_2 18).toInt := by rw [ai_fr (A_3_o 29 (by decide)), F_2_o 18 (by decide)] <;> exact MFA
  have PF_2A_3 : RVm F_2 A_3 47 k := PFA.cg (F_2_o 18 (by decide)) (A_3_o 19 (by decide)) (A_3_o 22 (by decide)) (fun m _ _ => by rw [ai_fr (A_3_o 47 (by decide))]; exact ⟨rfl, rfl⟩)
  have RF_2A_3 : RVm F_2 A_3 48 k := u_1_p
  refine ok_call (s_d_wholeNight hF_2 hA_3 (by omega) (by omega) (by omega) (VF_2A_3) (MF_2A_3) (RF_2A_3)) ?_
  rintro ⟨v_8, F_9, A_10, J_11⟩ ⟨hF_9, hA_10, F_9_o, A_10_o, v_8_p⟩
  dsimp only at hF_9 hA_10 F_9_o A_10_o v_8_p ⊢
  have v_8_p : RVm F_9 A_10 48 k := v_8_p
  have r_12 : 0 ≤ (F_9 18).toInt ∧ (F_9 18).toInt ≤ 1 := hF_9 18
  have f_13 : (F_9 18).toInt = (F_2 18).toInt := congrArg Int32.toInt (F_9_o 18 (by decide))
  have VF_9A_10 : VMs F_9 A_10 := VF_2A_3.fr (F_9_o 18 (by decide)) (fun q h1 h2 => A_10_o q (by intro e; simp at e <;> omega))
  have MF_9A_10 : k = ai A_10 29 (F_9 18).toInt := by rw [ai_fr (A_10_o 29 (by decide)), F_9_o 18 (by decide)] <;> exact MF_2A_3
  have PF_9A_10 : RVm F_9 A_10 47 k := PF_2A_3.cg (F_9_o 18 (by decide)) (A_10_o 19 (by decide)) (A_10_o 22 (by decide)) (fun m _ _ => by rw [ai_fr (A_10_o 47 (by decide))]; exact ⟨rfl, rfl⟩)
  have RF_9A_10 : RVm F_9 A_10 48 k := v_8_p
  refine ok_some ?_
  refine ⟨hF_9, hA_10, (fun q hq => ((F_9_o q hq).trans (F_2_o q (fun e => hq ((by decide : ∀ x, x ∈ ([] : List Nat) → x ∈ ([63] : List Nat)) q e))))), (fun q hq => ((A_10_o q hq).trans (A_3_o q (fun e => hq ((by decide : ∀ x, x ∈ ([48] : List Nat) → x ∈ ([45, 46, 48, 49, 50, 51, 52, 53, 54, 55, 56] : List Nat)) q e))))), ?_⟩
  (first | trivial | omega | exact ⟨by omega, by omega⟩ | assumption)
set_option maxRecDepth 10000 in
theorem s_d_task {n : Nat} {k : Int} {F : Nat → Int32} {A : Nat → Nat → Int32} {J : Nat → Nat → Int64} {x1 : Int32} {x2 : Int32} (hF : IFm F) (hA : IAm A) (hn : 200 ≤ n) (hk : k ≤ 6) (PFA : RVm F A 47 k) : ok (d_task n F A J x1 x2) (fun r => IFm r.2.1 ∧ IAm r.2.2.1 ∧ (∀ q, q ∉ ([] : List Nat) → r.2.1 q = F q) ∧ (∀ q, q ∉ ([48] : List Nat) → r.2.2.1 q = A q) ∧ True) := by
  have r18 : 0 ≤ (F 18).toInt ∧ (F 18).toInt ≤ 1 := hF 18
  unfold d_task
  refine ok_call (s_d_isTask hF hA) ?_
  intro v_1 v_1_p
  have v_1_p : (v_1.toInt = 0 ∨ (v_1.toInt = 1 ∧ 0 ≤ x1.toInt ∧ x1.toInt < ai A 19 (F 18).toInt ∧ x1.toInt < 6)) := v_1_p
  have l_2 : (0 : Int32).toInt = 0 := by decide
  refine ok_cond (fun c_3 => ?_) (fun c_3 => ?_)
  · rw [i_ne] at c_3
    refine ok_call (s2_d_takes hF hA (by omega) (by omega) (PFA)) ?_
    rintro ⟨u_4, F_5, A_6, J_7⟩ ⟨hF_5, hA_6, F_5_o, A_6_o, u_4_p⟩
    dsimp only at hF_5 hA_6 F_5_o A_6_o u_4_p ⊢
    have u_4_p : RVm F_5 A_6 48 k := u_4_p
    have r_8 : 0 ≤ (F_5 18).toInt ∧ (F_5 18).toInt ≤ 1 := hF_5 18
    have r_9 : 0 ≤ (F 18).toInt ∧ (F 18).toInt ≤ 1 := hF 18
    have f_10 : (F_5 18).toInt = (F 18).toInt := congrArg Int32.toInt (F_5_o 18 (by decide))
    have PF_5A_6 : RVm F_5 A_6 47 k := PFA.cg (F_5_o 18 (by decide)) (A_6_o 19 (by decide)) (A_6_o 22 (by decide)) (fun m _ _ => by rw [ai_fr (A_6_o 47 (by decide))]; exact ⟨rfl, rfl⟩)
    refine ok_cond (fun c_11 => ?_) (fun c_11 => ?_)
    · rw [i_dec] at c_11
      have l_12 : (6 : Int32).toInt = 6 := by decide
      have e_13 := i_mulL (c := 6) (k := 6) (x := (F_5 18)) (by decide) (by omega) (by omega)
      have e_14 := i_add (x := (6 * (F_5 18))) (y := x1) (by omega) (by omega)
      refine ok_ld (j := 20) hA_6 (by omega) (by omega) ?_
      intro v_15 v_15_e v_15_r
      have v_15_r : -1 ≤ v_15.toInt ∧ v_15.toInt ≤ 7 := v_15_r
      refine ok_some ?_
      refine ⟨hF_5, hA_6, (fun q hq => (F_5_o q hq)), (fun q hq => (A_6_o q hq)), ?_⟩
      (first | trivial | omega | exact ⟨by omega, by omega⟩ | assumption)
    · rw [i_ndec] at c_11
      have l_16 : (1 : Int32).toInt = 1 := by decide
      refine ok_cond (fun c_17 => ?_) (fun c_17 => ?_)
      · rw [i_dec] at c_17
        refine ok_call (s_d_stepsOf hF_5 hA_6 (by omega)) ?_
        intro v_18 v_18_p
        have v_18_p : v_18.toInt = ai A_6 22 (6 * (F_5 18).toInt + x1.toInt) ∧ 0 ≤ v_18.toInt ∧ v_18.toInt ≤ 6 := v_18_p
        refine ok_some ?_
        refine ⟨hF_5, hA_6, (fun q hq => (F_5_o q hq)), (fun q hq => (A_6_o q hq)), ?_⟩
        (first | trivial | omega | exact ⟨by omega, by omega⟩ | assumption)
      · rw [i_ndec] at c_17
        have l_19 : (2 : Int32).toInt = 2 := by decide
        refine ok_cond (fun c_20 => ?_) (fun c_20 => ?_)
        · rw [i_dec] at c_20
          refine ok_ld (j := 48) hA_6 (by omega) (by omega) ?_
          intro v_21 v_21_e v_21_r
          refine ok_some ?_
          refine ⟨hF_5, hA_6, (fun q hq => (F_5_o q hq)), (fun q hq => (A_6_o q hq)), ?_⟩
          (first | trivial | omega | exact ⟨by omega, by omega⟩ | assumption)
        · rw [i_ndec] at c_20
          have l_22 : (3 : Int32).toInt = 3 := by decide
          refine ok_cond (fun c_23 => ?_) (fun c_23 => ?_)
          · rw [i_dec] at c_23
            refine ok_call (s_d_worthOf hF_5 hA_6 (by omega) (by omega)) ?_
            intro v_24 v_24_p
            refine ok_some ?_
            refine ⟨hF_5, hA_6, (fun q hq => (F_5_o q hq)), (fun q hq => (A_6_o q hq)), ?_⟩
            (first | trivial | omega | exact ⟨by omega, by omega⟩ | assumption)
          · rw [i_ndec] at c_23
            have l_25 : (4 : Int32).toInt = 4 := by decide
            refine ok_cond (fun c_26 => ?_) (fun c_26 => ?_)
            · rw [i_dec] at c_26
              refine ok_call (s_d_isEnded hF_5 hA_6 (by omega) (by omega)) ?_
              intro v_27 v_27_p
              have v_27_p : v_27.toInt = 0 ∨ v_27.toInt = 1 := v_27_p
              refine ok_cond (fun c_28 => ?_) (fun c_28 => ?_)
              · rw [i_eq] at c_28
                refine ok_some ?_
                refine ⟨hF_5, hA_6, (fun q hq => (F_5_o q hq)), (fun q hq => (A_6_o q hq)), ?_⟩
                (first | trivial | omega | exact ⟨by omega, by omega⟩ | assumption)
              · rw [i_neq] at c_28
                refine ok_some ?_
                refine ⟨hF_5, hA_6, (fun q hq => (F_5_o q hq)), (fun q hq => (A_6_o q hq)), ?_⟩
                (first | trivial | omega | exact ⟨by omega, by omega⟩ | assumption)
            · rw [i_ndec] at c_26
              refine ok_some ?_
              refine ⟨hF_5, hA_6, (fun q hq => (F_5_o q hq)), (fun q hq => (A_6_o q hq)), ?_⟩
              (first | trivial | omega | exact ⟨by omega, by omega⟩ | assumption)
  · rw [i_nne] at c_3
    refine ok_some ?_
    refine ⟨hF, hA, (fun q hq => rfl), (fun q hq => rfl), ?_⟩
    (first | trivial | omega | exact ⟨by omega, by omega⟩ | assumption)
set_option maxRecDepth 10000 in
theorem s_d_way {n : Nat} {k : Int} {F : Nat → Int32} {A : Nat → Nat → Int32} {J : Nat → Nat → Int64} {x1 : Int32} {x2 : Int32} (hF : IFm F) (hA : IAm A) (hn : 200 ≤ n) (hk : k ≤ 6) (hk0 : 0 ≤ k) (VFA : VMs F A) (MFA : k = ai A 29 (F 18).toInt) (PFA : RVm F A 47 k) : ok (d_way n F A J x1 x2) (fun r => IFm r.2.1 ∧ IAm r.2.2.1 ∧ (∀ q, q ∉ ([] : List Nat) → r.2.1 q = F q) ∧ (∀ q, q ∉ ([48, 49] : List Nat) → r.2.2.1 q = A q) ∧ True) := by
  have r18 : 0 ≤ (F 18).toInt ∧ (F 18).toInt ≤ 1 := hF 18
  unfold d_way
  refine ok_call (s_d_isRoom hF hA) ?_
  intro v_1 v_1_p
  have v_1_p : (v_1.toInt = 0 ∨ (v_1.toInt = 1 ∧ 0 ≤ x1.toInt ∧ x1.toInt < ai A 11 (F 18).toInt ∧ x1.toInt < 8)) := v_1_p
  have l_2 : (0 : Int32).toInt = 0 := by decide
  refine ok_cond (fun c_3 => ?_) (fun c_3 => ?_)
  · rw [i_eq] at c_3
    refine ok_some ?_
    refine ⟨hF, hA, (fun q hq => rfl), (fun q hq => rfl), ?_⟩
    (first | trivial | omega | exact ⟨by omega, by omega⟩ | assumption)
  · rw [i_neq] at c_3
    refine ok_call (s_d_isRoom hF hA) ?_
    intro v_4 v_4_p
    have v_4_p : (v_4.toInt = 0 ∨ (v_4.toInt = 1 ∧ 0 ≤ x2.toInt ∧ x2.toInt < ai A 11 (F 18).toInt ∧ x2.toInt < 8)) := v_4_p
    refine ok_cond (fun c_5 => ?_) (fun c_5 => ?_)
    · rw [i_ne] at c_5
      refine ok_call (s2_d_takes hF hA (by omega) (by omega) (PFA)) ?_
      rintro ⟨u_6, F_7, A_8, J_9⟩ ⟨hF_7, hA_8, F_7_o, A_8_o, u_6_p⟩
      dsimp only at hF_7 hA_8 F_7_o A_8_o u_6_p ⊢
      have u_6_p : RVm F_7 A_8 48 k := u_6_p
      have r_10 : 0 ≤ (F_7 18).toInt ∧ (F_7 18).toInt ≤ 1 := hF_7 18
      have r_11 : 0 ≤ (F 18).toInt ∧ (F 18).toInt ≤ 1 := hF 18
      have f_12 : (F_7 18).toInt = (F 18).toInt := congrArg Int32.toInt (F_7_o 18 (by decide))
      have VF_7A_8 : VMs F_7 A_8 := VFA.fr (F_7_o 18 (by decide)) (fun q h1 h2 => A_8_o q (by intro e; simp at e <;> omega))
      have MF_7A_8 : k = ai A_8 29 (F_7 18).toInt := by rw [ai_fr (A_8_o 29 (by decide)), F_7_o 18 (by decide)] <;> exact MFA
      have PF_7A_8 : RVm F_7 A_8 47 k := PFA.cg (F_7_o 18 (by decide)) (A_8_o 19 (by decide)) (A_8_o 22 (by decide)) (fun m _ _ => by rw [ai_fr (A_8_o 47 (by decide))]; exact ⟨rfl, rfl⟩)
      have RF_7A_8 : RVm F_7 A_8 48 k := u_6_p
      refine ok_call (s_d_fillsWays hF_7 hA_8 (by omega) (VF_7A_8)) ?_
      rintro ⟨u_13, F_14, A_15, J_16⟩ ⟨hF_14, hA_15, F_14_o, A_15_o, u_13_p⟩
      dsimp only at hF_14 hA_15 F_14_o A_15_o u_13_p ⊢
      have r_17 : 0 ≤ (F_14 18).toInt ∧ (F_14 18).toInt ≤ 1 := hF_14 18
      have f_18 : (F_14 18).toInt = (F_7 18).toInt := congrArg Int32.toInt (F_14_o 18 (by decide))
      have VF_14A_15 : VMs F_14 A_15 := VF_7A_8.fr (F_14_o 18 (by decide)) (fun q h1 h2 => A_15_o q (by intro e; simp at e <;> omega))
      have MF_14A_15 : k = ai A_15 29 (F_14 18).toInt := by rw [ai_fr (A_15_o 29 (by decide)), F_14_o 18 (by decide)] <;> exact MF_7A_8
      have PF_14A_15 : RVm F_14 A_15 47 k := PF_7A_8.cg (F_14_o 18 (by decide)) (A_15_o 19 (by decide)) (A_15_o 22 (by decide)) (fun m _ _ => by rw [ai_fr (A_15_o 47 (by decide))]; exact ⟨rfl, rfl⟩)
      have RF_14A_15 : RVm F_14 A_15 48 k := RF_7A_8.cg (F_14_o 18 (by decide)) (A_15_o 19 (by decide)) (A_15_o 22 (by decide)) (fun m _ _ => by rw [ai_fr (A_15_o 48 (by decide))]; exact ⟨rfl, rfl⟩)
      have l_19 : (8 : Int32).toInt = 8 := by decide
      have e_20 := i_mulL (c := 8) (k := 8) (x := x1) (by decide) (by omega) (by omega)
      have e_21 := i_add (x := (8 * x1)) (y := x2) (by omega) (by omega)
      refine ok_ld (j := 49) hA_15 (by omega) (by omega) ?_
      intro v_22 v_22_e v_22_r
      have l_23 : (1000000 : Int32).toInt = 1000000 := by decide
      refine ok_cond (fun c_24 => ?_) (fun c_24 => ?_)
      · rw [i_ne] at c_24
        refine ok_ld (j := 49) hA_15 (by omega) (by omega) ?_
        intro v_25 v_25_e v_25_r
        refine ok_some ?_
        refine ⟨hF_14, hA_15, (fun q hq => ((F_14_o q hq).trans (F_7_o q hq))), (fun q hq => ((A_15_o q (fun e => hq ((by decide : ∀ x, x ∈ ([49] : List Nat) → x ∈ ([48, 49] : List Nat)) q e))).trans (A_8_o q (fun e => hq ((by decide : ∀ x, x ∈ ([48] : List Nat) → x ∈ ([48, 49] : List Nat)) q e))))), ?_⟩
        (first | trivial | omega | exact ⟨by omega, by omega⟩ | assumption)
      · rw [i_nne] at c_24
        refine ok_some ?_
        refine ⟨hF_14, hA_15, (fun q hq => ((F_14_o q hq).trans (F_7_o q hq))), (fun q hq => ((A_15_o q (fun e => hq ((by decide : ∀ x, x ∈ ([49] : List Nat) → x ∈ ([48, 49] : List Nat)) q e))).trans (A_8_o q (fun e => hq ((by decide : ∀ x, x ∈ ([48] : List Nat) → x ∈ ([48, 49] : List Nat)) q e))))), ?_⟩
        (first | trivial | omega | exact ⟨by omega, by omega⟩ | assumption)
    · rw [i_nne] at c_5
      refine ok_some ?_
      refine ⟨hF, hA, (fun q hq => rfl), (fun q hq => rfl), ?_⟩
      (first | trivial | omega | exact ⟨by omega, by omega⟩ | assumption)
set_option maxRecDepth 10000 in
theorem s_d_bestOfTwo_56 {K44 : (Nat → Int32) → (Nat → Nat → Int32) → (Nat → Nat → Int64) → Int32 → Int32 → Int32 → Int32 → Int32 → Int32 → Int32 → Option (Int32 × (Nat → Int32) × (Nat → Nat → Int32) × (Nat → Nat → Int64))} {Q : Int32 × (Nat → Int32) × (Nat → Nat → Int32) × (Nat → Nat → Int64) → Prop} {n : Nat} {F0 : Nat → Int32} {A0 : Nat → Nat → Int32} {k : Int} {F : Nat → Int32} {A : Nat → Nat → Int32} {J : Nat → Nat → Int64} {x1 : Int32} {x2 : Int32} {x3 : Int32} {x4 : Int32} {x5 : Int32} {x6 : Int32} {x7 : Int32} {x8 : Int32} (hF : IFm F) (hA : IAm A) (bF : ∀ q, q ∉ ([63] : List Nat) → F q = F0 q) (bA : ∀ q, q ∉ ([45, 46, 48, 49, 50, 51, 52, 53, 54, 55, 56] : List Nat) → A q = A0 q) (hk : k ≤ 6) (hV : VMs F0 A0) (hM : k = ai A0 29 (F0 18).toInt) (hP : RVm F0 A0 47 k) (hk0 : 0 ≤ k) (hx1 : 0 ≤ x1.toInt ∧ x1.toInt < k) (hx2 : 0 ≤ x2.toInt ∧ x2.toInt < k) (rx7 : 0 ≤ x7.toInt ∧ x7.toInt ≤ 40) (rx8 : 0 ≤ x8.toInt ∧ x8.toInt ≤ 40) (hK44 : ∀ F A J (x4 : Int32) (x5 : Int32) (x6 : Int32), IFm F → IAm A → (∀ q, q ∉ ([63] : List Nat) → F q = F0 q) → (∀ q, q ∉ ([45, 46, 48, 49, 50, 51, 52, 53, 54, 55, 56] : List Nat) → A q = A0 q) → ok (K44 F A J x1 x2 x3 x4 x5 x6 (x7 + 1)) Q) (hn : 10800 - x8.toInt < (n : Int)) : ok (d_bestOfTwo_56 K44 n F A J x1 x2 x3 x4 x5 x6 x7 x8) (Q) := by
  induction n generalizing F A J x4 x5 x6 x8 with
  | zero => exact absurd hn (by omega)
  | succ n ih =>
    have r18 : 0 ≤ (F 18).toInt ∧ (F 18).toInt ≤ 1 := hF 18
    have VFA : VMs F A := hV.fr (bF 18 (by decide)) (fun q h1 h2 => bA q (by intro e; simp at e <;> omega))
    have MFA : k = ai A 29 (F 18).toInt := by rw [ai_fr (bA 29 (by decide)), bF 18 (by decide)]; exact hM
    have PFA : RVm F A 47 k := hP.cg (bF 18 (by decide)) (bA 19 (by decide)) (bA 22 (by decide)) (fun m _ _ => by rw [ai_fr (bA 47 (by decide))]; exact ⟨rfl, rfl⟩)
    unfold d_bestOfTwo_56
    refine ok_call (s_d_options hF hA (by omega)) ?_
    intro v_1 v_1_p
    have v_1_p : 1 ≤ v_1.toInt ∧ v_1.toInt ≤ 37 := v_1_p
    refine ok_cond (fun c_2 => ?_) (fun c_2 => ?_)
    · rw [i_ge] at c_2
      exact hK44 _ _ _ _ _ _ hF hA (fun q hq => (bF q hq)) (fun q hq => (bA q hq)) 
    · rw [i_nge] at c_2
      refine ok_call (s2_d_takes hF hA (by omega) (by omega) (PFA)) ?_
      rintro ⟨u_3, F_4, A_5, J_6⟩ ⟨hF_4, hA_5, F_4_o, A_5_o, u_3_p⟩
      dsimp only at hF_4 hA_5 F_4_o A_5_o u_3_p ⊢
      have u_3_p : RVm F_4 A_5 48 k := u_3_p
      have r_7 : 0 ≤ (F_4 18).toInt ∧ (F_4 18).toInt ≤ 1 := hF_4 18
      have r_8 : 0 ≤ (F 18).toInt ∧ (F 18).toInt ≤ 1 := hF 18
      have f_9 : (F_4 18).toInt = (F 18).toInt := congrArg Int32.toInt (F_4_o 18 (by decide))
      have VF_4A_5 : VMs F_4 A_5 := VFA.fr (F_4_o 18 (by decide)) (fun q h1 h2 => A_5_o q (by intro e; simp at e <;> omega))
      have MF_4A_5 : k = ai A_5 29 (F_4 18).toInt := by rw [ai_fr (A_5_o 29 (by decide)), F_4_o 18 (by decide)] <;> exact MFA
      have PF_4A_5 : RVm F_4 A_5 47 k := PFA.cg (F_4_o 18 (by decide)) (A_5_o 19 (by decide)) (A_5_o 22 (by decide)) (fun m _ _ => by rw [ai_fr (A_5_o 47 (by decide))]; exact ⟨rfl, rfl⟩)
      have RF_4A_5 : RVm F_4 A_5 48 k := u_3_p
      refine ok_call (s_d_leaves hF_4 hA_5 (by omega) (by omega) (by omega)) ?_
      rintro ⟨v_10, F_11, A_12, J_13⟩ ⟨hF_11, hA_12, F_11_o, A_12_o, v_10_p⟩
      dsimp only at hF_11 hA_12 F_11_o A_12_o v_10_p ⊢
      have v_10_p : (RVm F_4 A_5 48 k → RVm F_11 A_12 48 k) := v_10_p
      have r_14 : 0 ≤ (F_11 18).toInt ∧ (F_11 18).toInt ≤ 1 := hF_11 18
      have f_15 : (F_11 18).toInt = (F_4 18).toInt := congrArg Int32.toInt (F_11_o 18 (by decide))
      have VF_11A_12 : VMs F_11 A_12 := VF_4A_5.fr (F_11_o 18 (by decide)) (fun q h1 h2 => A_12_o q (by intro e; simp at e <;> omega))
      have MF_11A_12 : k = ai A_12 29 (F_11 18).toInt := by rw [ai_fr (A_12_o 29 (by decide)), F_11_o 18 (by decide)] <;> exact MF_4A_5
      have PF_11A_12 : RVm F_11 A_12 47 k := PF_4A_5.cg (F_11_o 18 (by decide)) (A_12_o 19 (by decide)) (A_12_o 22 (by decide)) (fun m _ _ => by rw [ai_fr (A_12_o 47 (by decide))]; exact ⟨rfl, rfl⟩)
      have RF_11A_12 : RVm F_11 A_12 48 k := v_10_p RF_4A_5
      refine ok_call (s_d_leaves hF_11 hA_12 (by omega) (by omega) (by omega)) ?_
      rintro ⟨v_16, F_17, A_18, J_19⟩ ⟨hF_17, hA_18, F_17_o, A_18_o, v_16_p⟩
      dsimp only at hF_17 hA_18 F_17_o A_18_o v_16_p ⊢
      have v_16_p : (RVm F_11 A_12 48 k → RVm F_17 A_18 48 k) := v_16_p
      have r_20 : 0 ≤ (F_17 18).toInt ∧ (F_17 18).toInt ≤ 1 := hF_17 18
      have f_21 : (F_17 18).toInt = (F_11 18).toInt := congrArg Int32.toInt (F_17_o 18 (by decide))
      have VF_17A_18 : VMs F_17 A_18 := VF_11A_12.fr (F_17_o 18 (by decide)) (fun q h1 h2 => A_18_o q (by intro e; simp at e <;> omega))
      have MF_17A_18 : k = ai A_18 29 (F_17 18).toInt := by rw [ai_fr (A_18_o 29 (by decide)), F_17_o 18 (by decide)] <;> exact MF_11A_12
      have PF_17A_18 : RVm F_17 A_18 47 k := PF_11A_12.cg (F_17_o 18 (by decide)) (A_18_o 19 (by decide)) (A_18_o 22 (by decide)) (fun m _ _ => by rw [ai_fr (A_18_o 47 (by decide))]; exact ⟨rfl, rfl⟩)
      have RF_17A_18 : RVm F_17 A_18 48 k := v_16_p RF_11A_12
      refine ok_call (s_d_wholeNight hF_17 hA_18 (by omega) (by omega) (by omega) (VF_17A_18) (MF_17A_18) (RF_17A_18)) ?_
      rintro ⟨v_22, F_23, A_24, J_25⟩ ⟨hF_23, hA_24, F_23_o, A_24_o, v_22_p⟩
      dsimp only at hF_23 hA_24 F_23_o A_24_o v_22_p ⊢
      have v_22_p : RVm F_23 A_24 48 k := v_22_p
      have r_26 : 0 ≤ (F_23 18).toInt ∧ (F_23 18).toInt ≤ 1 := hF_23 18
      have f_27 : (F_23 18).toInt = (F_17 18).toInt := congrArg Int32.toInt (F_23_o 18 (by decide))
      have VF_23A_24 : VMs F_23 A_24 := VF_17A_18.fr (F_23_o 18 (by decide)) (fun q h1 h2 => A_24_o q (by intro e; simp at e <;> omega))
      have MF_23A_24 : k = ai A_24 29 (F_23 18).toInt := by rw [ai_fr (A_24_o 29 (by decide)), F_23_o 18 (by decide)] <;> exact MF_17A_18
      have PF_23A_24 : RVm F_23 A_24 47 k := PF_17A_18.cg (F_23_o 18 (by decide)) (A_24_o 19 (by decide)) (A_24_o 22 (by decide)) (fun m _ _ => by rw [ai_fr (A_24_o 47 (by decide))]; exact ⟨rfl, rfl⟩)
      have RF_23A_24 : RVm F_23 A_24 48 k := v_22_p
      have l_28 : (0 : Int32).toInt = 0 := by decide
      refine ok_cond (fun c_29 => ?_) (fun c_29 => ?_)
      · rw [i_lt] at c_29
        unfold d_bestOfTwo_106
        unfold d_bestOfTwo_118
        have l_30 : (1 : Int32).toInt = 1 := by decide
        have e_31 := i_add (x := x8) (y := 1) (by omega) (by omega)
        exact ih hF_23 hA_24 (fun q hq => (((((F_23_o q hq).trans (F_17_o q (fun e => hq ((by decide : ∀ x, x ∈ ([] : List Nat) → x ∈ ([63] : List Nat)) q e)))).trans (F_11_o q (fun e => hq ((by decide : ∀ x, x ∈ ([] : List Nat) → x ∈ ([63] : List Nat)) q e)))).trans (F_4_o q (fun e => hq ((by decide : ∀ x, x ∈ ([] : List Nat) → x ∈ ([63] : List Nat)) q e)))).trans (bF q hq))) (fun q hq => (((((A_24_o q hq).trans (A_18_o q (fun e => hq ((by decide : ∀ x, x ∈ ([48] : List Nat) → x ∈ ([45, 46, 48, 49, 50, 51, 52, 53, 54, 55, 56] : List Nat)) q e)))).trans (A_12_o q (fun e => hq ((by decide : ∀ x, x ∈ ([48] : List Nat) → x ∈ ([45, 46, 48, 49, 50, 51, 52, 53, 54, 55, 56] : List Nat)) q e)))).trans (A_5_o q (fun e => hq ((by decide : ∀ x, x ∈ ([48] : List Nat) → x ∈ ([45, 46, 48, 49, 50, 51, 52, 53, 54, 55, 56] : List Nat)) q e)))).trans (bA q hq))) (by omega) (by omega)
      · rw [i_nlt] at c_29
        refine ok_cond (fun c_32 => ?_) (fun c_32 => ?_)
        · rw [i_gt] at c_32
          unfold d_bestOfTwo_106
          unfold d_bestOfTwo_118
          have l_33 : (1 : Int32).toInt = 1 := by decide
          have e_34 := i_add (x := x8) (y := 1) (by omega) (by omega)
          exact ih hF_23 hA_24 (fun q hq => (((((F_23_o q hq).trans (F_17_o q (fun e => hq ((by decide : ∀ x, x ∈ ([] : List Nat) → x ∈ ([63] : List Nat)) q e)))).trans (F_11_o q (fun e => hq ((by decide : ∀ x, x ∈ ([] : List Nat) → x ∈ ([63] : List Nat)) q e)))).trans (F_4_o q (fun e => hq ((by decide : ∀ x, x ∈ ([] : List Nat) → x ∈ ([63] : List Nat)) q e)))).trans (bF q hq))) (fun q hq => (((((A_24_o q hq).trans (A_18_o q (fun e => hq ((by decide : ∀ x, x ∈ ([48] : List Nat) → x ∈ ([45, 46, 48, 49, 50, 51, 52, 53, 54, 55, 56] : List Nat)) q e)))).trans (A_12_o q (fun e => hq ((by decide : ∀ x, x ∈ ([48] : List Nat) → x ∈ ([45, 46, 48, 49, 50, 51, 52, 53, 54, 55, 56] : List Nat)) q e)))).trans (A_5_o q (fun e => hq ((by decide : ∀ x, x ∈ ([48] : List Nat) → x ∈ ([45, 46, 48, 49, 50, 51, 52, 53, 54, 55, 56] : List Nat)) q e)))).trans (bA q hq))) (by omega) (by omega)
        · rw [i_ngt] at c_32
          unfold d_bestOfTwo_118
          have l_35 : (1 : Int32).toInt = 1 := by decide
          have e_36 := i_add (x := x8) (y := 1) (by omega) (by omega)
          exact ih hF_23 hA_24 (fun q hq => (((((F_23_o q hq).trans (F_17_o q (fun e => hq ((by decide : ∀ x, x ∈ ([] : List Nat) → x ∈ ([63] : List Nat)) q e)))).trans (F_11_o q (fun e => hq ((by decide : ∀ x, x ∈ ([] : List Nat) → x ∈ ([63] : List Nat)) q e)))).trans (F_4_o q (fun e => hq ((by decide : ∀ x, x ∈ ([] : List Nat) → x ∈ ([63] : List Nat)) q e)))).trans (bF q hq))) (fun q hq => (((((A_24_o q hq).trans (A_18_o q (fun e => hq ((by decide : ∀ x, x ∈ ([48] : List Nat) → x ∈ ([45, 46, 48, 49, 50, 51, 52, 53, 54, 55, 56] : List Nat)) q e)))).trans (A_12_o q (fun e => hq ((by decide : ∀ x, x ∈ ([48] : List Nat) → x ∈ ([45, 46, 48, 49, 50, 51, 52, 53, 54, 55, 56] : List Nat)) q e)))).trans (A_5_o q (fun e => hq ((by decide : ∀ x, x ∈ ([48] : List Nat) → x ∈ ([45, 46, 48, 49, 50, 51, 52, 53, 54, 55, 56] : List Nat)) q e)))).trans (bA q hq))) (by omega) (by omega)
set_option maxRecDepth 10000 in
theorem s_d_bestOfTwo_44  {n : Nat} {F0 : Nat → Int32} {A0 : Nat → Nat → Int32} {k : Int} {F : Nat → Int32} {A : Nat → Nat → Int32} {J : Nat → Nat → Int64} {x1 : Int32} {x2 : Int32} {x3 : Int32} {x4 : Int32} {x5 : Int32} {x6 : Int32} {x7 : Int32} (hF : IFm F) (hA : IAm A) (bF : ∀ q, q ∉ ([63] : List Nat) → F q = F0 q) (bA : ∀ q, q ∉ ([45, 46, 48, 49, 50, 51, 52, 53, 54, 55, 56] : List Nat) → A q = A0 q) (hk : k ≤ 6) (hV : VMs F0 A0) (hM : k = ai A0 29 (F0 18).toInt) (hP : RVm F0 A0 47 k) (hk0 : 0 ≤ k) (hx1 : 0 ≤ x1.toInt ∧ x1.toInt < k) (hx2 : 0 ≤ x2.toInt ∧ x2.toInt < k) (rx7 : 0 ≤ x7.toInt ∧ x7.toInt ≤ 40) (hn : 10900 - x7.toInt < (n : Int)) : ok (d_bestOfTwo_44 n F A J x1 x2 x3 x4 x5 x6 x7) (fun r => IFm r.2.1 ∧ IAm r.2.2.1 ∧ (∀ q, q ∉ ([63] : List Nat) → r.2.1 q = F0 q) ∧ (∀ q, q ∉ ([45, 46, 48, 49, 50, 51, 52, 53, 54, 55, 56] : List Nat) → r.2.2.1 q = A0 q) ∧ True) := by
  induction n generalizing F A J x4 x5 x6 x7 with
  | zero => exact absurd hn (by omega)
  | succ n ih =>
    have r18 : 0 ≤ (F 18).toInt ∧ (F 18).toInt ≤ 1 := hF 18
    have VFA : VMs F A := hV.fr (bF 18 (by decide)) (fun q h1 h2 => bA q (by intro e; simp at e <;> omega))
    have MFA : k = ai A 29 (F 18).toInt := by rw [ai_fr (bA 29 (by decide)), bF 18 (by decide)]; exact hM
    have PFA : RVm F A 47 k := hP.cg (bF 18 (by decide)) (bA 19 (by decide)) (bA 22 (by decide)) (fun m _ _ => by rw [ai_fr (bA 47 (by decide))]; exact ⟨rfl, rfl⟩)
    unfold d_bestOfTwo_44
    refine ok_call (s_d_options hF hA (by omega)) ?_
    intro v_1 v_1_p
    have v_1_p : 1 ≤ v_1.toInt ∧ v_1.toInt ≤ 37 := v_1_p
    refine ok_cond (fun c_2 => ?_) (fun c_2 => ?_)
    · rw [i_ge] at c_2
      have l_3 : (0 : Int32).toInt = 0 := by decide
      refine ok_cond (fun c_4 => ?_) (fun c_4 => ?_)
      · rw [i_ne] at c_4
        have l_5 : (1 : Int32).toInt = 1 := by decide
        refine ok_cond (fun c_6 => ?_) (fun c_6 => ?_)
        · rw [i_ne] at c_6
          refine ok_call (s_d_codeOf hF hA (by omega) (by omega) (by omega)) ?_
          rintro ⟨v_7, F_8, A_9, J_10⟩ ⟨hF_8, hA_9, F_8_o, A_9_o, v_7_p⟩
          dsimp only at hF_8 hA_9 F_8_o A_9_o v_7_p ⊢
          have r_11 : 0 ≤ (F_8 18).toInt ∧ (F_8 18).toInt ≤ 1 := hF_8 18
          have r_12 : 0 ≤ (F 18).toInt ∧ (F 18).toInt ≤ 1 := hF 18
          have f_13 : (F_8 18).toInt = (F 18).toInt := congrArg Int32.toInt (F_8_o 18 (by decide))
          have VF_8A_9 : VMs F_8 A_9 := VFA.fr (F_8_o 18 (by decide)) (fun q h1 h2 => A_9_o q (by intro e; simp at e <;> omega))
          have MF_8A_9 : k = ai A_9 29 (F_8 18).toInt := by rw [ai_fr (A_9_o 29 (by decide)), F_8_o 18 (by decide)] <;> exact MFA
          have PF_8A_9 : RVm F_8 A_9 47 k := PFA.cg (F_8_o 18 (by decide)) (A_9_o 19 (by decide)) (A_9_o 22 (by decide)) (fun m _ _ => by rw [ai_fr (A_9_o 47 (by decide))]; exact ⟨rfl, rfl⟩)
          refine ok_some ?_
          refine ⟨hF_8, hA_9, (fun q hq => ((F_8_o q (fun e => hq ((by decide : ∀ x, x ∈ ([] : List Nat) → x ∈ ([63] : List Nat)) q e))).trans (bF q hq))), (fun q hq => ((A_9_o q (fun e => hq ((by decide : ∀ x, x ∈ ([48] : List Nat) → x ∈ ([45, 46, 48, 49, 50, 51, 52, 53, 54, 55, 56] : List Nat)) q e))).trans (bA q hq))), ?_⟩
          (first | trivial | omega | exact ⟨by omega, by omega⟩ | assumption)
        · rw [i_nne] at c_6
          refine ok_call (s_d_codeOf hF hA (by omega) (by omega) (by omega)) ?_
          rintro ⟨v_14, F_15, A_16, J_17⟩ ⟨hF_15, hA_16, F_15_o, A_16_o, v_14_p⟩
          dsimp only at hF_15 hA_16 F_15_o A_16_o v_14_p ⊢
          have r_18 : 0 ≤ (F_15 18).toInt ∧ (F_15 18).toInt ≤ 1 := hF_15 18
          have r_19 : 0 ≤ (F 18).toInt ∧ (F 18).toInt ≤ 1 := hF 18
          have f_20 : (F_15 18).toInt = (F 18).toInt := congrArg Int32.toInt (F_15_o 18 (by decide))
          have VF_15A_16 : VMs F_15 A_16 := VFA.fr (F_15_o 18 (by decide)) (fun q h1 h2 => A_16_o q (by intro e; simp at e <;> omega))
          have MF_15A_16 : k = ai A_16 29 (F_15 18).toInt := by rw [ai_fr (A_16_o 29 (by decide)), F_15_o 18 (by decide)] <;> exact MFA
          have PF_15A_16 : RVm F_15 A_16 47 k := PFA.cg (F_15_o 18 (by decide)) (A_16_o 19 (by decide)) (A_16_o 22 (by decide)) (fun m _ _ => by rw [ai_fr (A_16_o 47 (by decide))]; exact ⟨rfl, rfl⟩)
          refine ok_some ?_
          refine ⟨hF_15, hA_16, (fun q hq => ((F_15_o q (fun e => hq ((by decide : ∀ x, x ∈ ([] : List Nat) → x ∈ ([63] : List Nat)) q e))).trans (bF q hq))), (fun q hq => ((A_16_o q (fun e => hq ((by decide : ∀ x, x ∈ ([48] : List Nat) → x ∈ ([45, 46, 48, 49, 50, 51, 52, 53, 54, 55, 56] : List Nat)) q e))).trans (bA q hq))), ?_⟩
          (first | trivial | omega | exact ⟨by omega, by omega⟩ | assumption)
      · rw [i_nne] at c_4
        refine ok_some ?_
        refine ⟨hF, hA, (fun q hq => (bF q hq)), (fun q hq => (bA q hq)), ?_⟩
        (first | trivial | omega | exact ⟨by omega, by omega⟩ | assumption)
    · rw [i_nge] at c_2
      have l_21 : (0 : Int32).toInt = 0 := by decide
      have l_22 : (1 : Int32).toInt = 1 := by decide
      have e_23 := i_add (x := x7) (y := 1) (by omega) (by omega)
      exact s_d_bestOfTwo_56 (K44 := (d_bestOfTwo_44 n)) hF hA (fun q hq => (bF q hq)) (fun q hq => (bA q hq)) (by omega) (hV) (hM) (hP) (by omega) (by omega) (by omega) (by omega) (by omega) (fun F A J x4 x5 x6 hF hA bF bA => ih hF hA bF bA (by omega) (by omega)) (by omega)
set_option maxRecDepth 10000 in
theorem s_d_bestOfTwo {n : Nat} {k : Int} {F : Nat → Int32} {A : Nat → Nat → Int32} {J : Nat → Nat → Int64} {x1 : Int32} {x2 : Int32} {x3 : Int32} (hF : IFm F) (hA : IAm A) (hn : 11000 ≤ n) (hk : k ≤ 6) (hk0 : 0 ≤ k) (VFA : VMs F A) (MFA : k = ai A 29 (F 18).toInt) (PFA : RVm F A 47 k) : ok (d_bestOfTwo n F A J x1 x2 x3) (fun r => IFm r.2.1 ∧ IAm r.2.2.1 ∧ (∀ q, q ∉ ([63] : List Nat) → r.2.1 q = F q) ∧ (∀ q, q ∉ ([45, 46, 48, 49, 50, 51, 52, 53, 54, 55, 56] : List Nat) → r.2.2.1 q = A q) ∧ True) := by
  have r18 : 0 ≤ (F 18).toInt ∧ (F 18).toInt ≤ 1 := hF 18
  unfold d_bestOfTwo
  refine ok_call (s_d_isMan hF hA) ?_
  intro v_1 v_1_p
  have v_1_p : (v_1.toInt = 0 ∨ (v_1.toInt = 1 ∧ 0 ≤ x1.toInt ∧ x1.toInt < ai A 29 (F 18).toInt ∧ x1.toInt < 6)) := v_1_p
  have l_2 : (0 : Int32).toInt = 0 := by decide
  refine ok_cond (fun c_3 => ?_) (fun c_3 => ?_)
  · rw [i_eq] at c_3
    refine ok_some ?_
    refine ⟨hF, hA, (fun q hq => rfl), (fun q hq => rfl), ?_⟩
    (first | trivial | omega | exact ⟨by omega, by omega⟩ | assumption)
  · rw [i_neq] at c_3
    refine ok_call (s_d_isMan hF hA) ?_
    intro v_4 v_4_p
    have v_4_p : (v_4.toInt = 0 ∨ (v_4.toInt = 1 ∧ 0 ≤ x2.toInt ∧ x2.toInt < ai A 29 (F 18).toInt ∧ x2.toInt < 6)) := v_4_p
    refine ok_cond (fun c_5 => ?_) (fun c_5 => ?_)
    · rw [i_eq] at c_5
      refine ok_some ?_
      refine ⟨hF, hA, (fun q hq => rfl), (fun q hq => rfl), ?_⟩
      (first | trivial | omega | exact ⟨by omega, by omega⟩ | assumption)
    · rw [i_neq] at c_5
      refine ok_cond (fun c_6 => ?_) (fun c_6 => ?_)
      · rw [i_eq] at c_6
        refine ok_some ?_
        refine ⟨hF, hA, (fun q hq => rfl), (fun q hq => rfl), ?_⟩
        (first | trivial | omega | exact ⟨by omega, by omega⟩ | assumption)
      · rw [i_neq] at c_6
        have l_7 : (2 : Int32).toInt = 2 := by decide
        refine ok_call (s_d_in ) ?_
        intro v_8 v_8_p
        have v_8_p : v_8.toInt = (if (0 : Int32).toInt ≤ x3.toInt ∧ x3.toInt ≤ (2 : Int32).toInt then 1 else 0) := v_8_p
        refine ok_cond (fun c_9 => ?_) (fun c_9 => ?_)
        · rw [i_ne] at c_9
          refine ok_mono (s_d_bestOfTwo_44 hF hA (fun q hq => rfl) (fun q hq => rfl) (by omega) (VFA) (MFA) (PFA) (by omega) (by omega) (by omega) (by omega) (by omega)) ?_
          rintro ⟨v_10, F_11, A_12, J_13⟩ ⟨hF_11, hA_12, F_11_o, A_12_o, v_10_p⟩
          dsimp only at hF_11 hA_12 F_11_o A_12_o v_10_p ⊢
          refine ⟨hF_11, hA_12, (fun q hq => (F_11_o q hq)), (fun q hq => (A_12_o q hq)), ?_⟩
          (first | trivial | omega | exact ⟨by omega, by omega⟩ | assumption)
        · rw [i_nne] at c_9
          refine ok_some ?_
          refine ⟨hF, hA, (fun q hq => rfl), (fun q hq => rfl), ?_⟩
          (first | trivial | omega | exact ⟨by omega, by omega⟩ | assumption)
set_option maxRecDepth 10000 in
theorem s_d_hide_39  {n : Nat} {k : Int} {F : Nat → Int32} {A : Nat → Nat → Int32} {J : Nat → Nat → Int64} {x1 : Int32} {x2 : Int32} {x3 : Int32} {x4 : Int32} {x5 : Int32} (hF : IFm F) (hA : IAm A) (hk : k ≤ 6) (hk0 : 0 ≤ k) (VFA : VMs F A) (MFA : k = ai A 29 (F 18).toInt) (PFA : RVm F A 47 k) (rx1 : 0 ≤ x1.toInt ∧ x1.toInt ≤ 5) (rx5 : 0 ≤ x5.toInt ∧ x5.toInt ≤ 20) (hn : 10800 - x5.toInt < (n : Int)) : ok (d_hide_39 n F A J x1 x2 x3 x4 x5) (fun r => IFm r.2.1 ∧ IAm r.2.2.1 ∧ (∀ q, q ∉ ([63] : List Nat) → r.2.1 q = F q) ∧ (∀ q, q ∉ ([45, 46, 48, 49, 50, 51, 52, 53, 54, 55, 56] : List Nat) → r.2.2.1 q = A q) ∧ True) := by
  induction n generalizing F A J x3 x4 x5 with
  | zero => exact absurd hn (by omega)
  | succ n ih =>
    have r18 : 0 ≤ (F 18).toInt ∧ (F 18).toInt ≤ 1 := hF 18
    unfold d_hide_39
    have r_1 : 0 ≤ (F 18).toInt ∧ (F 18).toInt ≤ 1 := hF 18
    refine ok_ld (j := 11) hA (by omega) (by omega) ?_
    intro v_2 v_2_e v_2_r
    have v_2_r : 0 ≤ v_2.toInt ∧ v_2.toInt ≤ 8 := v_2_r
    refine ok_call (s_d_menNow hF hA) ?_
    intro v_3 v_3_p
    have v_3_p : v_3.toInt = ai A 29 (F 18).toInt ∧ 0 ≤ v_3.toInt ∧ v_3.toInt ≤ 6 := v_3_p
    have e_4 := i_add (x := v_2) (y := v_3) (by omega) (by omega)
    refine ok_cond (fun c_5 => ?_) (fun c_5 => ?_)
    · rw [i_ge] at c_5
      have l_6 : (0 : Int32).toInt = 0 := by decide
      refine ok_cond (fun c_7 => ?_) (fun c_7 => ?_)
      · rw [i_ne] at c_7
        refine ok_some ?_
        refine ⟨hF, hA, (fun q hq => rfl), (fun q hq => rfl), ?_⟩
        (first | trivial | omega | exact ⟨by omega, by omega⟩ | assumption)
      · rw [i_nne] at c_7
        refine ok_some ?_
        refine ⟨hF, hA, (fun q hq => rfl), (fun q hq => rfl), ?_⟩
        (first | trivial | omega | exact ⟨by omega, by omega⟩ | assumption)
    · rw [i_nge] at c_5
      refine ok_ld (j := 11) hA (by omega) (by omega) ?_
      intro v_8 v_8_e v_8_r
      have v_8_r : 0 ≤ v_8.toInt ∧ v_8.toInt ≤ 8 := v_8_r
      refine ok_cond (fun c_9 => ?_) (fun c_9 => ?_)
      · rw [i_ge] at c_9
        refine ok_ld (j := 11) hA (by omega) (by omega) ?_
        intro v_10 v_10_e v_10_r
        have v_10_r : 0 ≤ v_10.toInt ∧ v_10.toInt ≤ 8 := v_10_r
        unfold d_hide_92
        refine ok_call (s2_d_takes hF hA (by omega) (by omega) (PFA)) ?_
        rintro ⟨u_11, F_12, A_13, J_14⟩ ⟨hF_12, hA_13, F_12_o, A_13_o, u_11_p⟩
        dsimp only at hF_12 hA_13 F_12_o A_13_o u_11_p ⊢
        have u_11_p : RVm F_12 A_13 48 k := u_11_p
        have r_15 : 0 ≤ (F_12 18).toInt ∧ (F_12 18).toInt ≤ 1 := hF_12 18
        have f_16 : (F_12 18).toInt = (F 18).toInt := congrArg Int32.toInt (F_12_o 18 (by decide))
        have VF_12A_13 : VMs F_12 A_13 := VFA.fr (F_12_o 18 (by decide)) (fun q h1 h2 => A_13_o q (by intro e; simp at e <;> omega))
        have MF_12A_13 : k = ai A_13 29 (F_12 18).toInt := by rw [ai_fr (A_13_o 29 (by decide)), F_12_o 18 (by decide)] <;> exact MFA
        have PF_12A_13 : RVm F_12 A_13 47 k := PFA.cg (F_12_o 18 (by decide)) (A_13_o 19 (by decide)) (A_13_o 22 (by decide)) (fun m _ _ => by rw [ai_fr (A_13_o 47 (by decide))]; exact ⟨rfl, rfl⟩)
        have RF_12A_13 : RVm F_12 A_13 48 k := u_11_p
        have l_17 : (72 : Int32).toInt = 72 := by decide
        have e_18 := i_add (x := 72) (y := x1) (by omega) (by omega)
        refine ok_st (j := 48) hA_13 (by omega) (by omega) (trivial) ?_
        intro A_19 hA_19 A_19_o A_19_s A_19_n
        have VF_12A_19 : VMs F_12 A_19 := VF_12A_13.fr rfl (fun q h1 h2 => A_19_o q (by omega))
        have MF_12A_19 : k = ai A_19 29 (F_12 18).toInt := by rw [ai_fr (A_19_o 29 (by decide))] <;> exact MF_12A_13
        have PF_12A_19 : RVm F_12 A_19 47 k := PF_12A_13.sto A_19_o (by decide) (by decide)
        have RF_12A_19 : RVm F_12 A_19 48 k := RF_12A_13.st (by decide) A_19_o A_19_n (by omega) hk
        refine ok_call (s_d_wholeNight hF_12 hA_19 (by omega) (by omega) (by omega) (VF_12A_19) (MF_12A_19) (RF_12A_19)) ?_
        rintro ⟨v_20, F_21, A_22, J_23⟩ ⟨hF_21, hA_22, F_21_o, A_22_o, v_20_p⟩
        dsimp only at hF_21 hA_22 F_21_o A_22_o v_20_p ⊢
        have v_20_p : RVm F_21 A_22 48 k := v_20_p
        have r_24 : 0 ≤ (F_21 18).toInt ∧ (F_21 18).toInt ≤ 1 := hF_21 18
        have f_25 : (F_21 18).toInt = (F_12 18).toInt := congrArg Int32.toInt (F_21_o 18 (by decide))
        have VF_21A_22 : VMs F_21 A_22 := VF_12A_19.fr (F_21_o 18 (by decide)) (fun q h1 h2 => A_22_o q (by intro e; simp at e <;> omega))
        have MF_21A_22 : k = ai A_22 29 (F_21 18).toInt := by rw [ai_fr (A_22_o 29 (by decide)), F_21_o 18 (by decide)] <;> exact MF_12A_19
        have PF_21A_22 : RVm F_21 A_22 47 k := PF_12A_19.cg (F_21_o 18 (by decide)) (A_22_o 19 (by decide)) (A_22_o 22 (by decide)) (fun m _ _ => by rw [ai_fr (A_22_o 47 (by decide))]; exact ⟨rfl, rfl⟩)
        have RF_21A_22 : RVm F_21 A_22 48 k := v_20_p
        have l_26 : (0 : Int32).toInt = 0 := by decide
        refine ok_cond (fun c_27 => ?_) (fun c_27 => ?_)
        · rw [i_lt] at c_27
          unfold d_hide_129
          unfold d_hide_136
          have l_28 : (1 : Int32).toInt = 1 := by decide
          have e_29 := i_add (x := x5) (y := 1) (by omega) (by omega)
          refine ok_mono (ih hF_21 hA_22 (VF_21A_22) (MF_21A_22) (PF_21A_22) (by omega) (by omega)) ?_
          rintro ⟨v_30, F_31, A_32, J_33⟩ ⟨hF_31, hA_32, F_31_o, A_32_o, v_30_p⟩
          dsimp only at hF_31 hA_32 F_31_o A_32_o v_30_p ⊢
          have VF_31A_32 : VMs F_31 A_32 := VF_21A_22.fr (F_31_o 18 (by decide)) (fun q h1 h2 => A_32_o q (by intro e; simp at e <;> omega))
          have MF_31A_32 : k = ai A_32 29 (F_31 18).toInt := by rw [ai_fr (A_32_o 29 (by decide)), F_31_o 18 (by decide)] <;> exact MF_21A_22
          have PF_31A_32 : RVm F_31 A_32 47 k := PF_21A_22.cg (F_31_o 18 (by decide)) (A_32_o 19 (by decide)) (A_32_o 22 (by decide)) (fun m _ _ => by rw [ai_fr (A_32_o 47 (by decide))]; exact ⟨rfl, rfl⟩)
          refine ⟨hF_31, hA_32, (fun q hq => (((F_31_o q hq).trans (F_21_o q hq)).trans (F_12_o q (fun e => hq ((by decide : ∀ x, x ∈ ([] : List Nat) → x ∈ ([63] : List Nat)) q e))))), (fun q hq => ((((A_32_o q hq).trans (A_22_o q hq)).trans (A_19_o q (fun e => hq (by rw [e]; decide)))).trans (A_13_o q (fun e => hq ((by decide : ∀ x, x ∈ ([48] : List Nat) → x ∈ ([45, 46, 48, 49, 50, 51, 52, 53, 54, 55, 56] : List Nat)) q e))))), ?_⟩
          (first | trivial | omega | exact ⟨by omega, by omega⟩ | assumption)
        · rw [i_nlt] at c_27
          refine ok_cond (fun c_34 => ?_) (fun c_34 => ?_)
          · rw [i_gt] at c_34
            unfold d_hide_129
            unfold d_hide_136
            have l_35 : (1 : Int32).toInt = 1 := by decide
            have e_36 := i_add (x := x5) (y := 1) (by omega) (by omega)
            refine ok_mono (ih hF_21 hA_22 (VF_21A_22) (MF_21A_22) (PF_21A_22) (by omega) (by omega)) ?_
            rintro ⟨v_37, F_38, A_39, J_40⟩ ⟨hF_38, hA_39, F_38_o, A_39_o, v_37_p⟩
            dsimp only at hF_38 hA_39 F_38_o A_39_o v_37_p ⊢
            have VF_38A_39 : VMs F_38 A_39 := VF_21A_22.fr (F_38_o 18 (by decide)) (fun q h1 h2 => A_39_o q (by intro e; simp at e <;> omega))
            have MF_38A_39 : k = ai A_39 29 (F_38 18).toInt := by rw [ai_fr (A_39_o 29 (by decide)), F_38_o 18 (by decide)] <;> exact MF_21A_22
            have PF_38A_39 : RVm F_38 A_39 47 k := PF_21A_22.cg (F_38_o 18 (by decide)) (A_39_o 19 (by decide)) (A_39_o 22 (by decide)) (fun m _ _ => by rw [ai_fr (A_39_o 47 (by decide))]; exact ⟨rfl, rfl⟩)
            refine ⟨hF_38, hA_39, (fun q hq => (((F_38_o q hq).trans (F_21_o q hq)).trans (F_12_o q (fun e => hq ((by decide : ∀ x, x ∈ ([] : List Nat) → x ∈ ([63] : List Nat)) q e))))), (fun q hq => ((((A_39_o q hq).trans (A_22_o q hq)).trans (A_19_o q (fun e => hq (by rw [e]; decide)))).trans (A_13_o q (fun e => hq ((by decide : ∀ x, x ∈ ([48] : List Nat) → x ∈ ([45, 46, 48, 49, 50, 51, 52, 53, 54, 55, 56] : List Nat)) q e))))), ?_⟩
            (first | trivial | omega | exact ⟨by omega, by omega⟩ | assumption)
          · rw [i_ngt] at c_34
            unfold d_hide_136
            have l_41 : (1 : Int32).toInt = 1 := by decide
            have e_42 := i_add (x := x5) (y := 1) (by omega) (by omega)
            refine ok_mono (ih hF_21 hA_22 (VF_21A_22) (MF_21A_22) (PF_21A_22) (by omega) (by omega)) ?_
            rintro ⟨v_43, F_44, A_45, J_46⟩ ⟨hF_44, hA_45, F_44_o, A_45_o, v_43_p⟩
            dsimp only at hF_44 hA_45 F_44_o A_45_o v_43_p ⊢
            have VF_44A_45 : VMs F_44 A_45 := VF_21A_22.fr (F_44_o 18 (by decide)) (fun q h1 h2 => A_45_o q (by intro e; simp at e <;> omega))
            have MF_44A_45 : k = ai A_45 29 (F_44 18).toInt := by rw [ai_fr (A_45_o 29 (by decide)), F_44_o 18 (by decide)] <;> exact MF_21A_22
            have PF_44A_45 : RVm F_44 A_45 47 k := PF_21A_22.cg (F_44_o 18 (by decide)) (A_45_o 19 (by decide)) (A_45_o 22 (by decide)) (fun m _ _ => by rw [ai_fr (A_45_o 47 (by decide))]; exact ⟨rfl, rfl⟩)
            refine ⟨hF_44, hA_45, (fun q hq => (((F_44_o q hq).trans (F_21_o q hq)).trans (F_12_o q (fun e => hq ((by decide : ∀ x, x ∈ ([] : List Nat) → x ∈ ([63] : List Nat)) q e))))), (fun q hq => ((((A_45_o q hq).trans (A_22_o q hq)).trans (A_19_o q (fun e => hq (by rw [e]; decide)))).trans (A_13_o q (fun e => hq ((by decide : ∀ x, x ∈ ([48] : List Nat) → x ∈ ([45, 46, 48, 49, 50, 51, 52, 53, 54, 55, 56] : List Nat)) q e))))), ?_⟩
            (first | trivial | omega | exact ⟨by omega, by omega⟩ | assumption)
      · rw [i_nge] at c_9
        unfold d_hide_92
        refine ok_call (s2_d_takes hF hA (by omega) (by omega) (PFA)) ?_
        rintro ⟨u_47, F_48, A_49, J_50⟩ ⟨hF_48, hA_49, F_48_o, A_49_o, u_47_p⟩
        dsimp only at hF_48 hA_49 F_48_o A_49_o u_47_p ⊢
        have u_47_p : RVm F_48 A_49 48 k := u_47_p
        have r_51 : 0 ≤ (F_48 18).toInt ∧ (F_48 18).toInt ≤ 1 := hF_48 18
        have f_52 : (F_48 18).toInt = (F 18).toInt := congrArg Int32.toInt (F_48_o 18 (by decide))
        have VF_48A_49 : VMs F_48 A_49 := VFA.fr (F_48_o 18 (by decide)) (fun q h1 h2 => A_49_o q (by intro e; simp at e <;> omega))
        have MF_48A_49 : k = ai A_49 29 (F_48 18).toInt := by rw [ai_fr (A_49_o 29 (by decide)), F_48_o 18 (by decide)] <;> exact MFA
        have PF_48A_49 : RVm F_48 A_49 47 k := PFA.cg (F_48_o 18 (by decide)) (A_49_o 19 (by decide)) (A_49_o 22 (by decide)) (fun m _ _ => by rw [ai_fr (A_49_o 47 (by decide))]; exact ⟨rfl, rfl⟩)
        have RF_48A_49 : RVm F_48 A_49 48 k := u_47_p
        have l_53 : (72 : Int32).toInt = 72 := by decide
        have e_54 := i_add (x := 72) (y := x1) (by omega) (by omega)
        refine ok_st (j := 48) hA_49 (by omega) (by omega) (trivial) ?_
        intro A_55 hA_55 A_55_o A_55_s A_55_n
        have VF_48A_55 : VMs F_48 A_55 := VF_48A_49.fr rfl (fun q h1 h2 => A_55_o q (by omega))
        have MF_48A_55 : k = ai A_55 29 (F_48 18).toInt := by rw [ai_fr (A_55_o 29 (by decide))] <;> exact MF_48A_49
        have PF_48A_55 : RVm F_48 A_55 47 k := PF_48A_49.sto A_55_o (by decide) (by decide)
        have RF_48A_55 : RVm F_48 A_55 48 k := RF_48A_49.st (by decide) A_55_o A_55_n (by omega) hk
        refine ok_call (s_d_wholeNight hF_48 hA_55 (by omega) (by omega) (by omega) (VF_48A_55) (MF_48A_55) (RF_48A_55)) ?_
        rintro ⟨v_56, F_57, A_58, J_59⟩ ⟨hF_57, hA_58, F_57_o, A_58_o, v_56_p⟩
        dsimp only at hF_57 hA_58 F_57_o A_58_o v_56_p ⊢
        have v_56_p : RVm F_57 A_58 48 k := v_56_p
        have r_60 : 0 ≤ (F_57 18).toInt ∧ (F_57 18).toInt ≤ 1 := hF_57 18
        have f_61 : (F_57 18).toInt = (F_48 18).toInt := congrArg Int32.toInt (F_57_o 18 (by decide))
        have VF_57A_58 : VMs F_57 A_58 := VF_48A_55.fr (F_57_o 18 (by decide)) (fun q h1 h2 => A_58_o q (by intro e; simp at e <;> omega))
        have MF_57A_58 : k = ai A_58 29 (F_57 18).toInt := by rw [ai_fr (A_58_o 29 (by decide)), F_57_o 18 (by decide)] <;> exact MF_48A_55
        have PF_57A_58 : RVm F_57 A_58 47 k := PF_48A_55.cg (F_57_o 18 (by decide)) (A_58_o 19 (by decide)) (A_58_o 22 (by decide)) (fun m _ _ => by rw [ai_fr (A_58_o 47 (by decide))]; exact ⟨rfl, rfl⟩)
        have RF_57A_58 : RVm F_57 A_58 48 k := v_56_p
        have l_62 : (0 : Int32).toInt = 0 := by decide
        refine ok_cond (fun c_63 => ?_) (fun c_63 => ?_)
        · rw [i_lt] at c_63
          unfold d_hide_129
          unfold d_hide_136
          have l_64 : (1 : Int32).toInt = 1 := by decide
          have e_65 := i_add (x := x5) (y := 1) (by omega) (by omega)
          refine ok_mono (ih hF_57 hA_58 (VF_57A_58) (MF_57A_58) (PF_57A_58) (by omega) (by omega)) ?_
          rintro ⟨v_66, F_67, A_68, J_69⟩ ⟨hF_67, hA_68, F_67_o, A_68_o, v_66_p⟩
          dsimp only at hF_67 hA_68 F_67_o A_68_o v_66_p ⊢
          have VF_67A_68 : VMs F_67 A_68 := VF_57A_58.fr (F_67_o 18 (by decide)) (fun q h1 h2 => A_68_o q (by intro e; simp at e <;> omega))
          have MF_67A_68 : k = ai A_68 29 (F_67 18).toInt := by rw [ai_fr (A_68_o 29 (by decide)), F_67_o 18 (by decide)] <;> exact MF_57A_58
          have PF_67A_68 : RVm F_67 A_68 47 k := PF_57A_58.cg (F_67_o 18 (by decide)) (A_68_o 19 (by decide)) (A_68_o 22 (by decide)) (fun m _ _ => by rw [ai_fr (A_68_o 47 (by decide))]; exact ⟨rfl, rfl⟩)
          refine ⟨hF_67, hA_68, (fun q hq => (((F_67_o q hq).trans (F_57_o q hq)).trans (F_48_o q (fun e => hq ((by decide : ∀ x, x ∈ ([] : List Nat) → x ∈ ([63] : List Nat)) q e))))), (fun q hq => ((((A_68_o q hq).trans (A_58_o q hq)).trans (A_55_o q (fun e => hq (by rw [e]; decide)))).trans (A_49_o q (fun e => hq ((by decide : ∀ x, x ∈ ([48] : List Nat) → x ∈ ([45, 46, 48, 49, 50, 51, 52, 53, 54, 55, 56] : List Nat)) q e))))), ?_⟩
          (first | trivial | omega | exact ⟨by omega, by omega⟩ | assumption)
        · rw [i_nlt] at c_63
          refine ok_cond (fun c_70 => ?_) (fun c_70 => ?_)
          · rw [i_gt] at c_70
            unfold d_hide_129
            unfold d_hide_136
            have l_71 : (1 : Int32).toInt = 1 := by decide
            have e_72 := i_add (x := x5) (y := 1) (by omega) (by omega)
            refine ok_mono (ih hF_57 hA_58 (VF_57A_58) (MF_57A_58) (PF_57A_58) (by omega) (by omega)) ?_
            rintro ⟨v_73, F_74, A_75, J_76⟩ ⟨hF_74, hA_75, F_74_o, A_75_o, v_73_p⟩
            dsimp only at hF_74 hA_75 F_74_o A_75_o v_73_p ⊢
            have VF_74A_75 : VMs F_74 A_75 := VF_57A_58.fr (F_74_o 18 (by decide)) (fun q h1 h2 => A_75_o q (by intro e; simp at e <;> omega))
            have MF_74A_75 : k = ai A_75 29 (F_74 18).toInt := by rw [ai_fr (A_75_o 29 (by decide)), F_74_o 18 (by decide)] <;> exact MF_57A_58
            have PF_74A_75 : RVm F_74 A_75 47 k := PF_57A_58.cg (F_74_o 18 (by decide)) (A_75_o 19 (by decide)) (A_75_o 22 (by decide)) (fun m _ _ => by rw [ai_fr (A_75_o 47 (by decide))]; exact ⟨rfl, rfl⟩)
            refine ⟨hF_74, hA_75, (fun q hq => (((F_74_o q hq).trans (F_57_o q hq)).trans (F_48_o q (fun e => hq ((by decide : ∀ x, x ∈ ([] : List Nat) → x ∈ ([63] : List Nat)) q e))))), (fun q hq => ((((A_75_o q hq).trans (A_58_o q hq)).trans (A_55_o q (fun e => hq (by rw [e]; decide)))).trans (A_49_o q (fun e => hq ((by decide : ∀ x, x ∈ ([48] : List Nat) → x ∈ ([45, 46, 48, 49, 50, 51, 52, 53, 54, 55, 56] : List Nat)) q e))))), ?_⟩
            (first | trivial | omega | exact ⟨by omega, by omega⟩ | assumption)
          · rw [i_ngt] at c_70
            unfold d_hide_136
            have l_77 : (1 : Int32).toInt = 1 := by decide
            have e_78 := i_add (x := x5) (y := 1) (by omega) (by omega)
            refine ok_mono (ih hF_57 hA_58 (VF_57A_58) (MF_57A_58) (PF_57A_58) (by omega) (by omega)) ?_
            rintro ⟨v_79, F_80, A_81, J_82⟩ ⟨hF_80, hA_81, F_80_o, A_81_o, v_79_p⟩
            dsimp only at hF_80 hA_81 F_80_o A_81_o v_79_p ⊢
            have VF_80A_81 : VMs F_80 A_81 := VF_57A_58.fr (F_80_o 18 (by decide)) (fun q h1 h2 => A_81_o q (by intro e; simp at e <;> omega))
            have MF_80A_81 : k = ai A_81 29 (F_80 18).toInt := by rw [ai_fr (A_81_o 29 (by decide)), F_80_o 18 (by decide)] <;> exact MF_57A_58
            have PF_80A_81 : RVm F_80 A_81 47 k := PF_57A_58.cg (F_80_o 18 (by decide)) (A_81_o 19 (by decide)) (A_81_o 22 (by decide)) (fun m _ _ => by rw [ai_fr (A_81_o 47 (by decide))]; exact ⟨rfl, rfl⟩)
            refine ⟨hF_80, hA_81, (fun q hq => (((F_80_o q hq).trans (F_57_o q hq)).trans (F_48_o q (fun e => hq ((by decide : ∀ x, x ∈ ([] : List Nat) → x ∈ ([63] : List Nat)) q e))))), (fun q hq => ((((A_81_o q hq).trans (A_58_o q hq)).trans (A_55_o q (fun e => hq (by rw [e]; decide)))).trans (A_49_o q (fun e => hq ((by decide : ∀ x, x ∈ ([48] : List Nat) → x ∈ ([45, 46, 48, 49, 50, 51, 52, 53, 54, 55, 56] : List Nat)) q e))))), ?_⟩
            (first | trivial | omega | exact ⟨by omega, by omega⟩ | assumption)
set_option maxRecDepth 10000 in
theorem s_d_hide {n : Nat} {k : Int} {F : Nat → Int32} {A : Nat → Nat → Int32} {J : Nat → Nat → Int64} {x1 : Int32} {x2 : Int32} (hF : IFm F) (hA : IAm A) (hn : 10900 ≤ n) (hk : k ≤ 6) (hk0 : 0 ≤ k) (VFA : VMs F A) (MFA : k = ai A 29 (F 18).toInt) (PFA : RVm F A 47 k) : ok (d_hide n F A J x1 x2) (fun r => IFm r.2.1 ∧ IAm r.2.2.1 ∧ (∀ q, q ∉ ([63] : List Nat) → r.2.1 q = F q) ∧ (∀ q, q ∉ ([45, 46, 48, 49, 50, 51, 52, 53, 54, 55, 56] : List Nat) → r.2.2.1 q = A q) ∧ True) := by
  have r18 : 0 ≤ (F 18).toInt ∧ (F 18).toInt ≤ 1 := hF 18
  unfold d_hide
  refine ok_call (s_d_isTool hF hA) ?_
  intro v_1 v_1_p
  have v_1_p : (v_1.toInt = 0 ∨ (v_1.toInt = 1 ∧ 0 ≤ x1.toInt ∧ x1.toInt < ai A 17 (F 18).toInt ∧ x1.toInt < 6)) := v_1_p
  have l_2 : (0 : Int32).toInt = 0 := by decide
  refine ok_cond (fun c_3 => ?_) (fun c_3 => ?_)
  · rw [i_eq] at c_3
    refine ok_some ?_
    refine ⟨hF, hA, (fun q hq => rfl), (fun q hq => rfl), ?_⟩
    (first | trivial | omega | exact ⟨by omega, by omega⟩ | assumption)
  · rw [i_neq] at c_3
    have l_4 : (1 : Int32).toInt = 1 := by decide
    refine ok_call (s_d_in ) ?_
    intro v_5 v_5_p
    have v_5_p : v_5.toInt = (if (0 : Int32).toInt ≤ x2.toInt ∧ x2.toInt ≤ (1 : Int32).toInt then 1 else 0) := v_5_p
    refine ok_cond (fun c_6 => ?_) (fun c_6 => ?_)
    · rw [i_eq] at c_6
      refine ok_some ?_
      refine ⟨hF, hA, (fun q hq => rfl), (fun q hq => rfl), ?_⟩
      (first | trivial | omega | exact ⟨by omega, by omega⟩ | assumption)
    · rw [i_neq] at c_6
      have r_7 : 0 ≤ (F 18).toInt ∧ (F 18).toInt ≤ 1 := hF 18
      refine ok_ld (j := 11) hA (by omega) (by omega) ?_
      intro v_8 v_8_e v_8_r
      have v_8_r : 0 ≤ v_8.toInt ∧ v_8.toInt ≤ 8 := v_8_r
      refine ok_cond (fun c_9 => ?_) (fun c_9 => ?_)
      · rw [i_ne] at c_9
        refine ok_mono (s_d_hide_39 hF hA (by omega) (by omega) (VFA) (MFA) (PFA) (by omega) (by omega) (by omega)) ?_
        rintro ⟨v_10, F_11, A_12, J_13⟩ ⟨hF_11, hA_12, F_11_o, A_12_o, v_10_p⟩
        dsimp only at hF_11 hA_12 F_11_o A_12_o v_10_p ⊢
        have VF_11A_12 : VMs F_11 A_12 := VFA.fr (F_11_o 18 (by decide)) (fun q h1 h2 => A_12_o q (by intro e; simp at e <;> omega))
        have MF_11A_12 : k = ai A_12 29 (F_11 18).toInt := by rw [ai_fr (A_12_o 29 (by decide)), F_11_o 18 (by decide)] <;> exact MFA
        have PF_11A_12 : RVm F_11 A_12 47 k := PFA.cg (F_11_o 18 (by decide)) (A_12_o 19 (by decide)) (A_12_o 22 (by decide)) (fun m _ _ => by rw [ai_fr (A_12_o 47 (by decide))]; exact ⟨rfl, rfl⟩)
        refine ⟨hF_11, hA_12, (fun q hq => (F_11_o q hq)), (fun q hq => (A_12_o q hq)), ?_⟩
        (first | trivial | omega | exact ⟨by omega, by omega⟩ | assumption)
      · rw [i_nne] at c_9
        refine ok_some ?_
        refine ⟨hF, hA, (fun q hq => rfl), (fun q hq => rfl), ?_⟩
        (first | trivial | omega | exact ⟨by omega, by omega⟩ | assumption)
set_option maxRecDepth 10000 in
theorem s_d_bits_4  {n : Nat} {F : Nat → Int32} {A : Nat → Nat → Int32} {J : Nat → Nat → Int64} {x0 : Int32} {x1 : Int32} {x2 : Int32} (rx2 : 0 ≤ x2.toInt ∧ x2.toInt ≤ 12) (hn : 12 - x2.toInt < (n : Int)) : ok (d_bits_4 n F A J x0 x1 x2) (fun v => True) := by
  induction n generalizing F A J x1 x2 with
  | zero => exact absurd hn (by omega)
  | succ n ih =>
    unfold d_bits_4
    have l_1 : (12 : Int32).toInt = 12 := by decide
    refine ok_cond (fun c_2 => ?_) (fun c_2 => ?_)
    · rw [i_ge] at c_2
      refine ok_some ?_
      (first | trivial | omega | exact ⟨by omega, by omega⟩ | assumption)
    · rw [i_nge] at c_2
      have l_3 : (1 : Int32).toInt = 1 := by decide
      have e_4 := i_add (x := x2) (y := 1) (by omega) (by omega)
      refine ok_mono (ih (by omega) (by omega)) ?_
      intro v_5 v_5_p
      (first | trivial | omega | exact ⟨by omega, by omega⟩ | assumption)
set_option maxRecDepth 10000 in
theorem s_d_bits {n : Nat} {F : Nat → Int32} {A : Nat → Nat → Int32} {J : Nat → Nat → Int64} {x0 : Int32} (hn : 20 ≤ n) : ok (d_bits n F A J x0) (fun v => True) := by
  unfold d_bits
  have l_1 : (0 : Int32).toInt = 0 := by decide
  refine ok_mono (s_d_bits_4 (by omega) (by omega)) ?_
  intro v_2 v_2_p
  (first | trivial | omega | exact ⟨by omega, by omega⟩ | assumption)
set_option maxRecDepth 10000 in
theorem s_d_bars_18  {n : Nat} {k : Int} {F : Nat → Int32} {A : Nat → Nat → Int32} {J : Nat → Nat → Int64} {x1 : Int32} {x2 : Int32} {x3 : Int32} {x4 : Int32} (hF : IFm F) (hA : IAm A) (hk : k ≤ 6) (hk0 : 0 ≤ k) (VFA : VMs F A) (MFA : k = ai A 29 (F 18).toInt) (PFA : RVm F A 47 k) (rx4 : 0 ≤ x4.toInt ∧ x4.toInt ≤ 4096) (hn : 14900 - x4.toInt < (n : Int)) : ok (d_bars_18 n F A J x1 x2 x3 x4) (fun r => IFm r.2.1 ∧ IAm r.2.2.1 ∧ (∀ q, q ∉ ([63] : List Nat) → r.2.1 q = F q) ∧ (∀ q, q ∉ ([45, 46, 48, 49, 50, 51, 52, 53, 54, 55, 56] : List Nat) → r.2.2.1 q = A q) ∧ True) := by
  induction n generalizing F A J x2 x3 x4 with
  | zero => exact absurd hn (by omega)
  | succ n ih =>
    have r18 : 0 ≤ (F 18).toInt ∧ (F 18).toInt ≤ 1 := hF 18
    unfold d_bars_18
    have r_1 : 0 ≤ (F 18).toInt ∧ (F 18).toInt ≤ 1 := hF 18
    refine ok_ld (j := 12) hA (by omega) (by omega) ?_
    intro v_2 v_2_e v_2_r
    have v_2_r : 0 ≤ v_2.toInt ∧ v_2.toInt ≤ 12 := v_2_r
    have sh := i_shl12 (v := v_2) (by omega) (by omega)
    refine ok_cond (fun c_3 => ?_) (fun c_3 => ?_)
    · rw [i_ge] at c_3
      have l_4 : (0 : Int32).toInt = 0 := by decide
      refine ok_cond (fun c_5 => ?_) (fun c_5 => ?_)
      · rw [i_ne] at c_5
        refine ok_some ?_
        refine ⟨hF, hA, (fun q hq => rfl), (fun q hq => rfl), ?_⟩
        (first | trivial | omega | exact ⟨by omega, by omega⟩ | assumption)
      · rw [i_nne] at c_5
        refine ok_some ?_
        refine ⟨hF, hA, (fun q hq => rfl), (fun q hq => rfl), ?_⟩
        (first | trivial | omega | exact ⟨by omega, by omega⟩ | assumption)
    · rw [i_nge] at c_3
      refine ok_call (s2_d_takes hF hA (by omega) (by omega) (PFA)) ?_
      rintro ⟨u_6, F_7, A_8, J_9⟩ ⟨hF_7, hA_8, F_7_o, A_8_o, u_6_p⟩
      dsimp only at hF_7 hA_8 F_7_o A_8_o u_6_p ⊢
      have u_6_p : RVm F_7 A_8 48 k := u_6_p
      have r_10 : 0 ≤ (F_7 18).toInt ∧ (F_7 18).toInt ≤ 1 := hF_7 18
      have f_11 : (F_7 18).toInt = (F 18).toInt := congrArg Int32.toInt (F_7_o 18 (by decide))
      have VF_7A_8 : VMs F_7 A_8 := VFA.fr (F_7_o 18 (by decide)) (fun q h1 h2 => A_8_o q (by intro e; simp at e <;> omega))
      have MF_7A_8 : k = ai A_8 29 (F_7 18).toInt := by rw [ai_fr (A_8_o 29 (by decide)), F_7_o 18 (by decide)] <;> exact MFA
      have PF_7A_8 : RVm F_7 A_8 47 k := PFA.cg (F_7_o 18 (by decide)) (A_8_o 19 (by decide)) (A_8_o 22 (by decide)) (fun m _ _ => by rw [ai_fr (A_8_o 47 (by decide))]; exact ⟨rfl, rfl⟩)
      have RF_7A_8 : RVm F_7 A_8 48 k := u_6_p
      have l_12 : (78 : Int32).toInt = 78 := by decide
      refine ok_st (j := 48) hA_8 (by omega) (by omega) (trivial) ?_
      intro A_13 hA_13 A_13_o A_13_s A_13_n
      have VF_7A_13 : VMs F_7 A_13 := VF_7A_8.fr rfl (fun q h1 h2 => A_13_o q (by omega))
      have MF_7A_13 : k = ai A_13 29 (F_7 18).toInt := by rw [ai_fr (A_13_o 29 (by decide))] <;> exact MF_7A_8
      have PF_7A_13 : RVm F_7 A_13 47 k := PF_7A_8.sto A_13_o (by decide) (by decide)
      have RF_7A_13 : RVm F_7 A_13 48 k := RF_7A_8.st (by decide) A_13_o A_13_n (by omega) hk
      refine ok_call (s_d_wholeNight hF_7 hA_13 (by omega) (by omega) (by omega) (VF_7A_13) (MF_7A_13) (RF_7A_13)) ?_
      rintro ⟨v_14, F_15, A_16, J_17⟩ ⟨hF_15, hA_16, F_15_o, A_16_o, v_14_p⟩
      dsimp only at hF_15 hA_16 F_15_o A_16_o v_14_p ⊢
      have v_14_p : RVm F_15 A_16 48 k := v_14_p
      have r_18 : 0 ≤ (F_15 18).toInt ∧ (F_15 18).toInt ≤ 1 := hF_15 18
      have f_19 : (F_15 18).toInt = (F_7 18).toInt := congrArg Int32.toInt (F_15_o 18 (by decide))
      have VF_15A_16 : VMs F_15 A_16 := VF_7A_13.fr (F_15_o 18 (by decide)) (fun q h1 h2 => A_16_o q (by intro e; simp at e <;> omega))
      have MF_15A_16 : k = ai A_16 29 (F_15 18).toInt := by rw [ai_fr (A_16_o 29 (by decide)), F_15_o 18 (by decide)] <;> exact MF_7A_13
      have PF_15A_16 : RVm F_15 A_16 47 k := PF_7A_13.cg (F_15_o 18 (by decide)) (A_16_o 19 (by decide)) (A_16_o 22 (by decide)) (fun m _ _ => by rw [ai_fr (A_16_o 47 (by decide))]; exact ⟨rfl, rfl⟩)
      have RF_15A_16 : RVm F_15 A_16 48 k := v_14_p
      have l_20 : (0 : Int32).toInt = 0 := by decide
      refine ok_cond (fun c_21 => ?_) (fun c_21 => ?_)
      · rw [i_lt] at c_21
        unfold d_bars_84
        unfold d_bars_90
        have l_22 : (1 : Int32).toInt = 1 := by decide
        have e_23 := i_add (x := x4) (y := 1) (by omega) (by omega)
        refine ok_mono (ih hF_15 hA_16 (VF_15A_16) (MF_15A_16) (PF_15A_16) (by omega) (by omega)) ?_
        rintro ⟨v_24, F_25, A_26, J_27⟩ ⟨hF_25, hA_26, F_25_o, A_26_o, v_24_p⟩
        dsimp only at hF_25 hA_26 F_25_o A_26_o v_24_p ⊢
        have VF_25A_26 : VMs F_25 A_26 := VF_15A_16.fr (F_25_o 18 (by decide)) (fun q h1 h2 => A_26_o q (by intro e; simp at e <;> omega))
        have MF_25A_26 : k = ai A_26 29 (F_25 18).toInt := by rw [ai_fr (A_26_o 29 (by decide)), F_25_o 18 (by decide)] <;> exact MF_15A_16
        have PF_25A_26 : RVm F_25 A_26 47 k := PF_15A_16.cg (F_25_o 18 (by decide)) (A_26_o 19 (by decide)) (A_26_o 22 (by decide)) (fun m _ _ => by rw [ai_fr (A_26_o 47 (by decide))]; exact ⟨rfl, rfl⟩)
        refine ⟨hF_25, hA_26, (fun q hq => (((F_25_o q hq).trans (F_15_o q hq)).trans (F_7_o q (fun e => hq ((by decide : ∀ x, x ∈ ([] : List Nat) → x ∈ ([63] : List Nat)) q e))))), (fun q hq => ((((A_26_o q hq).trans (A_16_o q hq)).trans (A_13_o q (fun e => hq (by rw [e]; decide)))).trans (A_8_o q (fun e => hq ((by decide : ∀ x, x ∈ ([48] : List Nat) → x ∈ ([45, 46, 48, 49, 50, 51, 52, 53, 54, 55, 56] : List Nat)) q e))))), ?_⟩
        (first | trivial | omega | exact ⟨by omega, by omega⟩ | assumption)
      · rw [i_nlt] at c_21
        refine ok_cond (fun c_28 => ?_) (fun c_28 => ?_)
        · rw [i_lt] at c_28
          unfold d_bars_90
          have l_29 : (1 : Int32).toInt = 1 := by decide
          have e_30 := i_add (x := x4) (y := 1) (by omega) (by omega)
          refine ok_mono (ih hF_15 hA_16 (VF_15A_16) (MF_15A_16) (PF_15A_16) (by omega) (by omega)) ?_
          rintro ⟨v_31, F_32, A_33, J_34⟩ ⟨hF_32, hA_33, F_32_o, A_33_o, v_31_p⟩
          dsimp only at hF_32 hA_33 F_32_o A_33_o v_31_p ⊢
          have VF_32A_33 : VMs F_32 A_33 := VF_15A_16.fr (F_32_o 18 (by decide)) (fun q h1 h2 => A_33_o q (by intro e; simp at e <;> omega))
          have MF_32A_33 : k = ai A_33 29 (F_32 18).toInt := by rw [ai_fr (A_33_o 29 (by decide)), F_32_o 18 (by decide)] <;> exact MF_15A_16
          have PF_32A_33 : RVm F_32 A_33 47 k := PF_15A_16.cg (F_32_o 18 (by decide)) (A_33_o 19 (by decide)) (A_33_o 22 (by decide)) (fun m _ _ => by rw [ai_fr (A_33_o 47 (by decide))]; exact ⟨rfl, rfl⟩)
          refine ⟨hF_32, hA_33, (fun q hq => (((F_32_o q hq).trans (F_15_o q hq)).trans (F_7_o q (fun e => hq ((by decide : ∀ x, x ∈ ([] : List Nat) → x ∈ ([63] : List Nat)) q e))))), (fun q hq => ((((A_33_o q hq).trans (A_16_o q hq)).trans (A_13_o q (fun e => hq (by rw [e]; decide)))).trans (A_8_o q (fun e => hq ((by decide : ∀ x, x ∈ ([48] : List Nat) → x ∈ ([45, 46, 48, 49, 50, 51, 52, 53, 54, 55, 56] : List Nat)) q e))))), ?_⟩
          (first | trivial | omega | exact ⟨by omega, by omega⟩ | assumption)
        · rw [i_nlt] at c_28
          refine ok_cond (fun c_35 => ?_) (fun c_35 => ?_)
          · rw [i_ne] at c_35
            unfold d_bars_84
            unfold d_bars_90
            have l_36 : (1 : Int32).toInt = 1 := by decide
            have e_37 := i_add (x := x4) (y := 1) (by omega) (by omega)
            refine ok_mono (ih hF_15 hA_16 (VF_15A_16) (MF_15A_16) (PF_15A_16) (by omega) (by omega)) ?_
            rintro ⟨v_38, F_39, A_40, J_41⟩ ⟨hF_39, hA_40, F_39_o, A_40_o, v_38_p⟩
            dsimp only at hF_39 hA_40 F_39_o A_40_o v_38_p ⊢
            have VF_39A_40 : VMs F_39 A_40 := VF_15A_16.fr (F_39_o 18 (by decide)) (fun q h1 h2 => A_40_o q (by intro e; simp at e <;> omega))
            have MF_39A_40 : k = ai A_40 29 (F_39 18).toInt := by rw [ai_fr (A_40_o 29 (by decide)), F_39_o 18 (by decide)] <;> exact MF_15A_16
            have PF_39A_40 : RVm F_39 A_40 47 k := PF_15A_16.cg (F_39_o 18 (by decide)) (A_40_o 19 (by decide)) (A_40_o 22 (by decide)) (fun m _ _ => by rw [ai_fr (A_40_o 47 (by decide))]; exact ⟨rfl, rfl⟩)
            refine ⟨hF_39, hA_40, (fun q hq => (((F_39_o q hq).trans (F_15_o q hq)).trans (F_7_o q (fun e => hq ((by decide : ∀ x, x ∈ ([] : List Nat) → x ∈ ([63] : List Nat)) q e))))), (fun q hq => ((((A_40_o q hq).trans (A_16_o q hq)).trans (A_13_o q (fun e => hq (by rw [e]; decide)))).trans (A_8_o q (fun e => hq ((by decide : ∀ x, x ∈ ([48] : List Nat) → x ∈ ([45, 46, 48, 49, 50, 51, 52, 53, 54, 55, 56] : List Nat)) q e))))), ?_⟩
            (first | trivial | omega | exact ⟨by omega, by omega⟩ | assumption)
          · rw [i_nne] at c_35
            refine ok_call (s_d_bits (by omega)) ?_
            intro v_42 v_42_p
            refine ok_call (s_d_bits (by omega)) ?_
            intro v_43 v_43_p
            refine ok_cond (fun c_44 => ?_) (fun c_44 => ?_)
            · rw [i_lt] at c_44
              unfold d_bars_84
              unfold d_bars_90
              have l_45 : (1 : Int32).toInt = 1 := by decide
              have e_46 := i_add (x := x4) (y := 1) (by omega) (by omega)
              refine ok_mono (ih hF_15 hA_16 (VF_15A_16) (MF_15A_16) (PF_15A_16) (by omega) (by omega)) ?_
              rintro ⟨v_47, F_48, A_49, J_50⟩ ⟨hF_48, hA_49, F_48_o, A_49_o, v_47_p⟩
              dsimp only at hF_48 hA_49 F_48_o A_49_o v_47_p ⊢
              have VF_48A_49 : VMs F_48 A_49 := VF_15A_16.fr (F_48_o 18 (by decide)) (fun q h1 h2 => A_49_o q (by intro e; simp at e <;> omega))
              have MF_48A_49 : k = ai A_49 29 (F_48 18).toInt := by rw [ai_fr (A_49_o 29 (by decide)), F_48_o 18 (by decide)] <;> exact MF_15A_16
              have PF_48A_49 : RVm F_48 A_49 47 k := PF_15A_16.cg (F_48_o 18 (by decide)) (A_49_o 19 (by decide)) (A_49_o 22 (by decide)) (fun m _ _ => by rw [ai_fr (A_49_o 47 (by decide))]; exact ⟨rfl, rfl⟩)
              refine ⟨hF_48, hA_49, (fun q hq => (((F_48_o q hq).trans (F_15_o q hq)).trans (F_7_o q (fun e => hq ((by decide : ∀ x, x ∈ ([] : List Nat) → x ∈ ([63] : List Nat)) q e))))), (fun q hq => ((((A_49_o q hq).trans (A_16_o q hq)).trans (A_13_o q (fun e => hq (by rw [e]; decide)))).trans (A_8_o q (fun e => hq ((by decide : ∀ x, x ∈ ([48] : List Nat) → x ∈ ([45, 46, 48, 49, 50, 51, 52, 53, 54, 55, 56] : List Nat)) q e))))), ?_⟩
              (first | trivial | omega | exact ⟨by omega, by omega⟩ | assumption)
            · rw [i_nlt] at c_44
              unfold d_bars_90
              have l_51 : (1 : Int32).toInt = 1 := by decide
              have e_52 := i_add (x := x4) (y := 1) (by omega) (by omega)
              refine ok_mono (ih hF_15 hA_16 (VF_15A_16) (MF_15A_16) (PF_15A_16) (by omega) (by omega)) ?_
              rintro ⟨v_53, F_54, A_55, J_56⟩ ⟨hF_54, hA_55, F_54_o, A_55_o, v_53_p⟩
              dsimp only at hF_54 hA_55 F_54_o A_55_o v_53_p ⊢
              have VF_54A_55 : VMs F_54 A_55 := VF_15A_16.fr (F_54_o 18 (by decide)) (fun q h1 h2 => A_55_o q (by intro e; simp at e <;> omega))
              have MF_54A_55 : k = ai A_55 29 (F_54 18).toInt := by rw [ai_fr (A_55_o 29 (by decide)), F_54_o 18 (by decide)] <;> exact MF_15A_16
              have PF_54A_55 : RVm F_54 A_55 47 k := PF_15A_16.cg (F_54_o 18 (by decide)) (A_55_o 19 (by decide)) (A_55_o 22 (by decide)) (fun m _ _ => by rw [ai_fr (A_55_o 47 (by decide))]; exact ⟨rfl, rfl⟩)
              refine ⟨hF_54, hA_55, (fun q hq => (((F_54_o q hq).trans (F_15_o q hq)).trans (F_7_o q (fun e => hq ((by decide : ∀ x, x ∈ ([] : List Nat) → x ∈ ([63] : List Nat)) q e))))), (fun q hq => ((((A_55_o q hq).trans (A_16_o q hq)).trans (A_13_o q (fun e => hq (by rw [e]; decide)))).trans (A_8_o q (fun e => hq ((by decide : ∀ x, x ∈ ([48] : List Nat) → x ∈ ([45, 46, 48, 49, 50, 51, 52, 53, 54, 55, 56] : List Nat)) q e))))), ?_⟩
              (first | trivial | omega | exact ⟨by omega, by omega⟩ | assumption)
set_option maxRecDepth 10000 in
theorem s_d_bars {n : Nat} {k : Int} {F : Nat → Int32} {A : Nat → Nat → Int32} {J : Nat → Nat → Int64} {x1 : Int32} (hF : IFm F) (hA : IAm A) (hn : 15000 ≤ n) (hk : k ≤ 6) (hk0 : 0 ≤ k) (VFA : VMs F A) (MFA : k = ai A 29 (F 18).toInt) (PFA : RVm F A 47 k) : ok (d_bars n F A J x1) (fun r => IFm r.2.1 ∧ IAm r.2.2.1 ∧ (∀ q, q ∉ ([63] : List Nat) → r.2.1 q = F q) ∧ (∀ q, q ∉ ([45, 46, 48, 49, 50, 51, 52, 53, 54, 55, 56] : List Nat) → r.2.2.1 q = A q) ∧ True) := by
  have r18 : 0 ≤ (F 18).toInt ∧ (F 18).toInt ≤ 1 := hF 18
  unfold d_bars
  have l_1 : (0 : Int32).toInt = 0 := by decide
  have l_2 : (1 : Int32).toInt = 1 := by decide
  refine ok_call (s_d_in ) ?_
  intro v_3 v_3_p
  have v_3_p : v_3.toInt = (if (0 : Int32).toInt ≤ x1.toInt ∧ x1.toInt ≤ (1 : Int32).toInt then 1 else 0) := v_3_p
  refine ok_cond (fun c_4 => ?_) (fun c_4 => ?_)
  · rw [i_ne] at c_4
    refine ok_mono (s_d_bars_18 hF hA (by omega) (by omega) (VFA) (MFA) (PFA) (by omega) (by omega)) ?_
    rintro ⟨v_5, F_6, A_7, J_8⟩ ⟨hF_6, hA_7, F_6_o, A_7_o, v_5_p⟩
    dsimp only at hF_6 hA_7 F_6_o A_7_o v_5_p ⊢
    have VF_6A_7 : VMs F_6 A_7 := VFA.fr (F_6_o 18 (by decide)) (fun q h1 h2 => A_7_o q (by intro e; simp at e <;> omega))
    have MF_6A_7 : k = ai A_7 29 (F_6 18).toInt := by rw [ai_fr (A_7_o 29 (by decide)), F_6_o 18 (by decide)] <;> exact MFA
    have PF_6A_7 : RVm F_6 A_7 47 k := PFA.cg (F_6_o 18 (by decide)) (A_7_o 19 (by decide)) (A_7_o 22 (by decide)) (fun m _ _ => by rw [ai_fr (A_7_o 47 (by decide))]; exact ⟨rfl, rfl⟩)
    refine ⟨hF_6, hA_7, (fun q hq => (F_6_o q hq)), (fun q hq => (A_7_o q hq)), ?_⟩
    (first | trivial | omega | exact ⟨by omega, by omega⟩ | assumption)
  · rw [i_nne] at c_4
    refine ok_some ?_
    refine ⟨hF, hA, (fun q hq => rfl), (fun q hq => rfl), ?_⟩
    (first | trivial | omega | exact ⟨by omega, by omega⟩ | assumption)
set_option maxRecDepth 10000 in
theorem s_d_where {n : Nat} {k : Int} {F : Nat → Int32} {A : Nat → Nat → Int32} {J : Nat → Nat → Int64} {x1 : Int32} {x2 : Int32} (hF : IFm F) (hA : IAm A) (hn : 200 ≤ n) (hk : k ≤ 6) (hk0 : 0 ≤ k) (VFA : VMs F A) (MFA : k = ai A 29 (F 18).toInt) (PFA : RVm F A 47 k) : ok (d_where n F A J x1 x2) (fun r => IFm r.2.1 ∧ IAm r.2.2.1 ∧ (∀ q, q ∉ ([] : List Nat) → r.2.1 q = F q) ∧ (∀ q, q ∉ ([48, 49] : List Nat) → r.2.2.1 q = A q) ∧ True) := by
  have r18 : 0 ≤ (F 18).toInt ∧ (F 18).toInt ≤ 1 := hF 18
  unfold d_where
  refine ok_call (s_d_isMan hF hA) ?_
  intro v_1 v_1_p
  have v_1_p : (v_1.toInt = 0 ∨ (v_1.toInt = 1 ∧ 0 ≤ x1.toInt ∧ x1.toInt < ai A 29 (F 18).toInt ∧ x1.toInt < 6)) := v_1_p
  have l_2 : (0 : Int32).toInt = 0 := by decide
  refine ok_cond (fun c_3 => ?_) (fun c_3 => ?_)
  · rw [i_eq] at c_3
    refine ok_some ?_
    refine ⟨hF, hA, (fun q hq => rfl), (fun q hq => rfl), ?_⟩
    (first | trivial | omega | exact ⟨by omega, by omega⟩ | assumption)
  · rw [i_neq] at c_3
    have r_4 : 0 ≤ (F 18).toInt ∧ (F 18).toInt ≤ 1 := hF 18
    refine ok_ld (j := 41) hA (by omega) (by omega) ?_
    intro v_5 v_5_e v_5_r
    have v_5_r : 0 ≤ v_5.toInt ∧ v_5.toInt ≤ 9999 := v_5_r
    refine ok_call (s_d_in ) ?_
    intro v_6 v_6_p
    have v_6_p : v_6.toInt = (if (0 : Int32).toInt ≤ x2.toInt ∧ x2.toInt ≤ v_5.toInt then 1 else 0) := v_6_p
    refine ok_cond (fun c_7 => ?_) (fun c_7 => ?_)
    · rw [i_ne] at c_7
      refine ok_call (s2_d_takes hF hA (by omega) (by omega) (PFA)) ?_
      rintro ⟨u_8, F_9, A_10, J_11⟩ ⟨hF_9, hA_10, F_9_o, A_10_o, u_8_p⟩
      dsimp only at hF_9 hA_10 F_9_o A_10_o u_8_p ⊢
      have u_8_p : RVm F_9 A_10 48 k := u_8_p
      have r_12 : 0 ≤ (F_9 18).toInt ∧ (F_9 18).toInt ≤ 1 := hF_9 18
      have f_13 : (F_9 18).toInt = (F 18).toInt := congrArg Int32.toInt (F_9_o 18 (by decide))
      have VF_9A_10 : VMs F_9 A_10 := VFA.fr (F_9_o 18 (by decide)) (fun q h1 h2 => A_10_o q (by intro e; simp at e <;> omega))
      have MF_9A_10 : k = ai A_10 29 (F_9 18).toInt := by rw [ai_fr (A_10_o 29 (by decide)), F_9_o 18 (by decide)] <;> exact MFA
      have PF_9A_10 : RVm F_9 A_10 47 k := PFA.cg (F_9_o 18 (by decide)) (A_10_o 19 (by decide)) (A_10_o 22 (by decide)) (fun m _ _ => by rw [ai_fr (A_10_o 47 (by decide))]; exact ⟨rfl, rfl⟩)
      have RF_9A_10 : RVm F_9 A_10 48 k := u_8_p
      refine ok_call (s_d_fillsWays hF_9 hA_10 (by omega) (VF_9A_10)) ?_
      rintro ⟨u_14, F_15, A_16, J_17⟩ ⟨hF_15, hA_16, F_15_o, A_16_o, u_14_p⟩
      dsimp only at hF_15 hA_16 F_15_o A_16_o u_14_p ⊢
      have r_18 : 0 ≤ (F_15 18).toInt ∧ (F_15 18).toInt ≤ 1 := hF_15 18
      have f_19 : (F_15 18).toInt = (F_9 18).toInt := congrArg Int32.toInt (F_15_o 18 (by decide))
      have VF_15A_16 : VMs F_15 A_16 := VF_9A_10.fr (F_15_o 18 (by decide)) (fun q h1 h2 => A_16_o q (by intro e; simp at e <;> omega))
      have MF_15A_16 : k = ai A_16 29 (F_15 18).toInt := by rw [ai_fr (A_16_o 29 (by decide)), F_15_o 18 (by decide)] <;> exact MF_9A_10
      have PF_15A_16 : RVm F_15 A_16 47 k := PF_9A_10.cg (F_15_o 18 (by decide)) (A_16_o 19 (by decide)) (A_16_o 22 (by decide)) (fun m _ _ => by rw [ai_fr (A_16_o 47 (by decide))]; exact ⟨rfl, rfl⟩)
      have RF_15A_16 : RVm F_15 A_16 48 k := RF_9A_10.cg (F_15_o 18 (by decide)) (A_16_o 19 (by decide)) (A_16_o 22 (by decide)) (fun m _ _ => by rw [ai_fr (A_16_o 48 (by decide))]; exact ⟨rfl, rfl⟩)
      have l_20 : (6 : Int32).toInt = 6 := by decide
      have e_21 := i_mulL (c := 6) (k := 6) (x := (F_15 18)) (by decide) (by omega) (by omega)
      have e_22 := i_add (x := (6 * (F_15 18))) (y := x1) (by omega) (by omega)
      refine ok_ld (j := 30) hA_16 (by omega) (by omega) ?_
      intro v_23 v_23_e v_23_r
      have v_23_r : -1 ≤ v_23.toInt ∧ v_23.toInt ≤ 7 := v_23_r
      have hh := VF_15A_16.2.1 x1.toInt (by omega) (by omega)
      have e14 : ai A_16 30 (6 * F_15 18 + x1).toInt = ai A_16 30 (6 * (F_15 18).toInt + x1.toInt) := by congr 1 <;> omega
      have l_24 : (42 : Int32).toInt = 42 := by decide
      have e_25 := i_add (x := 42) (y := x1) (by omega) (by omega)
      refine ok_ld (j := 48) hA_16 (by omega) (by omega) ?_
      intro v_26 v_26_e v_26_r
      refine ok_cond (fun c_27 => ?_) (fun c_27 => ?_)
      · rw [i_ge] at c_27
        refine ok_ld (j := 48) hA_16 (by omega) (by omega) ?_
        intro v_28 v_28_e v_28_r
        have w17 : v_28.toInt = ai A_16 48 (42 + x1.toInt) := by rw [v_28_e]; congr 1 <;> omega
        obtain ⟨g1, g2, g3, g4⟩ := RF_15A_16 x1.toInt (by omega) (by omega) (by omega)
        have t19 : 0 ≤ ai A_16 19 (F_15 18).toInt ∧ ai A_16 19 (F_15 18).toInt ≤ 6 := hA_16 19 _ (by omega)
        have hr := VF_15A_16.2.2.1 v_28.toInt (by omega) (by omega)
        have e_29 := i_add (x := (6 * (F_15 18))) (y := v_28) (by omega) (by omega)
        refine ok_ld (j := 20) hA_16 (by omega) (by omega) ?_
        intro v_30 v_30_e v_30_r
        have v_30_r : -1 ≤ v_30.toInt ∧ v_30.toInt ≤ 7 := v_30_r
        have e18 : ai A_16 20 (6 * F_15 18 + v_28).toInt = ai A_16 20 (6 * (F_15 18).toInt + v_28.toInt) := by congr 1 <;> omega
        have l_31 : (8 : Int32).toInt = 8 := by decide
        have e_32 := i_mulL (c := 8) (k := 8) (x := v_23) (by decide) (by omega) (by omega)
        have e_33 := i_add (x := (8 * v_23)) (y := v_30) (by omega) (by omega)
        refine ok_ld (j := 49) hA_16 (by omega) (by omega) ?_
        intro v_34 v_34_e v_34_r
        refine ok_cond (fun c_35 => ?_) (fun c_35 => ?_)
        · rw [i_gt] at c_35
          refine ok_some ?_
          refine ⟨hF_15, hA_16, (fun q hq => ((F_15_o q hq).trans (F_9_o q hq))), (fun q hq => ((A_16_o q (fun e => hq ((by decide : ∀ x, x ∈ ([49] : List Nat) → x ∈ ([48, 49] : List Nat)) q e))).trans (A_10_o q (fun e => hq ((by decide : ∀ x, x ∈ ([48] : List Nat) → x ∈ ([48, 49] : List Nat)) q e))))), ?_⟩
          (first | trivial | omega | exact ⟨by omega, by omega⟩ | assumption)
        · rw [i_ngt] at c_35
          refine ok_some ?_
          refine ⟨hF_15, hA_16, (fun q hq => ((F_15_o q hq).trans (F_9_o q hq))), (fun q hq => ((A_16_o q (fun e => hq ((by decide : ∀ x, x ∈ ([49] : List Nat) → x ∈ ([48, 49] : List Nat)) q e))).trans (A_10_o q (fun e => hq ((by decide : ∀ x, x ∈ ([48] : List Nat) → x ∈ ([48, 49] : List Nat)) q e))))), ?_⟩
          (first | trivial | omega | exact ⟨by omega, by omega⟩ | assumption)
      · rw [i_nge] at c_27
        refine ok_some ?_
        refine ⟨hF_15, hA_16, (fun q hq => ((F_15_o q hq).trans (F_9_o q hq))), (fun q hq => ((A_16_o q (fun e => hq ((by decide : ∀ x, x ∈ ([49] : List Nat) → x ∈ ([48, 49] : List Nat)) q e))).trans (A_10_o q (fun e => hq ((by decide : ∀ x, x ∈ ([48] : List Nat) → x ∈ ([48, 49] : List Nat)) q e))))), ?_⟩
        (first | trivial | omega | exact ⟨by omega, by omega⟩ | assumption)
    · rw [i_nne] at c_7
      refine ok_some ?_
      refine ⟨hF, hA, (fun q hq => rfl), (fun q hq => rfl), ?_⟩
      (first | trivial | omega | exact ⟨by omega, by omega⟩ | assumption)
set_option maxRecDepth 10000 in
theorem s_d_strokes {n : Nat} {k : Int} {F : Nat → Int32} {A : Nat → Nat → Int32} {J : Nat → Nat → Int64} {x1 : Int32} {x2 : Int32} (hF : IFm F) (hA : IAm A) (hn : 10900 ≤ n) (hk : k ≤ 6) (hk0 : 0 ≤ k) (VFA : VMs F A) (MFA : k = ai A 29 (F 18).toInt) (PFA : RVm F A 47 k) : ok (d_strokes n F A J x1 x2) (fun r => IFm r.2.1 ∧ IAm r.2.2.1 ∧ (∀ q, q ∉ ([63] : List Nat) → r.2.1 q = F q) ∧ (∀ q, q ∉ ([45, 46, 48, 49, 50, 51, 52, 53, 54, 55, 56] : List Nat) → r.2.2.1 q = A q) ∧ True) := by
  have r18 : 0 ≤ (F 18).toInt ∧ (F 18).toInt ≤ 1 := hF 18
  unfold d_strokes
  refine ok_call (s_d_isMan hF hA) ?_
  intro v_1 v_1_p
  have v_1_p : (v_1.toInt = 0 ∨ (v_1.toInt = 1 ∧ 0 ≤ x1.toInt ∧ x1.toInt < ai A 29 (F 18).toInt ∧ x1.toInt < 6)) := v_1_p
  have l_2 : (0 : Int32).toInt = 0 := by decide
  refine ok_cond (fun c_3 => ?_) (fun c_3 => ?_)
  · rw [i_eq] at c_3
    refine ok_some ?_
    refine ⟨hF, hA, (fun q hq => rfl), (fun q hq => rfl), ?_⟩
    (first | trivial | omega | exact ⟨by omega, by omega⟩ | assumption)
  · rw [i_neq] at c_3
    have r_4 : 0 ≤ (F 18).toInt ∧ (F 18).toInt ≤ 1 := hF 18
    refine ok_ld (j := 41) hA (by omega) (by omega) ?_
    intro v_5 v_5_e v_5_r
    have v_5_r : 0 ≤ v_5.toInt ∧ v_5.toInt ≤ 9999 := v_5_r
    refine ok_call (s_d_in ) ?_
    intro v_6 v_6_p
    have v_6_p : v_6.toInt = (if (0 : Int32).toInt ≤ x2.toInt ∧ x2.toInt ≤ v_5.toInt then 1 else 0) := v_6_p
    refine ok_cond (fun c_7 => ?_) (fun c_7 => ?_)
    · rw [i_ne] at c_7
      refine ok_call (s2_d_takes hF hA (by omega) (by omega) (PFA)) ?_
      rintro ⟨u_8, F_9, A_10, J_11⟩ ⟨hF_9, hA_10, F_9_o, A_10_o, u_8_p⟩
      dsimp only at hF_9 hA_10 F_9_o A_10_o u_8_p ⊢
      have u_8_p : RVm F_9 A_10 48 k := u_8_p
      have r_12 : 0 ≤ (F_9 18).toInt ∧ (F_9 18).toInt ≤ 1 := hF_9 18
      have f_13 : (F_9 18).toInt = (F 18).toInt := congrArg Int32.toInt (F_9_o 18 (by decide))
      have VF_9A_10 : VMs F_9 A_10 := VFA.fr (F_9_o 18 (by decide)) (fun q h1 h2 => A_10_o q (by intro e; simp at e <;> omega))
      have MF_9A_10 : k = ai A_10 29 (F_9 18).toInt := by rw [ai_fr (A_10_o 29 (by decide)), F_9_o 18 (by decide)] <;> exact MFA
      have PF_9A_10 : RVm F_9 A_10 47 k := PFA.cg (F_9_o 18 (by decide)) (A_10_o 19 (by decide)) (A_10_o 22 (by decide)) (fun m _ _ => by rw [ai_fr (A_10_o 47 (by decide))]; exact ⟨rfl, rfl⟩)
      have RF_9A_10 : RVm F_9 A_10 48 k := u_8_p
      refine ok_call (s_d_goesTill hF_9 hA_10 (by omega) (by omega) (by omega) (VF_9A_10) (MF_9A_10) (RF_9A_10) (by omega)) ?_
      rintro ⟨u_14, F_15, A_16, J_17⟩ ⟨hF_15, hA_16, F_15_o, A_16_o, u_14_p⟩
      dsimp only at hF_15 hA_16 F_15_o A_16_o u_14_p ⊢
      have u_14_p : NVm F_15 A_16 k := u_14_p
      have r_18 : 0 ≤ (F_15 18).toInt ∧ (F_15 18).toInt ≤ 1 := hF_15 18
      have f_19 : (F_15 18).toInt = (F_9 18).toInt := congrArg Int32.toInt (F_15_o 18 (by decide))
      have VF_15A_16 : VMs F_15 A_16 := VF_9A_10.fr (F_15_o 18 (by decide)) (fun q h1 h2 => A_16_o q (by intro e; simp at e <;> omega))
      have MF_15A_16 : k = ai A_16 29 (F_15 18).toInt := by rw [ai_fr (A_16_o 29 (by decide)), F_15_o 18 (by decide)] <;> exact MF_9A_10
      have PF_15A_16 : RVm F_15 A_16 47 k := PF_9A_10.cg (F_15_o 18 (by decide)) (A_16_o 19 (by decide)) (A_16_o 22 (by decide)) (fun m _ _ => by rw [ai_fr (A_16_o 47 (by decide))]; exact ⟨rfl, rfl⟩)
      refine ok_ld (j := 55) hA_16 (by omega) (by omega) ?_
      intro v_20 v_20_e v_20_r
      refine ok_some ?_
      refine ⟨hF_15, hA_16, (fun q hq => ((F_15_o q hq).trans (F_9_o q (fun e => hq ((by decide : ∀ x, x ∈ ([] : List Nat) → x ∈ ([63] : List Nat)) q e))))), (fun q hq => ((A_16_o q hq).trans (A_10_o q (fun e => hq ((by decide : ∀ x, x ∈ ([48] : List Nat) → x ∈ ([45, 46, 48, 49, 50, 51, 52, 53, 54, 55, 56] : List Nat)) q e))))), ?_⟩
      (first | trivial | omega | exact ⟨by omega, by omega⟩ | assumption)
    · rw [i_nne] at c_7
      refine ok_some ?_
      refine ⟨hF, hA, (fun q hq => rfl), (fun q hq => rfl), ?_⟩
      (first | trivial | omega | exact ⟨by omega, by omega⟩ | assumption)
set_option maxRecDepth 10000 in
theorem s_d_isSo_7  {n : Nat} {F : Nat → Int32} {A : Nat → Nat → Int32} {J : Nat → Nat → Int64} {x1 : Int32} {x2 : Int32} (hF : IFm F) (hA : IAm A) (rx1 : 0 ≤ x1.toInt ∧ x1.toInt ≤ 30) (rx2 : 0 ≤ x2.toInt ∧ x2.toInt ≤ 30) (hn : 30 - x2.toInt < (n : Int)) : ok (d_isSo_7 n F A J x1 x2) (fun r => IFm r.2.1 ∧ IAm r.2.2.1 ∧ (∀ q, q ∉ ([] : List Nat) → r.2.1 q = F q) ∧ (∀ q, q ∉ ([] : List Nat) → r.2.2.1 q = A q) ∧ True) := by
  induction n generalizing F A J x2 with
  | zero => exact absurd hn (by omega)
  | succ n ih =>
    have r18 : 0 ≤ (F 18).toInt ∧ (F 18).toInt ≤ 1 := hF 18
    unfold d_isSo_7
    refine ok_cond (fun c_1 => ?_) (fun c_1 => ?_)
    · rw [i_ge] at c_1
      refine ok_some ?_
      refine ⟨hF, hA, (fun q hq => rfl), (fun q hq => rfl), ?_⟩
      (first | trivial | omega | exact ⟨by omega, by omega⟩ | assumption)
    · rw [i_nge] at c_1
      refine ok_ld (j := 58) hA (by omega) (by omega) ?_
      intro v_2 v_2_e v_2_r
      have v_2_r : 0 ≤ v_2.toInt ∧ v_2.toInt ≤ 5 := v_2_r
      refine ok_ld (j := 59) hA (by omega) (by omega) ?_
      intro v_3 v_3_e v_3_r
      have v_3_r : 0 ≤ v_3.toInt ∧ v_3.toInt ≤ 5 := v_3_r
      have l_4 : (6 : Int32).toInt = 6 := by decide
      have e_5 := i_mulL (c := 6) (k := 6) (x := v_2) (by decide) (by omega) (by omega)
      have e_6 := i_add (x := 6) (y := (6 * v_2)) (by omega) (by omega)
      have e_7 := i_add (x := (6 + (6 * v_2))) (y := v_3) (by omega) (by omega)
      refine ok_ld (j := 48) hA (by omega) (by omega) ?_
      intro v_8 v_8_e v_8_r
      refine ok_ld (j := 60) hA (by omega) (by omega) ?_
      intro v_9 v_9_e v_9_r
      refine ok_cond (fun c_10 => ?_) (fun c_10 => ?_)
      · rw [i_eq] at c_10
        have l_11 : (1 : Int32).toInt = 1 := by decide
        have e_12 := i_add (x := x2) (y := 1) (by omega) (by omega)
        refine ok_mono (ih hF hA (by omega) (by omega)) ?_
        rintro ⟨v_13, F_14, A_15, J_16⟩ ⟨hF_14, hA_15, F_14_o, A_15_o, v_13_p⟩
        dsimp only at hF_14 hA_15 F_14_o A_15_o v_13_p ⊢
        refine ⟨hF_14, hA_15, (fun q hq => (F_14_o q hq)), (fun q hq => (A_15_o q hq)), ?_⟩
        (first | trivial | omega | exact ⟨by omega, by omega⟩ | assumption)
      · rw [i_neq] at c_10
        refine ok_some ?_
        refine ⟨hF, hA, (fun q hq => rfl), (fun q hq => rfl), ?_⟩
        (first | trivial | omega | exact ⟨by omega, by omega⟩ | assumption)
set_option maxRecDepth 10000 in
theorem s_d_isSo {n : Nat} {k : Int} {F : Nat → Int32} {A : Nat → Nat → Int32} {J : Nat → Nat → Int64} {x1 : Int32} (hF : IFm F) (hA : IAm A) (hn : 10710 ≤ n) (hk : k ≤ 6) (hk0 : 0 ≤ k) (VFA : VMs F A) (MFA : k = ai A 29 (F 18).toInt) (RFA : RVm F A 48 k) (rx1 : 0 ≤ x1.toInt ∧ x1.toInt ≤ 30) : ok (d_isSo n F A J x1) (fun r => IFm r.2.1 ∧ IAm r.2.2.1 ∧ (∀ q, q ∉ ([63] : List Nat) → r.2.1 q = F q) ∧ (∀ q, q ∉ ([45, 46, 48, 49, 50, 51, 52, 53, 54, 55, 56] : List Nat) → r.2.2.1 q = A q) ∧ True) := by
  have r18 : 0 ≤ (F 18).toInt ∧ (F 18).toInt ≤ 1 := hF 18
  unfold d_isSo
  refine ok_call (s_d_wholeNight hF hA (by omega) (by omega) (by omega) (VFA) (MFA) (RFA)) ?_
  rintro ⟨v_1, F_2, A_3, J_4⟩ ⟨hF_2, hA_3, F_2_o, A_3_o, v_1_p⟩
  dsimp only at hF_2 hA_3 F_2_o A_3_o v_1_p ⊢
  have v_1_p : RVm F_2 A_3 48 k := v_1_p
  have r_5 : 0 ≤ (F_2 18).toInt ∧ (F_2 18).toInt ≤ 1 := hF_2 18
  have r_6 : 0 ≤ (F 18).toInt ∧ (F 18).toInt ≤ 1 := hF 18
  have f_7 : (F_2 18).toInt = (F 18).toInt := congrArg Int32.toInt (F_2_o 18 (by decide))
  have VF_2A_3 : VMs F_2 A_3 := VFA.fr (F_2_o 18 (by decide)) (fun q h1 h2 => A_3_o q (by intro e; simp at e <;> omega))
  have MF_2A_3 : k = ai A_3 29 (F_2 18).toInt := by rw [ai_fr (A_3_o 29 (by decide)), F_2_o 18 (by decide)] <;> exact MFA
  have RF_2A_3 : RVm F_2 A_3 48 k := v_1_p
  have l_8 : (0 : Int32).toInt = 0 := by decide
  refine ok_mono (s_d_isSo_7 hF_2 hA_3 (by omega) (by omega) (by omega)) ?_
  rintro ⟨v_9, F_10, A_11, J_12⟩ ⟨hF_10, hA_11, F_10_o, A_11_o, v_9_p⟩
  dsimp only at hF_10 hA_11 F_10_o A_11_o v_9_p ⊢
  have VF_10A_11 : VMs F_10 A_11 := VF_2A_3.fr (F_10_o 18 (by decide)) (fun q h1 h2 => A_11_o q (by intro e; simp at e <;> omega))
  have MF_10A_11 : k = ai A_11 29 (F_10 18).toInt := by rw [ai_fr (A_11_o 29 (by decide)), F_10_o 18 (by decide)] <;> exact MF_2A_3
  refine ⟨hF_10, hA_11, (fun q hq => ((F_10_o q (fun e => hq ((by decide : ∀ x, x ∈ ([] : List Nat) → x ∈ ([63] : List Nat)) q e))).trans (F_2_o q hq))), (fun q hq => ((A_11_o q (fun e => hq ((by decide : ∀ x, x ∈ ([] : List Nat) → x ∈ ([45, 46, 48, 49, 50, 51, 52, 53, 54, 55, 56] : List Nat)) q e))).trans (A_3_o q hq))), ?_⟩
  (first | trivial | omega | exact ⟨by omega, by omega⟩ | assumption)
set_option maxRecDepth 10000 in
theorem s_d_fits_33  {n : Nat} {k : Int} {F : Nat → Int32} {A : Nat → Nat → Int32} {J : Nat → Nat → Int64} {x1 : Int32} {x2 : Int32} {x3 : Int32} {x4 : Int32} {x5 : Int32} (hF : IFm F) (hA : IAm A) (hk : k ≤ 6) (hk0 : 0 ≤ k) (VFA : VMs F A) (MFA : k = ai A 29 (F 18).toInt) (PFA : RVm F A 47 k) (hx1 : 0 ≤ x1.toInt ∧ x1.toInt < k) (rx2 : 0 ≤ x2.toInt ∧ x2.toInt ≤ 30) (rx5 : 0 ≤ x5.toInt ∧ x5.toInt ≤ 40) (hn : 10800 - x5.toInt < (n : Int)) : ok (d_fits_33 n F A J x1 x2 x3 x4 x5) (fun r => IFm r.2.1 ∧ IAm r.2.2.1 ∧ (∀ q, q ∉ ([63] : List Nat) → r.2.1 q = F q) ∧ (∀ q, q ∉ ([45, 46, 48, 49, 50, 51, 52, 53, 54, 55, 56] : List Nat) → r.2.2.1 q = A q) ∧ True) := by
  induction n generalizing F A J x4 x5 with
  | zero => exact absurd hn (by omega)
  | succ n ih =>
    have r18 : 0 ≤ (F 18).toInt ∧ (F 18).toInt ≤ 1 := hF 18
    unfold d_fits_33
    refine ok_call (s_d_options hF hA (by omega)) ?_
    intro v_1 v_1_p
    have v_1_p : 1 ≤ v_1.toInt ∧ v_1.toInt ≤ 37 := v_1_p
    refine ok_cond (fun c_2 => ?_) (fun c_2 => ?_)
    · rw [i_ge] at c_2
      have l_3 : (-1 : Int32).toInt = -1 := by decide
      refine ok_cond (fun c_4 => ?_) (fun c_4 => ?_)
      · rw [i_ne] at c_4
        refine ok_some ?_
        refine ⟨hF, hA, (fun q hq => rfl), (fun q hq => rfl), ?_⟩
        (first | trivial | omega | exact ⟨by omega, by omega⟩ | assumption)
      · rw [i_nne] at c_4
        refine ok_some ?_
        refine ⟨hF, hA, (fun q hq => rfl), (fun q hq => rfl), ?_⟩
        (first | trivial | omega | exact ⟨by omega, by omega⟩ | assumption)
    · rw [i_nge] at c_2
      refine ok_call (s2_d_takes hF hA (by omega) (by omega) (PFA)) ?_
      rintro ⟨u_5, F_6, A_7, J_8⟩ ⟨hF_6, hA_7, F_6_o, A_7_o, u_5_p⟩
      dsimp only at hF_6 hA_7 F_6_o A_7_o u_5_p ⊢
      have u_5_p : RVm F_6 A_7 48 k := u_5_p
      have r_9 : 0 ≤ (F_6 18).toInt ∧ (F_6 18).toInt ≤ 1 := hF_6 18
      have r_10 : 0 ≤ (F 18).toInt ∧ (F 18).toInt ≤ 1 := hF 18
      have f_11 : (F_6 18).toInt = (F 18).toInt := congrArg Int32.toInt (F_6_o 18 (by decide))
      have VF_6A_7 : VMs F_6 A_7 := VFA.fr (F_6_o 18 (by decide)) (fun q h1 h2 => A_7_o q (by intro e; simp at e <;> omega))
      have MF_6A_7 : k = ai A_7 29 (F_6 18).toInt := by rw [ai_fr (A_7_o 29 (by decide)), F_6_o 18 (by decide)] <;> exact MFA
      have PF_6A_7 : RVm F_6 A_7 47 k := PFA.cg (F_6_o 18 (by decide)) (A_7_o 19 (by decide)) (A_7_o 22 (by decide)) (fun m _ _ => by rw [ai_fr (A_7_o 47 (by decide))]; exact ⟨rfl, rfl⟩)
      have RF_6A_7 : RVm F_6 A_7 48 k := u_5_p
      refine ok_call (s_d_leaves hF_6 hA_7 (by omega) (by omega) (by omega)) ?_
      rintro ⟨v_12, F_13, A_14, J_15⟩ ⟨hF_13, hA_14, F_13_o, A_14_o, v_12_p⟩
      dsimp only at hF_13 hA_14 F_13_o A_14_o v_12_p ⊢
      have v_12_p : (RVm F_6 A_7 48 k → RVm F_13 A_14 48 k) := v_12_p
      have r_16 : 0 ≤ (F_13 18).toInt ∧ (F_13 18).toInt ≤ 1 := hF_13 18
      have f_17 : (F_13 18).toInt = (F_6 18).toInt := congrArg Int32.toInt (F_13_o 18 (by decide))
      have VF_13A_14 : VMs F_13 A_14 := VF_6A_7.fr (F_13_o 18 (by decide)) (fun q h1 h2 => A_14_o q (by intro e; simp at e <;> omega))
      have MF_13A_14 : k = ai A_14 29 (F_13 18).toInt := by rw [ai_fr (A_14_o 29 (by decide)), F_13_o 18 (by decide)] <;> exact MF_6A_7
      have PF_13A_14 : RVm F_13 A_14 47 k := PF_6A_7.cg (F_13_o 18 (by decide)) (A_14_o 19 (by decide)) (A_14_o 22 (by decide)) (fun m _ _ => by rw [ai_fr (A_14_o 47 (by decide))]; exact ⟨rfl, rfl⟩)
      have RF_13A_14 : RVm F_13 A_14 48 k := v_12_p RF_6A_7
      refine ok_call (s_d_isSo hF_13 hA_14 (by omega) (by omega) (by omega) (VF_13A_14) (MF_13A_14) (RF_13A_14) (by omega)) ?_
      rintro ⟨v_18, F_19, A_20, J_21⟩ ⟨hF_19, hA_20, F_19_o, A_20_o, v_18_p⟩
      dsimp only at hF_19 hA_20 F_19_o A_20_o v_18_p ⊢
      have r_22 : 0 ≤ (F_19 18).toInt ∧ (F_19 18).toInt ≤ 1 := hF_19 18
      have f_23 : (F_19 18).toInt = (F_13 18).toInt := congrArg Int32.toInt (F_19_o 18 (by decide))
      have VF_19A_20 : VMs F_19 A_20 := VF_13A_14.fr (F_19_o 18 (by decide)) (fun q h1 h2 => A_20_o q (by intro e; simp at e <;> omega))
      have MF_19A_20 : k = ai A_20 29 (F_19 18).toInt := by rw [ai_fr (A_20_o 29 (by decide)), F_19_o 18 (by decide)] <;> exact MF_13A_14
      have PF_19A_20 : RVm F_19 A_20 47 k := PF_13A_14.cg (F_19_o 18 (by decide)) (A_20_o 19 (by decide)) (A_20_o 22 (by decide)) (fun m _ _ => by rw [ai_fr (A_20_o 47 (by decide))]; exact ⟨rfl, rfl⟩)
      have l_24 : (0 : Int32).toInt = 0 := by decide
      refine ok_cond (fun c_25 => ?_) (fun c_25 => ?_)
      · rw [i_ne] at c_25
        refine ok_cond (fun c_26 => ?_) (fun c_26 => ?_)
        · rw [i_ne] at c_26
          unfold d_fits_82
          have l_27 : (1 : Int32).toInt = 1 := by decide
          have e_28 := i_add (x := x5) (y := 1) (by omega) (by omega)
          refine ok_mono (ih hF_19 hA_20 (VF_19A_20) (MF_19A_20) (PF_19A_20) (by omega) (by omega)) ?_
          rintro ⟨v_29, F_30, A_31, J_32⟩ ⟨hF_30, hA_31, F_30_o, A_31_o, v_29_p⟩
          dsimp only at hF_30 hA_31 F_30_o A_31_o v_29_p ⊢
          have VF_30A_31 : VMs F_30 A_31 := VF_19A_20.fr (F_30_o 18 (by decide)) (fun q h1 h2 => A_31_o q (by intro e; simp at e <;> omega))
          have MF_30A_31 : k = ai A_31 29 (F_30 18).toInt := by rw [ai_fr (A_31_o 29 (by decide)), F_30_o 18 (by decide)] <;> exact MF_19A_20
          have PF_30A_31 : RVm F_30 A_31 47 k := PF_19A_20.cg (F_30_o 18 (by decide)) (A_31_o 19 (by decide)) (A_31_o 22 (by decide)) (fun m _ _ => by rw [ai_fr (A_31_o 47 (by decide))]; exact ⟨rfl, rfl⟩)
          refine ⟨hF_30, hA_31, (fun q hq => ((((F_30_o q hq).trans (F_19_o q hq)).trans (F_13_o q (fun e => hq ((by decide : ∀ x, x ∈ ([] : List Nat) → x ∈ ([63] : List Nat)) q e)))).trans (F_6_o q (fun e => hq ((by decide : ∀ x, x ∈ ([] : List Nat) → x ∈ ([63] : List Nat)) q e))))), (fun q hq => ((((A_31_o q hq).trans (A_20_o q hq)).trans (A_14_o q (fun e => hq ((by decide : ∀ x, x ∈ ([48] : List Nat) → x ∈ ([45, 46, 48, 49, 50, 51, 52, 53, 54, 55, 56] : List Nat)) q e)))).trans (A_7_o q (fun e => hq ((by decide : ∀ x, x ∈ ([48] : List Nat) → x ∈ ([45, 46, 48, 49, 50, 51, 52, 53, 54, 55, 56] : List Nat)) q e))))), ?_⟩
          (first | trivial | omega | exact ⟨by omega, by omega⟩ | assumption)
        · rw [i_nne] at c_26
          refine ok_call (s_d_codeOf hF_19 hA_20 (by omega) (by omega) (by omega)) ?_
          rintro ⟨v_33, F_34, A_35, J_36⟩ ⟨hF_34, hA_35, F_34_o, A_35_o, v_33_p⟩
          dsimp only at hF_34 hA_35 F_34_o A_35_o v_33_p ⊢
          have r_37 : 0 ≤ (F_34 18).toInt ∧ (F_34 18).toInt ≤ 1 := hF_34 18
          have f_38 : (F_34 18).toInt = (F_19 18).toInt := congrArg Int32.toInt (F_34_o 18 (by decide))
          have VF_34A_35 : VMs F_34 A_35 := VF_19A_20.fr (F_34_o 18 (by decide)) (fun q h1 h2 => A_35_o q (by intro e; simp at e <;> omega))
          have MF_34A_35 : k = ai A_35 29 (F_34 18).toInt := by rw [ai_fr (A_35_o 29 (by decide)), F_34_o 18 (by decide)] <;> exact MF_19A_20
          have PF_34A_35 : RVm F_34 A_35 47 k := PF_19A_20.cg (F_34_o 18 (by decide)) (A_35_o 19 (by decide)) (A_35_o 22 (by decide)) (fun m _ _ => by rw [ai_fr (A_35_o 47 (by decide))]; exact ⟨rfl, rfl⟩)
          refine ok_some ?_
          refine ⟨hF_34, hA_35, (fun q hq => ((((F_34_o q (fun e => hq ((by decide : ∀ x, x ∈ ([] : List Nat) → x ∈ ([63] : List Nat)) q e))).trans (F_19_o q hq)).trans (F_13_o q (fun e => hq ((by decide : ∀ x, x ∈ ([] : List Nat) → x ∈ ([63] : List Nat)) q e)))).trans (F_6_o q (fun e => hq ((by decide : ∀ x, x ∈ ([] : List Nat) → x ∈ ([63] : List Nat)) q e))))), (fun q hq => ((((A_35_o q (fun e => hq ((by decide : ∀ x, x ∈ ([48] : List Nat) → x ∈ ([45, 46, 48, 49, 50, 51, 52, 53, 54, 55, 56] : List Nat)) q e))).trans (A_20_o q hq)).trans (A_14_o q (fun e => hq ((by decide : ∀ x, x ∈ ([48] : List Nat) → x ∈ ([45, 46, 48, 49, 50, 51, 52, 53, 54, 55, 56] : List Nat)) q e)))).trans (A_7_o q (fun e => hq ((by decide : ∀ x, x ∈ ([48] : List Nat) → x ∈ ([45, 46, 48, 49, 50, 51, 52, 53, 54, 55, 56] : List Nat)) q e))))), ?_⟩
          (first | trivial | omega | exact ⟨by omega, by omega⟩ | assumption)
      · rw [i_nne] at c_25
        unfold d_fits_82
        have l_39 : (1 : Int32).toInt = 1 := by decide
        have e_40 := i_add (x := x5) (y := 1) (by omega) (by omega)
        refine ok_mono (ih hF_19 hA_20 (VF_19A_20) (MF_19A_20) (PF_19A_20) (by omega) (by omega)) ?_
        rintro ⟨v_41, F_42, A_43, J_44⟩ ⟨hF_42, hA_43, F_42_o, A_43_o, v_41_p⟩
        dsimp only at hF_42 hA_43 F_42_o A_43_o v_41_p ⊢
        have VF_42A_43 : VMs F_42 A_43 := VF_19A_20.fr (F_42_o 18 (by decide)) (fun q h1 h2 => A_43_o q (by intro e; simp at e <;> omega))
        have MF_42A_43 : k = ai A_43 29 (F_42 18).toInt := by rw [ai_fr (A_43_o 29 (by decide)), F_42_o 18 (by decide)] <;> exact MF_19A_20
        have PF_42A_43 : RVm F_42 A_43 47 k := PF_19A_20.cg (F_42_o 18 (by decide)) (A_43_o 19 (by decide)) (A_43_o 22 (by decide)) (fun m _ _ => by rw [ai_fr (A_43_o 47 (by decide))]; exact ⟨rfl, rfl⟩)
        refine ⟨hF_42, hA_43, (fun q hq => ((((F_42_o q hq).trans (F_19_o q hq)).trans (F_13_o q (fun e => hq ((by decide : ∀ x, x ∈ ([] : List Nat) → x ∈ ([63] : List Nat)) q e)))).trans (F_6_o q (fun e => hq ((by decide : ∀ x, x ∈ ([] : List Nat) → x ∈ ([63] : List Nat)) q e))))), (fun q hq => ((((A_43_o q hq).trans (A_20_o q hq)).trans (A_14_o q (fun e => hq ((by decide : ∀ x, x ∈ ([48] : List Nat) → x ∈ ([45, 46, 48, 49, 50, 51, 52, 53, 54, 55, 56] : List Nat)) q e)))).trans (A_7_o q (fun e => hq ((by decide : ∀ x, x ∈ ([48] : List Nat) → x ∈ ([45, 46, 48, 49, 50, 51, 52, 53, 54, 55, 56] : List Nat)) q e))))), ?_⟩
        (first | trivial | omega | exact ⟨by omega, by omega⟩ | assumption)
set_option maxRecDepth 10000 in
theorem s_d_fits {n : Nat} {k : Int} {F : Nat → Int32} {A : Nat → Nat → Int32} {J : Nat → Nat → Int64} {x1 : Int32} {x2 : Int32} {x3 : Int32} (hF : IFm F) (hA : IAm A) (hn : 10900 ≤ n) (hk : k ≤ 6) (hk0 : 0 ≤ k) (VFA : VMs F A) (MFA : k = ai A 29 (F 18).toInt) (PFA : RVm F A 47 k) : ok (d_fits n F A J x1 x2 x3) (fun r => IFm r.2.1 ∧ IAm r.2.2.1 ∧ (∀ q, q ∉ ([63] : List Nat) → r.2.1 q = F q) ∧ (∀ q, q ∉ ([45, 46, 48, 49, 50, 51, 52, 53, 54, 55, 56] : List Nat) → r.2.2.1 q = A q) ∧ True) := by
  have r18 : 0 ≤ (F 18).toInt ∧ (F 18).toInt ≤ 1 := hF 18
  unfold d_fits
  refine ok_call (s_d_isMan hF hA) ?_
  intro v_1 v_1_p
  have v_1_p : (v_1.toInt = 0 ∨ (v_1.toInt = 1 ∧ 0 ≤ x1.toInt ∧ x1.toInt < ai A 29 (F 18).toInt ∧ x1.toInt < 6)) := v_1_p
  have l_2 : (0 : Int32).toInt = 0 := by decide
  refine ok_cond (fun c_3 => ?_) (fun c_3 => ?_)
  · rw [i_eq] at c_3
    refine ok_some ?_
    refine ⟨hF, hA, (fun q hq => rfl), (fun q hq => rfl), ?_⟩
    (first | trivial | omega | exact ⟨by omega, by omega⟩ | assumption)
  · rw [i_neq] at c_3
    have r_4 : 0 ≤ (F 77).toInt ∧ (F 77).toInt ≤ 30 := hF 77
    refine ok_call (s_d_in ) ?_
    intro v_5 v_5_p
    have v_5_p : v_5.toInt = (if (0 : Int32).toInt ≤ x2.toInt ∧ x2.toInt ≤ (F 77).toInt then 1 else 0) := v_5_p
    refine ok_cond (fun c_6 => ?_) (fun c_6 => ?_)
    · rw [i_eq] at c_6
      refine ok_some ?_
      refine ⟨hF, hA, (fun q hq => rfl), (fun q hq => rfl), ?_⟩
      (first | trivial | omega | exact ⟨by omega, by omega⟩ | assumption)
    · rw [i_neq] at c_6
      have l_7 : (-1 : Int32).toInt = -1 := by decide
      refine ok_cond (fun c_8 => ?_) (fun c_8 => ?_)
      · rw [i_ge] at c_8
        refine ok_mono (s_d_fits_33 hF hA (by omega) (by omega) (VFA) (MFA) (PFA) (by omega) (by omega) (by omega) (by omega)) ?_
        rintro ⟨v_9, F_10, A_11, J_12⟩ ⟨hF_10, hA_11, F_10_o, A_11_o, v_9_p⟩
        dsimp only at hF_10 hA_11 F_10_o A_11_o v_9_p ⊢
        have VF_10A_11 : VMs F_10 A_11 := VFA.fr (F_10_o 18 (by decide)) (fun q h1 h2 => A_11_o q (by intro e; simp at e <;> omega))
        have MF_10A_11 : k = ai A_11 29 (F_10 18).toInt := by rw [ai_fr (A_11_o 29 (by decide)), F_10_o 18 (by decide)] <;> exact MFA
        have PF_10A_11 : RVm F_10 A_11 47 k := PFA.cg (F_10_o 18 (by decide)) (A_11_o 19 (by decide)) (A_11_o 22 (by decide)) (fun m _ _ => by rw [ai_fr (A_11_o 47 (by decide))]; exact ⟨rfl, rfl⟩)
        refine ⟨hF_10, hA_11, (fun q hq => (F_10_o q hq)), (fun q hq => (A_11_o q hq)), ?_⟩
        (first | trivial | omega | exact ⟨by omega, by omega⟩ | assumption)
      · rw [i_nge] at c_8
        refine ok_some ?_
        refine ⟨hF, hA, (fun q hq => rfl), (fun q hq => rfl), ?_⟩
        (first | trivial | omega | exact ⟨by omega, by omega⟩ | assumption)
set_option maxRecDepth 10000 in
theorem s_d_isSuspect_2  {n : Nat} {k : Int} {F : Nat → Int32} {A : Nat → Nat → Int32} {J : Nat → Nat → Int64} {x1 : Int32} {x2 : Int32} {x3 : Int32} (hF : IFm F) (hA : IAm A) (hk : k ≤ 6) (hk0 : 0 ≤ k) (VFA : VMs F A) (MFA : k = ai A 29 (F 18).toInt) (PFA : RVm F A 47 k) (hx1 : 0 ≤ x1.toInt ∧ x1.toInt < k) (rx2 : 0 ≤ x2.toInt ∧ x2.toInt ≤ 30) (rx3 : 0 ≤ x3.toInt ∧ x3.toInt ≤ 40) (hn : 10800 - x3.toInt < (n : Int)) : ok (d_isSuspect_2 n F A J x1 x2 x3) (fun r => IFm r.2.1 ∧ IAm r.2.2.1 ∧ (∀ q, q ∉ ([63] : List Nat) → r.2.1 q = F q) ∧ (∀ q, q ∉ ([45, 46, 48, 49, 50, 51, 52, 53, 54, 55, 56] : List Nat) → r.2.2.1 q = A q) ∧ True) := by
  induction n generalizing F A J x3 with
  | zero => exact absurd hn (by omega)
  | succ n ih =>
    have r18 : 0 ≤ (F 18).toInt ∧ (F 18).toInt ≤ 1 := hF 18
    unfold d_isSuspect_2
    refine ok_call (s_d_options hF hA (by omega)) ?_
    intro v_1 v_1_p
    have v_1_p : 1 ≤ v_1.toInt ∧ v_1.toInt ≤ 37 := v_1_p
    refine ok_cond (fun c_2 => ?_) (fun c_2 => ?_)
    · rw [i_ge] at c_2
      refine ok_some ?_
      refine ⟨hF, hA, (fun q hq => rfl), (fun q hq => rfl), ?_⟩
      (first | trivial | omega | exact ⟨by omega, by omega⟩ | assumption)
    · rw [i_nge] at c_2
      refine ok_call (s2_d_takes hF hA (by omega) (by omega) (PFA)) ?_
      rintro ⟨u_3, F_4, A_5, J_6⟩ ⟨hF_4, hA_5, F_4_o, A_5_o, u_3_p⟩
      dsimp only at hF_4 hA_5 F_4_o A_5_o u_3_p ⊢
      have u_3_p : RVm F_4 A_5 48 k := u_3_p
      have r_7 : 0 ≤ (F_4 18).toInt ∧ (F_4 18).toInt ≤ 1 := hF_4 18
      have r_8 : 0 ≤ (F 18).toInt ∧ (F 18).toInt ≤ 1 := hF 18
      have f_9 : (F_4 18).toInt = (F 18).toInt := congrArg Int32.toInt (F_4_o 18 (by decide))
      have VF_4A_5 : VMs F_4 A_5 := VFA.fr (F_4_o 18 (by decide)) (fun q h1 h2 => A_5_o q (by intro e; simp at e <;> omega))
      have MF_4A_5 : k = ai A_5 29 (F_4 18).toInt := by rw [ai_fr (A_5_o 29 (by decide)), F_4_o 18 (by decide)] <;> exact MFA
      have PF_4A_5 : RVm F_4 A_5 47 k := PFA.cg (F_4_o 18 (by decide)) (A_5_o 19 (by decide)) (A_5_o 22 (by decide)) (fun m _ _ => by rw [ai_fr (A_5_o 47 (by decide))]; exact ⟨rfl, rfl⟩)
      have RF_4A_5 : RVm F_4 A_5 48 k := u_3_p
      refine ok_call (s_d_leaves hF_4 hA_5 (by omega) (by omega) (by omega)) ?_
      rintro ⟨v_10, F_11, A_12, J_13⟩ ⟨hF_11, hA_12, F_11_o, A_12_o, v_10_p⟩
      dsimp only at hF_11 hA_12 F_11_o A_12_o v_10_p ⊢
      have v_10_p : (RVm F_4 A_5 48 k → RVm F_11 A_12 48 k) := v_10_p
      have r_14 : 0 ≤ (F_11 18).toInt ∧ (F_11 18).toInt ≤ 1 := hF_11 18
      have f_15 : (F_11 18).toInt = (F_4 18).toInt := congrArg Int32.toInt (F_11_o 18 (by decide))
      have VF_11A_12 : VMs F_11 A_12 := VF_4A_5.fr (F_11_o 18 (by decide)) (fun q h1 h2 => A_12_o q (by intro e; simp at e <;> omega))
      have MF_11A_12 : k = ai A_12 29 (F_11 18).toInt := by rw [ai_fr (A_12_o 29 (by decide)), F_11_o 18 (by decide)] <;> exact MF_4A_5
      have PF_11A_12 : RVm F_11 A_12 47 k := PF_4A_5.cg (F_11_o 18 (by decide)) (A_12_o 19 (by decide)) (A_12_o 22 (by decide)) (fun m _ _ => by rw [ai_fr (A_12_o 47 (by decide))]; exact ⟨rfl, rfl⟩)
      have RF_11A_12 : RVm F_11 A_12 48 k := v_10_p RF_4A_5
      have l_16 : (42 : Int32).toInt = 42 := by decide
      have e_17 := i_add (x := 42) (y := x1) (by omega) (by omega)
      refine ok_ld (j := 48) hA_12 (by omega) (by omega) ?_
      intro v_18 v_18_e v_18_r
      refine ok_ld (j := 47) hA_12 (by omega) (by omega) ?_
      intro v_19 v_19_e v_19_r
      refine ok_cond (fun c_20 => ?_) (fun c_20 => ?_)
      · rw [i_ne] at c_20
        unfold d_isSuspect_66
        refine ok_call (s_d_isSo hF_11 hA_12 (by omega) (by omega) (by omega) (VF_11A_12) (MF_11A_12) (RF_11A_12) (by omega)) ?_
        rintro ⟨v_21, F_22, A_23, J_24⟩ ⟨hF_22, hA_23, F_22_o, A_23_o, v_21_p⟩
        dsimp only at hF_22 hA_23 F_22_o A_23_o v_21_p ⊢
        have r_25 : 0 ≤ (F_22 18).toInt ∧ (F_22 18).toInt ≤ 1 := hF_22 18
        have f_26 : (F_22 18).toInt = (F_11 18).toInt := congrArg Int32.toInt (F_22_o 18 (by decide))
        have VF_22A_23 : VMs F_22 A_23 := VF_11A_12.fr (F_22_o 18 (by decide)) (fun q h1 h2 => A_23_o q (by intro e; simp at e <;> omega))
        have MF_22A_23 : k = ai A_23 29 (F_22 18).toInt := by rw [ai_fr (A_23_o 29 (by decide)), F_22_o 18 (by decide)] <;> exact MF_11A_12
        have PF_22A_23 : RVm F_22 A_23 47 k := PF_11A_12.cg (F_22_o 18 (by decide)) (A_23_o 19 (by decide)) (A_23_o 22 (by decide)) (fun m _ _ => by rw [ai_fr (A_23_o 47 (by decide))]; exact ⟨rfl, rfl⟩)
        have l_27 : (0 : Int32).toInt = 0 := by decide
        refine ok_cond (fun c_28 => ?_) (fun c_28 => ?_)
        · rw [i_eq] at c_28
          unfold d_isSuspect_76
          have l_29 : (1 : Int32).toInt = 1 := by decide
          have e_30 := i_add (x := x3) (y := 1) (by omega) (by omega)
          refine ok_mono (ih hF_22 hA_23 (VF_22A_23) (MF_22A_23) (PF_22A_23) (by omega) (by omega)) ?_
          rintro ⟨v_31, F_32, A_33, J_34⟩ ⟨hF_32, hA_33, F_32_o, A_33_o, v_31_p⟩
          dsimp only at hF_32 hA_33 F_32_o A_33_o v_31_p ⊢
          have VF_32A_33 : VMs F_32 A_33 := VF_22A_23.fr (F_32_o 18 (by decide)) (fun q h1 h2 => A_33_o q (by intro e; simp at e <;> omega))
          have MF_32A_33 : k = ai A_33 29 (F_32 18).toInt := by rw [ai_fr (A_33_o 29 (by decide)), F_32_o 18 (by decide)] <;> exact MF_22A_23
          have PF_32A_33 : RVm F_32 A_33 47 k := PF_22A_23.cg (F_32_o 18 (by decide)) (A_33_o 19 (by decide)) (A_33_o 22 (by decide)) (fun m _ _ => by rw [ai_fr (A_33_o 47 (by decide))]; exact ⟨rfl, rfl⟩)
          refine ⟨hF_32, hA_33, (fun q hq => ((((F_32_o q hq).trans (F_22_o q hq)).trans (F_11_o q (fun e => hq ((by decide : ∀ x, x ∈ ([] : List Nat) → x ∈ ([63] : List Nat)) q e)))).trans (F_4_o q (fun e => hq ((by decide : ∀ x, x ∈ ([] : List Nat) → x ∈ ([63] : List Nat)) q e))))), (fun q hq => ((((A_33_o q hq).trans (A_23_o q hq)).trans (A_12_o q (fun e => hq ((by decide : ∀ x, x ∈ ([48] : List Nat) → x ∈ ([45, 46, 48, 49, 50, 51, 52, 53, 54, 55, 56] : List Nat)) q e)))).trans (A_5_o q (fun e => hq ((by decide : ∀ x, x ∈ ([48] : List Nat) → x ∈ ([45, 46, 48, 49, 50, 51, 52, 53, 54, 55, 56] : List Nat)) q e))))), ?_⟩
          (first | trivial | omega | exact ⟨by omega, by omega⟩ | assumption)
        · rw [i_neq] at c_28
          refine ok_some ?_
          refine ⟨hF_22, hA_23, (fun q hq => (((F_22_o q hq).trans (F_11_o q (fun e => hq ((by decide : ∀ x, x ∈ ([] : List Nat) → x ∈ ([63] : List Nat)) q e)))).trans (F_4_o q (fun e => hq ((by decide : ∀ x, x ∈ ([] : List Nat) → x ∈ ([63] : List Nat)) q e))))), (fun q hq => (((A_23_o q hq).trans (A_12_o q (fun e => hq ((by decide : ∀ x, x ∈ ([48] : List Nat) → x ∈ ([45, 46, 48, 49, 50, 51, 52, 53, 54, 55, 56] : List Nat)) q e)))).trans (A_5_o q (fun e => hq ((by decide : ∀ x, x ∈ ([48] : List Nat) → x ∈ ([45, 46, 48, 49, 50, 51, 52, 53, 54, 55, 56] : List Nat)) q e))))), ?_⟩
          (first | trivial | omega | exact ⟨by omega, by omega⟩ | assumption)
      · rw [i_nne] at c_20
        have l_35 : (48 : Int32).toInt = 48 := by decide
        have e_36 := i_add (x := 48) (y := x1) (by omega) (by omega)
        refine ok_ld (j := 48) hA_12 (by omega) (by omega) ?_
        intro v_37 v_37_e v_37_r
        refine ok_ld (j := 47) hA_12 (by omega) (by omega) ?_
        intro v_38 v_38_e v_38_r
        refine ok_cond (fun c_39 => ?_) (fun c_39 => ?_)
        · rw [i_ne] at c_39
          unfold d_isSuspect_66
          refine ok_call (s_d_isSo hF_11 hA_12 (by omega) (by omega) (by omega) (VF_11A_12) (MF_11A_12) (RF_11A_12) (by omega)) ?_
          rintro ⟨v_40, F_41, A_42, J_43⟩ ⟨hF_41, hA_42, F_41_o, A_42_o, v_40_p⟩
          dsimp only at hF_41 hA_42 F_41_o A_42_o v_40_p ⊢
          have r_44 : 0 ≤ (F_41 18).toInt ∧ (F_41 18).toInt ≤ 1 := hF_41 18
          have f_45 : (F_41 18).toInt = (F_11 18).toInt := congrArg Int32.toInt (F_41_o 18 (by decide))
          have VF_41A_42 : VMs F_41 A_42 := VF_11A_12.fr (F_41_o 18 (by decide)) (fun q h1 h2 => A_42_o q (by intro e; simp at e <;> omega))
          have MF_41A_42 : k = ai A_42 29 (F_41 18).toInt := by rw [ai_fr (A_42_o 29 (by decide)), F_41_o 18 (by decide)] <;> exact MF_11A_12
          have PF_41A_42 : RVm F_41 A_42 47 k := PF_11A_12.cg (F_41_o 18 (by decide)) (A_42_o 19 (by decide)) (A_42_o 22 (by decide)) (fun m _ _ => by rw [ai_fr (A_42_o 47 (by decide))]; exact ⟨rfl, rfl⟩)
          have l_46 : (0 : Int32).toInt = 0 := by decide
          refine ok_cond (fun c_47 => ?_) (fun c_47 => ?_)
          · rw [i_eq] at c_47
            unfold d_isSuspect_76
            have l_48 : (1 : Int32).toInt = 1 := by decide
            have e_49 := i_add (x := x3) (y := 1) (by omega) (by omega)
            refine ok_mono (ih hF_41 hA_42 (VF_41A_42) (MF_41A_42) (PF_41A_42) (by omega) (by omega)) ?_
            rintro ⟨v_50, F_51, A_52, J_53⟩ ⟨hF_51, hA_52, F_51_o, A_52_o, v_50_p⟩
            dsimp only at hF_51 hA_52 F_51_o A_52_o v_50_p ⊢
            have VF_51A_52 : VMs F_51 A_52 := VF_41A_42.fr (F_51_o 18 (by decide)) (fun q h1 h2 => A_52_o q (by intro e; simp at e <;> omega))
            have MF_51A_52 : k = ai A_52 29 (F_51 18).toInt := by rw [ai_fr (A_52_o 29 (by decide)), F_51_o 18 (by decide)] <;> exact MF_41A_42
            have PF_51A_52 : RVm F_51 A_52 47 k := PF_41A_42.cg (F_51_o 18 (by decide)) (A_52_o 19 (by decide)) (A_52_o 22 (by decide)) (fun m _ _ => by rw [ai_fr (A_52_o 47 (by decide))]; exact ⟨rfl, rfl⟩)
            refine ⟨hF_51, hA_52, (fun q hq => ((((F_51_o q hq).trans (F_41_o q hq)).trans (F_11_o q (fun e => hq ((by decide : ∀ x, x ∈ ([] : List Nat) → x ∈ ([63] : List Nat)) q e)))).trans (F_4_o q (fun e => hq ((by decide : ∀ x, x ∈ ([] : List Nat) → x ∈ ([63] : List Nat)) q e))))), (fun q hq => ((((A_52_o q hq).trans (A_42_o q hq)).trans (A_12_o q (fun e => hq ((by decide : ∀ x, x ∈ ([48] : List Nat) → x ∈ ([45, 46, 48, 49, 50, 51, 52, 53, 54, 55, 56] : List Nat)) q e)))).trans (A_5_o q (fun e => hq ((by decide : ∀ x, x ∈ ([48] : List Nat) → x ∈ ([45, 46, 48, 49, 50, 51, 52, 53, 54, 55, 56] : List Nat)) q e))))), ?_⟩
            (first | trivial | omega | exact ⟨by omega, by omega⟩ | assumption)
          · rw [i_neq] at c_47
            refine ok_some ?_
            refine ⟨hF_41, hA_42, (fun q hq => (((F_41_o q hq).trans (F_11_o q (fun e => hq ((by decide : ∀ x, x ∈ ([] : List Nat) → x ∈ ([63] : List Nat)) q e)))).trans (F_4_o q (fun e => hq ((by decide : ∀ x, x ∈ ([] : List Nat) → x ∈ ([63] : List Nat)) q e))))), (fun q hq => (((A_42_o q hq).trans (A_12_o q (fun e => hq ((by decide : ∀ x, x ∈ ([48] : List Nat) → x ∈ ([45, 46, 48, 49, 50, 51, 52, 53, 54, 55, 56] : List Nat)) q e)))).trans (A_5_o q (fun e => hq ((by decide : ∀ x, x ∈ ([48] : List Nat) → x ∈ ([45, 46, 48, 49, 50, 51, 52, 53, 54, 55, 56] : List Nat)) q e))))), ?_⟩
            (first | trivial | omega | exact ⟨by omega, by omega⟩ | assumption)
        · rw [i_nne] at c_39
          unfold d_isSuspect_76
          have l_54 : (1 : Int32).toInt = 1 := by decide
          have e_55 := i_add (x := x3) (y := 1) (by omega) (by omega)
          refine ok_mono (ih hF_11 hA_12 (VF_11A_12) (MF_11A_12) (PF_11A_12) (by omega) (by omega)) ?_
          rintro ⟨v_56, F_57, A_58, J_59⟩ ⟨hF_57, hA_58, F_57_o, A_58_o, v_56_p⟩
          dsimp only at hF_57 hA_58 F_57_o A_58_o v_56_p ⊢
          have VF_57A_58 : VMs F_57 A_58 := VF_11A_12.fr (F_57_o 18 (by decide)) (fun q h1 h2 => A_58_o q (by intro e; simp at e <;> omega))
          have MF_57A_58 : k = ai A_58 29 (F_57 18).toInt := by rw [ai_fr (A_58_o 29 (by decide)), F_57_o 18 (by decide)] <;> exact MF_11A_12
          have PF_57A_58 : RVm F_57 A_58 47 k := PF_11A_12.cg (F_57_o 18 (by decide)) (A_58_o 19 (by decide)) (A_58_o 22 (by decide)) (fun m _ _ => by rw [ai_fr (A_58_o 47 (by decide))]; exact ⟨rfl, rfl⟩)
          refine ⟨hF_57, hA_58, (fun q hq => (((F_57_o q hq).trans (F_11_o q (fun e => hq ((by decide : ∀ x, x ∈ ([] : List Nat) → x ∈ ([63] : List Nat)) q e)))).trans (F_4_o q (fun e => hq ((by decide : ∀ x, x ∈ ([] : List Nat) → x ∈ ([63] : List Nat)) q e))))), (fun q hq => (((A_58_o q hq).trans (A_12_o q (fun e => hq ((by decide : ∀ x, x ∈ ([48] : List Nat) → x ∈ ([45, 46, 48, 49, 50, 51, 52, 53, 54, 55, 56] : List Nat)) q e)))).trans (A_5_o q (fun e => hq ((by decide : ∀ x, x ∈ ([48] : List Nat) → x ∈ ([45, 46, 48, 49, 50, 51, 52, 53, 54, 55, 56] : List Nat)) q e))))), ?_⟩
          (first | trivial | omega | exact ⟨by omega, by omega⟩ | assumption)
set_option maxRecDepth 10000 in
theorem s_d_isSuspect {n : Nat} {k : Int} {F : Nat → Int32} {A : Nat → Nat → Int32} {J : Nat → Nat → Int64} {x1 : Int32} {x2 : Int32} (hF : IFm F) (hA : IAm A) (hn : 10900 ≤ n) (hk : k ≤ 6) (hk0 : 0 ≤ k) (VFA : VMs F A) (MFA : k = ai A 29 (F 18).toInt) (PFA : RVm F A 47 k) (hx1 : 0 ≤ x1.toInt ∧ x1.toInt < k) (rx2 : 0 ≤ x2.toInt ∧ x2.toInt ≤ 30) : ok (d_isSuspect n F A J x1 x2) (fun r => IFm r.2.1 ∧ IAm r.2.2.1 ∧ (∀ q, q ∉ ([63] : List Nat) → r.2.1 q = F q) ∧ (∀ q, q ∉ ([45, 46, 48, 49, 50, 51, 52, 53, 54, 55, 56] : List Nat) → r.2.2.1 q = A q) ∧ True) := by
  have r18 : 0 ≤ (F 18).toInt ∧ (F 18).toInt ≤ 1 := hF 18
  unfold d_isSuspect
  have l_1 : (0 : Int32).toInt = 0 := by decide
  refine ok_mono (s_d_isSuspect_2 hF hA (by omega) (by omega) (VFA) (MFA) (PFA) (by omega) (by omega) (by omega) (by omega)) ?_
  rintro ⟨v_2, F_3, A_4, J_5⟩ ⟨hF_3, hA_4, F_3_o, A_4_o, v_2_p⟩
  dsimp only at hF_3 hA_4 F_3_o A_4_o v_2_p ⊢
  have VF_3A_4 : VMs F_3 A_4 := VFA.fr (F_3_o 18 (by decide)) (fun q h1 h2 => A_4_o q (by intro e; simp at e <;> omega))
  have MF_3A_4 : k = ai A_4 29 (F_3 18).toInt := by rw [ai_fr (A_4_o 29 (by decide)), F_3_o 18 (by decide)] <;> exact MFA
  have PF_3A_4 : RVm F_3 A_4 47 k := PFA.cg (F_3_o 18 (by decide)) (A_4_o 19 (by decide)) (A_4_o 22 (by decide)) (fun m _ _ => by rw [ai_fr (A_4_o 47 (by decide))]; exact ⟨rfl, rfl⟩)
  refine ⟨hF_3, hA_4, (fun q hq => (F_3_o q hq)), (fun q hq => (A_4_o q hq)), ?_⟩
  (first | trivial | omega | exact ⟨by omega, by omega⟩ | assumption)
set_option maxRecDepth 10000 in
theorem s_d_suspects_18  {n : Nat} {k : Int} {F : Nat → Int32} {A : Nat → Nat → Int32} {J : Nat → Nat → Int64} {x1 : Int32} {x2 : Int32} {x3 : Int32} (hF : IFm F) (hA : IAm A) (hk : k ≤ 6) (hk0 : 0 ≤ k) (VFA : VMs F A) (MFA : k = ai A 29 (F 18).toInt) (PFA : RVm F A 47 k) (rx1 : 0 ≤ x1.toInt ∧ x1.toInt ≤ 30) (rx3 : 0 ≤ x3.toInt ∧ x3.toInt ≤ 6) (hn : 10950 - x3.toInt < (n : Int)) : ok (d_suspects_18 n F A J x1 x2 x3) (fun r => IFm r.2.1 ∧ IAm r.2.2.1 ∧ (∀ q, q ∉ ([63] : List Nat) → r.2.1 q = F q) ∧ (∀ q, q ∉ ([45, 46, 48, 49, 50, 51, 52, 53, 54, 55, 56] : List Nat) → r.2.2.1 q = A q) ∧ True) := by
  induction n generalizing F A J x2 x3 with
  | zero => exact absurd hn (by omega)
  | succ n ih =>
    have r18 : 0 ≤ (F 18).toInt ∧ (F 18).toInt ≤ 1 := hF 18
    unfold d_suspects_18
    refine ok_call (s_d_menNow hF hA) ?_
    intro v_1 v_1_p
    have v_1_p : v_1.toInt = ai A 29 (F 18).toInt ∧ 0 ≤ v_1.toInt ∧ v_1.toInt ≤ 6 := v_1_p
    refine ok_cond (fun c_2 => ?_) (fun c_2 => ?_)
    · rw [i_ge] at c_2
      refine ok_some ?_
      refine ⟨hF, hA, (fun q hq => rfl), (fun q hq => rfl), ?_⟩
      (first | trivial | omega | exact ⟨by omega, by omega⟩ | assumption)
    · rw [i_nge] at c_2
      refine ok_call (s_d_isSuspect hF hA (by omega) (by omega) (by omega) (VFA) (MFA) (PFA) (by omega) (by omega)) ?_
      rintro ⟨v_3, F_4, A_5, J_6⟩ ⟨hF_4, hA_5, F_4_o, A_5_o, v_3_p⟩
      dsimp only at hF_4 hA_5 F_4_o A_5_o v_3_p ⊢
      have r_7 : 0 ≤ (F_4 18).toInt ∧ (F_4 18).toInt ≤ 1 := hF_4 18
      have r_8 : 0 ≤ (F 18).toInt ∧ (F 18).toInt ≤ 1 := hF 18
      have f_9 : (F_4 18).toInt = (F 18).toInt := congrArg Int32.toInt (F_4_o 18 (by decide))
      have VF_4A_5 : VMs F_4 A_5 := VFA.fr (F_4_o 18 (by decide)) (fun q h1 h2 => A_5_o q (by intro e; simp at e <;> omega))
      have MF_4A_5 : k = ai A_5 29 (F_4 18).toInt := by rw [ai_fr (A_5_o 29 (by decide)), F_4_o 18 (by decide)] <;> exact MFA
      have PF_4A_5 : RVm F_4 A_5 47 k := PFA.cg (F_4_o 18 (by decide)) (A_5_o 19 (by decide)) (A_5_o 22 (by decide)) (fun m _ _ => by rw [ai_fr (A_5_o 47 (by decide))]; exact ⟨rfl, rfl⟩)
      have l_10 : (0 : Int32).toInt = 0 := by decide
      refine ok_cond (fun c_11 => ?_) (fun c_11 => ?_)
      · rw [i_eq] at c_11
        unfold d_suspects_41
        have l_12 : (1 : Int32).toInt = 1 := by decide
        have e_13 := i_add (x := x3) (y := 1) (by omega) (by omega)
        refine ok_mono (ih hF_4 hA_5 (VF_4A_5) (MF_4A_5) (PF_4A_5) (by omega) (by omega)) ?_
        rintro ⟨v_14, F_15, A_16, J_17⟩ ⟨hF_15, hA_16, F_15_o, A_16_o, v_14_p⟩
        dsimp only at hF_15 hA_16 F_15_o A_16_o v_14_p ⊢
        have VF_15A_16 : VMs F_15 A_16 := VF_4A_5.fr (F_15_o 18 (by decide)) (fun q h1 h2 => A_16_o q (by intro e; simp at e <;> omega))
        have MF_15A_16 : k = ai A_16 29 (F_15 18).toInt := by rw [ai_fr (A_16_o 29 (by decide)), F_15_o 18 (by decide)] <;> exact MF_4A_5
        have PF_15A_16 : RVm F_15 A_16 47 k := PF_4A_5.cg (F_15_o 18 (by decide)) (A_16_o 19 (by decide)) (A_16_o 22 (by decide)) (fun m _ _ => by rw [ai_fr (A_16_o 47 (by decide))]; exact ⟨rfl, rfl⟩)
        refine ⟨hF_15, hA_16, (fun q hq => ((F_15_o q hq).trans (F_4_o q hq))), (fun q hq => ((A_16_o q hq).trans (A_5_o q hq))), ?_⟩
        (first | trivial | omega | exact ⟨by omega, by omega⟩ | assumption)
      · rw [i_neq] at c_11
        unfold d_suspects_41
        have l_18 : (1 : Int32).toInt = 1 := by decide
        have e_19 := i_add (x := x3) (y := 1) (by omega) (by omega)
        refine ok_mono (ih hF_4 hA_5 (VF_4A_5) (MF_4A_5) (PF_4A_5) (by omega) (by omega)) ?_
        rintro ⟨v_20, F_21, A_22, J_23⟩ ⟨hF_21, hA_22, F_21_o, A_22_o, v_20_p⟩
        dsimp only at hF_21 hA_22 F_21_o A_22_o v_20_p ⊢
        have VF_21A_22 : VMs F_21 A_22 := VF_4A_5.fr (F_21_o 18 (by decide)) (fun q h1 h2 => A_22_o q (by intro e; simp at e <;> omega))
        have MF_21A_22 : k = ai A_22 29 (F_21 18).toInt := by rw [ai_fr (A_22_o 29 (by decide)), F_21_o 18 (by decide)] <;> exact MF_4A_5
        have PF_21A_22 : RVm F_21 A_22 47 k := PF_4A_5.cg (F_21_o 18 (by decide)) (A_22_o 19 (by decide)) (A_22_o 22 (by decide)) (fun m _ _ => by rw [ai_fr (A_22_o 47 (by decide))]; exact ⟨rfl, rfl⟩)
        refine ⟨hF_21, hA_22, (fun q hq => ((F_21_o q hq).trans (F_4_o q hq))), (fun q hq => ((A_22_o q hq).trans (A_5_o q hq))), ?_⟩
        (first | trivial | omega | exact ⟨by omega, by omega⟩ | assumption)
set_option maxRecDepth 10000 in
theorem s_d_suspects {n : Nat} {k : Int} {F : Nat → Int32} {A : Nat → Nat → Int32} {J : Nat → Nat → Int64} {x1 : Int32} (hF : IFm F) (hA : IAm A) (hn : 11000 ≤ n) (hk : k ≤ 6) (hk0 : 0 ≤ k) (VFA : VMs F A) (MFA : k = ai A 29 (F 18).toInt) (PFA : RVm F A 47 k) : ok (d_suspects n F A J x1) (fun r => IFm r.2.1 ∧ IAm r.2.2.1 ∧ (∀ q, q ∉ ([63] : List Nat) → r.2.1 q = F q) ∧ (∀ q, q ∉ ([45, 46, 48, 49, 50, 51, 52, 53, 54, 55, 56] : List Nat) → r.2.2.1 q = A q) ∧ True) := by
  have r18 : 0 ≤ (F 18).toInt ∧ (F 18).toInt ≤ 1 := hF 18
  unfold d_suspects
  have l_1 : (0 : Int32).toInt = 0 := by decide
  have r_2 : 0 ≤ (F 77).toInt ∧ (F 77).toInt ≤ 30 := hF 77
  refine ok_call (s_d_in ) ?_
  intro v_3 v_3_p
  have v_3_p : v_3.toInt = (if (0 : Int32).toInt ≤ x1.toInt ∧ x1.toInt ≤ (F 77).toInt then 1 else 0) := v_3_p
  refine ok_cond (fun c_4 => ?_) (fun c_4 => ?_)
  · rw [i_ne] at c_4
    refine ok_mono (s_d_suspects_18 hF hA (by omega) (by omega) (VFA) (MFA) (PFA) (by omega) (by omega) (by omega)) ?_
    rintro ⟨v_5, F_6, A_7, J_8⟩ ⟨hF_6, hA_7, F_6_o, A_7_o, v_5_p⟩
    dsimp only at hF_6 hA_7 F_6_o A_7_o v_5_p ⊢
    have VF_6A_7 : VMs F_6 A_7 := VFA.fr (F_6_o 18 (by decide)) (fun q h1 h2 => A_7_o q (by intro e; simp at e <;> omega))
    have MF_6A_7 : k = ai A_7 29 (F_6 18).toInt := by rw [ai_fr (A_7_o 29 (by decide)), F_6_o 18 (by decide)] <;> exact MFA
    have PF_6A_7 : RVm F_6 A_7 47 k := PFA.cg (F_6_o 18 (by decide)) (A_7_o 19 (by decide)) (A_7_o 22 (by decide)) (fun m _ _ => by rw [ai_fr (A_7_o 47 (by decide))]; exact ⟨rfl, rfl⟩)
    refine ⟨hF_6, hA_7, (fun q hq => (F_6_o q hq)), (fun q hq => (A_7_o q hq)), ?_⟩
    (first | trivial | omega | exact ⟨by omega, by omega⟩ | assumption)
  · rw [i_nne] at c_4
    refine ok_some ?_
    refine ⟨hF, hA, (fun q hq => rfl), (fun q hq => rfl), ?_⟩
    (first | trivial | omega | exact ⟨by omega, by omega⟩ | assumption)
set_option maxRecDepth 10000 in
theorem s_d_pairs_53 {K41 : (Nat → Int32) → (Nat → Nat → Int32) → (Nat → Nat → Int64) → Int32 → Int32 → Int32 → Int32 → Int32 → Option (Int32 × (Nat → Int32) × (Nat → Nat → Int32) × (Nat → Nat → Int64))} {Q : Int32 × (Nat → Int32) × (Nat → Nat → Int32) × (Nat → Nat → Int64) → Prop} {n : Nat} {F0 : Nat → Int32} {A0 : Nat → Nat → Int32} {k : Int} {F : Nat → Int32} {A : Nat → Nat → Int32} {J : Nat → Nat → Int64} {x1 : Int32} {x2 : Int32} {x3 : Int32} {x4 : Int32} {x5 : Int32} {x6 : Int32} (hF : IFm F) (hA : IAm A) (bF : ∀ q, q ∉ ([63] : List Nat) → F q = F0 q) (bA : ∀ q, q ∉ ([45, 46, 48, 49, 50, 51, 52, 53, 54, 55, 56] : List Nat) → A q = A0 q) (hk : k ≤ 6) (hV : VMs F0 A0) (hM : k = ai A0 29 (F0 18).toInt) (hP : RVm F0 A0 47 k) (hk0 : 0 ≤ k) (hx1 : 0 ≤ x1.toInt ∧ x1.toInt < k) (hx2 : 0 ≤ x2.toInt ∧ x2.toInt < k) (rx3 : 0 ≤ x3.toInt ∧ x3.toInt ≤ 30) (rx5 : 0 ≤ x5.toInt ∧ x5.toInt ≤ 40) (rx6 : 0 ≤ x6.toInt ∧ x6.toInt ≤ 40) (hK41 : ∀ F A J (x4 : Int32), IFm F → IAm A → (∀ q, q ∉ ([63] : List Nat) → F q = F0 q) → (∀ q, q ∉ ([45, 46, 48, 49, 50, 51, 52, 53, 54, 55, 56] : List Nat) → A q = A0 q) → ok (K41 F A J x1 x2 x3 x4 (x5 + 1)) Q) (hn : 10800 - x6.toInt < (n : Int)) : ok (d_pairs_53 K41 n F A J x1 x2 x3 x4 x5 x6) (Q) := by
  induction n generalizing F A J x4 x6 with
  | zero => exact absurd hn (by omega)
  | succ n ih =>
    have r18 : 0 ≤ (F 18).toInt ∧ (F 18).toInt ≤ 1 := hF 18
    have VFA : VMs F A := hV.fr (bF 18 (by decide)) (fun q h1 h2 => bA q (by intro e; simp at e <;> omega))
    have MFA : k = ai A 29 (F 18).toInt := by rw [ai_fr (bA 29 (by decide)), bF 18 (by decide)]; exact hM
    have PFA : RVm F A 47 k := hP.cg (bF 18 (by decide)) (bA 19 (by decide)) (bA 22 (by decide)) (fun m _ _ => by rw [ai_fr (bA 47 (by decide))]; exact ⟨rfl, rfl⟩)
    unfold d_pairs_53
    refine ok_call (s_d_options hF hA (by omega)) ?_
    intro v_1 v_1_p
    have v_1_p : 1 ≤ v_1.toInt ∧ v_1.toInt ≤ 37 := v_1_p
    refine ok_cond (fun c_2 => ?_) (fun c_2 => ?_)
    · rw [i_ge] at c_2
      exact hK41 _ _ _ _ hF hA (fun q hq => (bF q hq)) (fun q hq => (bA q hq)) 
    · rw [i_nge] at c_2
      refine ok_call (s2_d_takes hF hA (by omega) (by omega) (PFA)) ?_
      rintro ⟨u_3, F_4, A_5, J_6⟩ ⟨hF_4, hA_5, F_4_o, A_5_o, u_3_p⟩
      dsimp only at hF_4 hA_5 F_4_o A_5_o u_3_p ⊢
      have u_3_p : RVm F_4 A_5 48 k := u_3_p
      have r_7 : 0 ≤ (F_4 18).toInt ∧ (F_4 18).toInt ≤ 1 := hF_4 18
      have r_8 : 0 ≤ (F 18).toInt ∧ (F 18).toInt ≤ 1 := hF 18
      have f_9 : (F_4 18).toInt = (F 18).toInt := congrArg Int32.toInt (F_4_o 18 (by decide))
      have VF_4A_5 : VMs F_4 A_5 := VFA.fr (F_4_o 18 (by decide)) (fun q h1 h2 => A_5_o q (by intro e; simp at e <;> omega))
      have MF_4A_5 : k = ai A_5 29 (F_4 18).toInt := by rw [ai_fr (A_5_o 29 (by decide)), F_4_o 18 (by decide)] <;> exact MFA
      have PF_4A_5 : RVm F_4 A_5 47 k := PFA.cg (F_4_o 18 (by decide)) (A_5_o 19 (by decide)) (A_5_o 22 (by decide)) (fun m _ _ => by rw [ai_fr (A_5_o 47 (by decide))]; exact ⟨rfl, rfl⟩)
      have RF_4A_5 : RVm F_4 A_5 48 k := u_3_p
      refine ok_call (s_d_leaves hF_4 hA_5 (by omega) (by omega) (by omega)) ?_
      rintro ⟨v_10, F_11, A_12, J_13⟩ ⟨hF_11, hA_12, F_11_o, A_12_o, v_10_p⟩
      dsimp only at hF_11 hA_12 F_11_o A_12_o v_10_p ⊢
      have v_10_p : (RVm F_4 A_5 48 k → RVm F_11 A_12 48 k) := v_10_p
      have r_14 : 0 ≤ (F_11 18).toInt ∧ (F_11 18).toInt ≤ 1 := hF_11 18
      have f_15 : (F_11 18).toInt = (F_4 18).toInt := congrArg Int32.toInt (F_11_o 18 (by decide))
      have VF_11A_12 : VMs F_11 A_12 := VF_4A_5.fr (F_11_o 18 (by decide)) (fun q h1 h2 => A_12_o q (by intro e; simp at e <;> omega))
      have MF_11A_12 : k = ai A_12 29 (F_11 18).toInt := by rw [ai_fr (A_12_o 29 (by decide)), F_11_o 18 (by decide)] <;> exact MF_4A_5
      have PF_11A_12 : RVm F_11 A_12 47 k := PF_4A_5.cg (F_11_o 18 (by decide)) (A_12_o 19 (by decide)) (A_12_o 22 (by decide)) (fun m _ _ => by rw [ai_fr (A_12_o 47 (by decide))]; exact ⟨rfl, rfl⟩)
      have RF_11A_12 : RVm F_11 A_12 48 k := v_10_p RF_4A_5
      refine ok_call (s_d_leaves hF_11 hA_12 (by omega) (by omega) (by omega)) ?_
      rintro ⟨v_16, F_17, A_18, J_19⟩ ⟨hF_17, hA_18, F_17_o, A_18_o, v_16_p⟩
      dsimp only at hF_17 hA_18 F_17_o A_18_o v_16_p ⊢
      have v_16_p : (RVm F_11 A_12 48 k → RVm F_17 A_18 48 k) := v_16_p
      have r_20 : 0 ≤ (F_17 18).toInt ∧ (F_17 18).toInt ≤ 1 := hF_17 18
      have f_21 : (F_17 18).toInt = (F_11 18).toInt := congrArg Int32.toInt (F_17_o 18 (by decide))
      have VF_17A_18 : VMs F_17 A_18 := VF_11A_12.fr (F_17_o 18 (by decide)) (fun q h1 h2 => A_18_o q (by intro e; simp at e <;> omega))
      have MF_17A_18 : k = ai A_18 29 (F_17 18).toInt := by rw [ai_fr (A_18_o 29 (by decide)), F_17_o 18 (by decide)] <;> exact MF_11A_12
      have PF_17A_18 : RVm F_17 A_18 47 k := PF_11A_12.cg (F_17_o 18 (by decide)) (A_18_o 19 (by decide)) (A_18_o 22 (by decide)) (fun m _ _ => by rw [ai_fr (A_18_o 47 (by decide))]; exact ⟨rfl, rfl⟩)
      have RF_17A_18 : RVm F_17 A_18 48 k := v_16_p RF_11A_12
      refine ok_call (s_d_isSo hF_17 hA_18 (by omega) (by omega) (by omega) (VF_17A_18) (MF_17A_18) (RF_17A_18) (by omega)) ?_
      rintro ⟨v_22, F_23, A_24, J_25⟩ ⟨hF_23, hA_24, F_23_o, A_24_o, v_22_p⟩
      dsimp only at hF_23 hA_24 F_23_o A_24_o v_22_p ⊢
      have r_26 : 0 ≤ (F_23 18).toInt ∧ (F_23 18).toInt ≤ 1 := hF_23 18
      have f_27 : (F_23 18).toInt = (F_17 18).toInt := congrArg Int32.toInt (F_23_o 18 (by decide))
      have VF_23A_24 : VMs F_23 A_24 := VF_17A_18.fr (F_23_o 18 (by decide)) (fun q h1 h2 => A_24_o q (by intro e; simp at e <;> omega))
      have MF_23A_24 : k = ai A_24 29 (F_23 18).toInt := by rw [ai_fr (A_24_o 29 (by decide)), F_23_o 18 (by decide)] <;> exact MF_17A_18
      have PF_23A_24 : RVm F_23 A_24 47 k := PF_17A_18.cg (F_23_o 18 (by decide)) (A_24_o 19 (by decide)) (A_24_o 22 (by decide)) (fun m _ _ => by rw [ai_fr (A_24_o 47 (by decide))]; exact ⟨rfl, rfl⟩)
      have l_28 : (0 : Int32).toInt = 0 := by decide
      refine ok_cond (fun c_29 => ?_) (fun c_29 => ?_)
      · rw [i_eq] at c_29
        unfold d_pairs_93
        have l_30 : (1 : Int32).toInt = 1 := by decide
        have e_31 := i_add (x := x6) (y := 1) (by omega) (by omega)
        exact ih hF_23 hA_24 (fun q hq => (((((F_23_o q hq).trans (F_17_o q (fun e => hq ((by decide : ∀ x, x ∈ ([] : List Nat) → x ∈ ([63] : List Nat)) q e)))).trans (F_11_o q (fun e => hq ((by decide : ∀ x, x ∈ ([] : List Nat) → x ∈ ([63] : List Nat)) q e)))).trans (F_4_o q (fun e => hq ((by decide : ∀ x, x ∈ ([] : List Nat) → x ∈ ([63] : List Nat)) q e)))).trans (bF q hq))) (fun q hq => (((((A_24_o q hq).trans (A_18_o q (fun e => hq ((by decide : ∀ x, x ∈ ([48] : List Nat) → x ∈ ([45, 46, 48, 49, 50, 51, 52, 53, 54, 55, 56] : List Nat)) q e)))).trans (A_12_o q (fun e => hq ((by decide : ∀ x, x ∈ ([48] : List Nat) → x ∈ ([45, 46, 48, 49, 50, 51, 52, 53, 54, 55, 56] : List Nat)) q e)))).trans (A_5_o q (fun e => hq ((by decide : ∀ x, x ∈ ([48] : List Nat) → x ∈ ([45, 46, 48, 49, 50, 51, 52, 53, 54, 55, 56] : List Nat)) q e)))).trans (bA q hq))) (by omega) (by omega)
      · rw [i_neq] at c_29
        unfold d_pairs_93
        have l_32 : (1 : Int32).toInt = 1 := by decide
        have e_33 := i_add (x := x6) (y := 1) (by omega) (by omega)
        exact ih hF_23 hA_24 (fun q hq => (((((F_23_o q hq).trans (F_17_o q (fun e => hq ((by decide : ∀ x, x ∈ ([] : List Nat) → x ∈ ([63] : List Nat)) q e)))).trans (F_11_o q (fun e => hq ((by decide : ∀ x, x ∈ ([] : List Nat) → x ∈ ([63] : List Nat)) q e)))).trans (F_4_o q (fun e => hq ((by decide : ∀ x, x ∈ ([] : List Nat) → x ∈ ([63] : List Nat)) q e)))).trans (bF q hq))) (fun q hq => (((((A_24_o q hq).trans (A_18_o q (fun e => hq ((by decide : ∀ x, x ∈ ([48] : List Nat) → x ∈ ([45, 46, 48, 49, 50, 51, 52, 53, 54, 55, 56] : List Nat)) q e)))).trans (A_12_o q (fun e => hq ((by decide : ∀ x, x ∈ ([48] : List Nat) → x ∈ ([45, 46, 48, 49, 50, 51, 52, 53, 54, 55, 56] : List Nat)) q e)))).trans (A_5_o q (fun e => hq ((by decide : ∀ x, x ∈ ([48] : List Nat) → x ∈ ([45, 46, 48, 49, 50, 51, 52, 53, 54, 55, 56] : List Nat)) q e)))).trans (bA q hq))) (by omega) (by omega)
set_option maxRecDepth 10000 in
theorem s_d_pairs_41  {n : Nat} {F0 : Nat → Int32} {A0 : Nat → Nat → Int32} {k : Int} {F : Nat → Int32} {A : Nat → Nat → Int32} {J : Nat → Nat → Int64} {x1 : Int32} {x2 : Int32} {x3 : Int32} {x4 : Int32} {x5 : Int32} (hF : IFm F) (hA : IAm A) (bF : ∀ q, q ∉ ([63] : List Nat) → F q = F0 q) (bA : ∀ q, q ∉ ([45, 46, 48, 49, 50, 51, 52, 53, 54, 55, 56] : List Nat) → A q = A0 q) (hk : k ≤ 6) (hV : VMs F0 A0) (hM : k = ai A0 29 (F0 18).toInt) (hP : RVm F0 A0 47 k) (hk0 : 0 ≤ k) (hx1 : 0 ≤ x1.toInt ∧ x1.toInt < k) (hx2 : 0 ≤ x2.toInt ∧ x2.toInt < k) (rx3 : 0 ≤ x3.toInt ∧ x3.toInt ≤ 30) (rx5 : 0 ≤ x5.toInt ∧ x5.toInt ≤ 40) (hn : 10900 - x5.toInt < (n : Int)) : ok (d_pairs_41 n F A J x1 x2 x3 x4 x5) (fun r => IFm r.2.1 ∧ IAm r.2.2.1 ∧ (∀ q, q ∉ ([63] : List Nat) → r.2.1 q = F0 q) ∧ (∀ q, q ∉ ([45, 46, 48, 49, 50, 51, 52, 53, 54, 55, 56] : List Nat) → r.2.2.1 q = A0 q) ∧ True) := by
  induction n generalizing F A J x4 x5 with
  | zero => exact absurd hn (by omega)
  | succ n ih =>
    have r18 : 0 ≤ (F 18).toInt ∧ (F 18).toInt ≤ 1 := hF 18
    have VFA : VMs F A := hV.fr (bF 18 (by decide)) (fun q h1 h2 => bA q (by intro e; simp at e <;> omega))
    have MFA : k = ai A 29 (F 18).toInt := by rw [ai_fr (bA 29 (by decide)), bF 18 (by decide)]; exact hM
    have PFA : RVm F A 47 k := hP.cg (bF 18 (by decide)) (bA 19 (by decide)) (bA 22 (by decide)) (fun m _ _ => by rw [ai_fr (bA 47 (by decide))]; exact ⟨rfl, rfl⟩)
    unfold d_pairs_41
    refine ok_call (s_d_options hF hA (by omega)) ?_
    intro v_1 v_1_p
    have v_1_p : 1 ≤ v_1.toInt ∧ v_1.toInt ≤ 37 := v_1_p
    refine ok_cond (fun c_2 => ?_) (fun c_2 => ?_)
    · rw [i_ge] at c_2
      refine ok_some ?_
      refine ⟨hF, hA, (fun q hq => (bF q hq)), (fun q hq => (bA q hq)), ?_⟩
      (first | trivial | omega | exact ⟨by omega, by omega⟩ | assumption)
    · rw [i_nge] at c_2
      have l_3 : (0 : Int32).toInt = 0 := by decide
      have l_4 : (1 : Int32).toInt = 1 := by decide
      have e_5 := i_add (x := x5) (y := 1) (by omega) (by omega)
      exact s_d_pairs_53 (K41 := (d_pairs_41 n)) hF hA (fun q hq => (bF q hq)) (fun q hq => (bA q hq)) (by omega) (hV) (hM) (hP) (by omega) (by omega) (by omega) (by omega) (by omega) (by omega) (fun F A J x4 hF hA bF bA => ih hF hA bF bA (by omega) (by omega)) (by omega)
set_option maxRecDepth 10000 in
theorem s_d_pairs {n : Nat} {k : Int} {F : Nat → Int32} {A : Nat → Nat → Int32} {J : Nat → Nat → Int64} {x1 : Int32} {x2 : Int32} {x3 : Int32} (hF : IFm F) (hA : IAm A) (hn : 11000 ≤ n) (hk : k ≤ 6) (hk0 : 0 ≤ k) (VFA : VMs F A) (MFA : k = ai A 29 (F 18).toInt) (PFA : RVm F A 47 k) : ok (d_pairs n F A J x1 x2 x3) (fun r => IFm r.2.1 ∧ IAm r.2.2.1 ∧ (∀ q, q ∉ ([63] : List Nat) → r.2.1 q = F q) ∧ (∀ q, q ∉ ([45, 46, 48, 49, 50, 51, 52, 53, 54, 55, 56] : List Nat) → r.2.2.1 q = A q) ∧ True) := by
  have r18 : 0 ≤ (F 18).toInt ∧ (F 18).toInt ≤ 1 := hF 18
  unfold d_pairs
  refine ok_call (s_d_isMan hF hA) ?_
  intro v_1 v_1_p
  have v_1_p : (v_1.toInt = 0 ∨ (v_1.toInt = 1 ∧ 0 ≤ x1.toInt ∧ x1.toInt < ai A 29 (F 18).toInt ∧ x1.toInt < 6)) := v_1_p
  have l_2 : (0 : Int32).toInt = 0 := by decide
  refine ok_cond (fun c_3 => ?_) (fun c_3 => ?_)
  · rw [i_eq] at c_3
    refine ok_some ?_
    refine ⟨hF, hA, (fun q hq => rfl), (fun q hq => rfl), ?_⟩
    (first | trivial | omega | exact ⟨by omega, by omega⟩ | assumption)
  · rw [i_neq] at c_3
    refine ok_call (s_d_isMan hF hA) ?_
    intro v_4 v_4_p
    have v_4_p : (v_4.toInt = 0 ∨ (v_4.toInt = 1 ∧ 0 ≤ x2.toInt ∧ x2.toInt < ai A 29 (F 18).toInt ∧ x2.toInt < 6)) := v_4_p
    refine ok_cond (fun c_5 => ?_) (fun c_5 => ?_)
    · rw [i_eq] at c_5
      refine ok_some ?_
      refine ⟨hF, hA, (fun q hq => rfl), (fun q hq => rfl), ?_⟩
      (first | trivial | omega | exact ⟨by omega, by omega⟩ | assumption)
    · rw [i_neq] at c_5
      refine ok_cond (fun c_6 => ?_) (fun c_6 => ?_)
      · rw [i_eq] at c_6
        refine ok_some ?_
        refine ⟨hF, hA, (fun q hq => rfl), (fun q hq => rfl), ?_⟩
        (first | trivial | omega | exact ⟨by omega, by omega⟩ | assumption)
      · rw [i_neq] at c_6
        have r_7 : 0 ≤ (F 77).toInt ∧ (F 77).toInt ≤ 30 := hF 77
        refine ok_call (s_d_in ) ?_
        intro v_8 v_8_p
        have v_8_p : v_8.toInt = (if (0 : Int32).toInt ≤ x3.toInt ∧ x3.toInt ≤ (F 77).toInt then 1 else 0) := v_8_p
        refine ok_cond (fun c_9 => ?_) (fun c_9 => ?_)
        · rw [i_ne] at c_9
          refine ok_mono (s_d_pairs_41 hF hA (fun q hq => rfl) (fun q hq => rfl) (by omega) (VFA) (MFA) (PFA) (by omega) (by omega) (by omega) (by omega) (by omega) (by omega)) ?_
          rintro ⟨v_10, F_11, A_12, J_13⟩ ⟨hF_11, hA_12, F_11_o, A_12_o, v_10_p⟩
          dsimp only at hF_11 hA_12 F_11_o A_12_o v_10_p ⊢
          refine ⟨hF_11, hA_12, (fun q hq => (F_11_o q hq)), (fun q hq => (A_12_o q hq)), ?_⟩
          (first | trivial | omega | exact ⟨by omega, by omega⟩ | assumption)
        · rw [i_nne] at c_9
          refine ok_some ?_
          refine ⟨hF, hA, (fun q hq => rfl), (fun q hq => rfl), ?_⟩
          (first | trivial | omega | exact ⟨by omega, by omega⟩ | assumption)
set_option maxRecDepth 10000 in
theorem s_d_tell3 {F : Nat → Int32} {A : Nat → Nat → Int32} {J : Nat → Nat → Int64} {x1 : Int32} {x2 : Int32} {x3 : Int32} (hF : IFm F) (hA : IAm A) : ok (d_tell3 F A J x1 x2 x3) (fun r => IFm r.2.1 ∧ IAm r.2.2.1 ∧ (∀ q, q ∉ ([77] : List Nat) → r.2.1 q = F q) ∧ (∀ q, q ∉ ([58, 59, 60] : List Nat) → r.2.2.1 q = A q) ∧ True) := by
  have r18 : 0 ≤ (F 18).toInt ∧ (F 18).toInt ≤ 1 := hF 18
  unfold d_tell3
  have r_1 : 0 ≤ (F 77).toInt ∧ (F 77).toInt ≤ 30 := hF 77
  have l_2 : (30 : Int32).toInt = 30 := by decide
  refine ok_cond (fun c_3 => ?_) (fun c_3 => ?_)
  · rw [i_eq] at c_3
    refine ok_some ?_
    refine ⟨hF, hA, (fun q hq => rfl), (fun q hq => rfl), ?_⟩
    (first | trivial | omega | exact ⟨by omega, by omega⟩ | assumption)
  · rw [i_neq] at c_3
    refine ok_call (s_d_isStep hF hA) ?_
    intro v_4 v_4_p
    have v_4_p : (v_4.toInt = 0 ∨ (v_4.toInt = 1 ∧ 0 ≤ x1.toInt ∧ x1.toInt < ai A 19 (F 18).toInt ∧ x1.toInt < 6 ∧ 0 ≤ x2.toInt ∧ x2.toInt < ai A 22 (6 * (F 18).toInt + x1.toInt) ∧ x2.toInt < 6)) := v_4_p
    have l_5 : (0 : Int32).toInt = 0 := by decide
    refine ok_cond (fun c_6 => ?_) (fun c_6 => ?_)
    · rw [i_eq] at c_6
      refine ok_some ?_
      refine ⟨hF, hA, (fun q hq => rfl), (fun q hq => rfl), ?_⟩
      (first | trivial | omega | exact ⟨by omega, by omega⟩ | assumption)
    · rw [i_neq] at c_6
      have l_7 : (999 : Int32).toInt = 999 := by decide
      refine ok_call (s_d_in ) ?_
      intro v_8 v_8_p
      have v_8_p : v_8.toInt = (if (0 : Int32).toInt ≤ x3.toInt ∧ x3.toInt ≤ (999 : Int32).toInt then 1 else 0) := v_8_p
      refine ok_cond (fun c_9 => ?_) (fun c_9 => ?_)
      · rw [i_ne] at c_9
        refine ok_st (j := 58) hA (by omega) (by omega) (⟨by omega, by omega⟩) ?_
        intro A_10 hA_10 A_10_o A_10_s A_10_n
        refine ok_st (j := 59) hA_10 (by omega) (by omega) (⟨by omega, by omega⟩) ?_
        intro A_11 hA_11 A_11_o A_11_s A_11_n
        refine ok_st (j := 60) hA_11 (by omega) (by omega) (trivial) ?_
        intro A_12 hA_12 A_12_o A_12_s A_12_n
        have l_13 : (1 : Int32).toInt = 1 := by decide
        have e_14 := i_add (x := (F 77)) (y := 1) (by omega) (by omega)
        refine ok_pf hF (⟨by omega, by omega⟩) ?_
        intro F_15 hF_15 F_15_k F_15_o
        refine ok_some ?_
        refine ⟨hF_15, hA_12, (fun q hq => (F_15_o q (fun e => hq (by rw [e]; decide)))), (fun q hq => (((A_12_o q (fun e => hq (by rw [e]; decide))).trans (A_11_o q (fun e => hq (by rw [e]; decide)))).trans (A_10_o q (fun e => hq (by rw [e]; decide))))), ?_⟩
        (first | trivial | omega | exact ⟨by omega, by omega⟩ | assumption)
      · rw [i_nne] at c_9
        refine ok_some ?_
        refine ⟨hF, hA, (fun q hq => rfl), (fun q hq => rfl), ?_⟩
        (first | trivial | omega | exact ⟨by omega, by omega⟩ | assumption)
set_option maxRecDepth 10000 in
theorem s_d_forget {F : Nat → Int32} {A : Nat → Nat → Int32} {J : Nat → Nat → Int64}  (hF : IFm F) (hA : IAm A) : ok (d_forget F A J) (fun r => IFm r.2.1 ∧ IAm r.2.2.1 ∧ (∀ q, q ∉ ([77] : List Nat) → r.2.1 q = F q) ∧ (∀ q, q ∉ ([] : List Nat) → r.2.2.1 q = A q) ∧ True) := by
  have r18 : 0 ≤ (F 18).toInt ∧ (F 18).toInt ≤ 1 := hF 18
  unfold d_forget
  have l_1 : (0 : Int32).toInt = 0 := by decide
  refine ok_pf hF (⟨by omega, by omega⟩) ?_
  intro F_2 hF_2 F_2_k F_2_o
  refine ok_some ?_
  refine ⟨hF_2, hA, (fun q hq => (F_2_o q (fun e => hq (by rw [e]; decide)))), (fun q hq => rfl), ?_⟩
  (first | trivial | omega | exact ⟨by omega, by omega⟩ | assumption)
set_option maxRecDepth 10000 in
theorem s_d_count {n : Nat} {k : Int} {F : Nat → Int32} {A : Nat → Nat → Int32} {J : Nat → Nat → Int64} {x1 : Int32} (hF : IFm F) (hA : IAm A) (hn : 200 ≤ n) (hk : k ≤ 6) (PFA : RVm F A 47 k) : ok (d_count n F A J x1) (fun r => IFm r.2.1 ∧ IAm r.2.2.1 ∧ (∀ q, q ∉ ([] : List Nat) → r.2.1 q = F q) ∧ (∀ q, q ∉ ([48] : List Nat) → r.2.2.1 q = A q) ∧ True) := by
  have r18 : 0 ≤ (F 18).toInt ∧ (F 18).toInt ≤ 1 := hF 18
  unfold d_count
  have l_1 : (0 : Int32).toInt = 0 := by decide
  refine ok_cond (fun c_2 => ?_) (fun c_2 => ?_)
  · rw [i_dec] at c_2
    have r_3 : 0 ≤ (F 18).toInt ∧ (F 18).toInt ≤ 1 := hF 18
    refine ok_ld (j := 11) hA (by omega) (by omega) ?_
    intro v_4 v_4_e v_4_r
    have v_4_r : 0 ≤ v_4.toInt ∧ v_4.toInt ≤ 8 := v_4_r
    refine ok_some ?_
    refine ⟨hF, hA, (fun q hq => rfl), (fun q hq => rfl), ?_⟩
    (first | trivial | omega | exact ⟨by omega, by omega⟩ | assumption)
  · rw [i_ndec] at c_2
    have l_5 : (1 : Int32).toInt = 1 := by decide
    refine ok_cond (fun c_6 => ?_) (fun c_6 => ?_)
    · rw [i_dec] at c_6
      have r_7 : 0 ≤ (F 18).toInt ∧ (F 18).toInt ≤ 1 := hF 18
      refine ok_ld (j := 12) hA (by omega) (by omega) ?_
      intro v_8 v_8_e v_8_r
      have v_8_r : 0 ≤ v_8.toInt ∧ v_8.toInt ≤ 12 := v_8_r
      refine ok_some ?_
      refine ⟨hF, hA, (fun q hq => rfl), (fun q hq => rfl), ?_⟩
      (first | trivial | omega | exact ⟨by omega, by omega⟩ | assumption)
    · rw [i_ndec] at c_6
      have l_9 : (2 : Int32).toInt = 2 := by decide
      refine ok_cond (fun c_10 => ?_) (fun c_10 => ?_)
      · rw [i_dec] at c_10
        have r_11 : 0 ≤ (F 18).toInt ∧ (F 18).toInt ≤ 1 := hF 18
        refine ok_ld (j := 17) hA (by omega) (by omega) ?_
        intro v_12 v_12_e v_12_r
        have v_12_r : 0 ≤ v_12.toInt ∧ v_12.toInt ≤ 6 := v_12_r
        refine ok_some ?_
        refine ⟨hF, hA, (fun q hq => rfl), (fun q hq => rfl), ?_⟩
        (first | trivial | omega | exact ⟨by omega, by omega⟩ | assumption)
      · rw [i_ndec] at c_10
        have l_13 : (3 : Int32).toInt = 3 := by decide
        refine ok_cond (fun c_14 => ?_) (fun c_14 => ?_)
        · rw [i_dec] at c_14
          refine ok_call (s_d_tasksNow hF hA) ?_
          intro v_15 v_15_p
          have v_15_p : v_15.toInt = ai A 19 (F 18).toInt ∧ 0 ≤ v_15.toInt ∧ v_15.toInt ≤ 6 := v_15_p
          refine ok_some ?_
          refine ⟨hF, hA, (fun q hq => rfl), (fun q hq => rfl), ?_⟩
          (first | trivial | omega | exact ⟨by omega, by omega⟩ | assumption)
        · rw [i_ndec] at c_14
          have l_16 : (4 : Int32).toInt = 4 := by decide
          refine ok_cond (fun c_17 => ?_) (fun c_17 => ?_)
          · rw [i_dec] at c_17
            refine ok_call (s_d_menNow hF hA) ?_
            intro v_18 v_18_p
            have v_18_p : v_18.toInt = ai A 29 (F 18).toInt ∧ 0 ≤ v_18.toInt ∧ v_18.toInt ≤ 6 := v_18_p
            refine ok_some ?_
            refine ⟨hF, hA, (fun q hq => rfl), (fun q hq => rfl), ?_⟩
            (first | trivial | omega | exact ⟨by omega, by omega⟩ | assumption)
          · rw [i_ndec] at c_17
            have l_19 : (5 : Int32).toInt = 5 := by decide
            refine ok_cond (fun c_20 => ?_) (fun c_20 => ?_)
            · rw [i_dec] at c_20
              have r_21 : 0 ≤ (F 18).toInt ∧ (F 18).toInt ≤ 1 := hF 18
              refine ok_ld (j := 41) hA (by omega) (by omega) ?_
              intro v_22 v_22_e v_22_r
              have v_22_r : 0 ≤ v_22.toInt ∧ v_22.toInt ≤ 9999 := v_22_r
              refine ok_some ?_
              refine ⟨hF, hA, (fun q hq => rfl), (fun q hq => rfl), ?_⟩
              (first | trivial | omega | exact ⟨by omega, by omega⟩ | assumption)
            · rw [i_ndec] at c_20
              have l_23 : (6 : Int32).toInt = 6 := by decide
              refine ok_cond (fun c_24 => ?_) (fun c_24 => ?_)
              · rw [i_dec] at c_24
                have l_25 : (79 : Int32).toInt = 79 := by decide
                refine ok_ld (j := 47) hA (by omega) (by omega) ?_
                intro v_26 v_26_e v_26_r
                refine ok_some ?_
                refine ⟨hF, hA, (fun q hq => rfl), (fun q hq => rfl), ?_⟩
                (first | trivial | omega | exact ⟨by omega, by omega⟩ | assumption)
              · rw [i_ndec] at c_24
                have l_27 : (7 : Int32).toInt = 7 := by decide
                refine ok_cond (fun c_28 => ?_) (fun c_28 => ?_)
                · rw [i_dec] at c_28
                  have l_29 : (78 : Int32).toInt = 78 := by decide
                  refine ok_ld (j := 47) hA (by omega) (by omega) ?_
                  intro v_30 v_30_e v_30_r
                  refine ok_call (s_d_bits (by omega)) ?_
                  intro v_31 v_31_p
                  refine ok_some ?_
                  refine ⟨hF, hA, (fun q hq => rfl), (fun q hq => rfl), ?_⟩
                  (first | trivial | omega | exact ⟨by omega, by omega⟩ | assumption)
                · rw [i_ndec] at c_28
                  have l_32 : (8 : Int32).toInt = 8 := by decide
                  refine ok_cond (fun c_33 => ?_) (fun c_33 => ?_)
                  · rw [i_dec] at c_33
                    refine ok_call (s2_d_takes hF hA (by omega) (by omega) (PFA)) ?_
                    rintro ⟨u_34, F_35, A_36, J_37⟩ ⟨hF_35, hA_36, F_35_o, A_36_o, u_34_p⟩
                    dsimp only at hF_35 hA_36 F_35_o A_36_o u_34_p ⊢
                    have u_34_p : RVm F_35 A_36 48 k := u_34_p
                    have r_38 : 0 ≤ (F_35 18).toInt ∧ (F_35 18).toInt ≤ 1 := hF_35 18
                    have r_39 : 0 ≤ (F 18).toInt ∧ (F 18).toInt ≤ 1 := hF 18
                    have f_40 : (F_35 18).toInt = (F 18).toInt := congrArg Int32.toInt (F_35_o 18 (by decide))
                    have PF_35A_36 : RVm F_35 A_36 47 k := PFA.cg (F_35_o 18 (by decide)) (A_36_o 19 (by decide)) (A_36_o 22 (by decide)) (fun m _ _ => by rw [ai_fr (A_36_o 47 (by decide))]; exact ⟨rfl, rfl⟩)
                    refine ok_call (s_d_worthNow hF_35 hA_36 (by omega)) ?_
                    intro v_41 v_41_p
                    refine ok_some ?_
                    refine ⟨hF_35, hA_36, (fun q hq => (F_35_o q hq)), (fun q hq => (A_36_o q hq)), ?_⟩
                    (first | trivial | omega | exact ⟨by omega, by omega⟩ | assumption)
                  · rw [i_ndec] at c_33
                    have l_42 : (9 : Int32).toInt = 9 := by decide
                    refine ok_cond (fun c_43 => ?_) (fun c_43 => ?_)
                    · rw [i_dec] at c_43
                      refine ok_some ?_
                      refine ⟨hF, hA, (fun q hq => rfl), (fun q hq => rfl), ?_⟩
                      (first | trivial | omega | exact ⟨by omega, by omega⟩ | assumption)
                    · rw [i_ndec] at c_43
                      have l_44 : (10 : Int32).toInt = 10 := by decide
                      refine ok_cond (fun c_45 => ?_) (fun c_45 => ?_)
                      · rw [i_dec] at c_45
                        refine ok_some ?_
                        refine ⟨hF, hA, (fun q hq => rfl), (fun q hq => rfl), ?_⟩
                        (first | trivial | omega | exact ⟨by omega, by omega⟩ | assumption)
                      · rw [i_ndec] at c_45
                        have l_46 : (11 : Int32).toInt = 11 := by decide
                        refine ok_cond (fun c_47 => ?_) (fun c_47 => ?_)
                        · rw [i_dec] at c_47
                          refine ok_some ?_
                          refine ⟨hF, hA, (fun q hq => rfl), (fun q hq => rfl), ?_⟩
                          (first | trivial | omega | exact ⟨by omega, by omega⟩ | assumption)
                        · rw [i_ndec] at c_47
                          have l_48 : (12 : Int32).toInt = 12 := by decide
                          refine ok_cond (fun c_49 => ?_) (fun c_49 => ?_)
                          · rw [i_dec] at c_49
                            refine ok_ld (j := 61) hA (by omega) (by omega) ?_
                            intro v_50 v_50_e v_50_r
                            have v_50_r : 0 ≤ v_50.toInt ∧ v_50.toInt ≤ 1 := v_50_r
                            refine ok_cond (fun c_51 => ?_) (fun c_51 => ?_)
                            · rw [i_eq] at c_51
                              unfold d_count_175
                              refine ok_ld (j := 61) hA (by omega) (by omega) ?_
                              intro v_52 v_52_e v_52_r
                              have v_52_r : 0 ≤ v_52.toInt ∧ v_52.toInt ≤ 1 := v_52_r
                              refine ok_cond (fun c_53 => ?_) (fun c_53 => ?_)
                              · rw [i_eq] at c_53
                                unfold d_count_189
                                refine ok_ld (j := 61) hA (by omega) (by omega) ?_
                                intro v_54 v_54_e v_54_r
                                have v_54_r : 0 ≤ v_54.toInt ∧ v_54.toInt ≤ 1 := v_54_r
                                refine ok_cond (fun c_55 => ?_) (fun c_55 => ?_)
                                · rw [i_eq] at c_55
                                  refine ok_some ?_
                                  refine ⟨hF, hA, (fun q hq => rfl), (fun q hq => rfl), ?_⟩
                                  (first | trivial | omega | exact ⟨by omega, by omega⟩ | assumption)
                                · rw [i_neq] at c_55
                                  refine ok_some ?_
                                  refine ⟨hF, hA, (fun q hq => rfl), (fun q hq => rfl), ?_⟩
                                  (first | trivial | omega | exact ⟨by omega, by omega⟩ | assumption)
                              · rw [i_neq] at c_53
                                unfold d_count_189
                                refine ok_ld (j := 61) hA (by omega) (by omega) ?_
                                intro v_56 v_56_e v_56_r
                                have v_56_r : 0 ≤ v_56.toInt ∧ v_56.toInt ≤ 1 := v_56_r
                                refine ok_cond (fun c_57 => ?_) (fun c_57 => ?_)
                                · rw [i_eq] at c_57
                                  refine ok_some ?_
                                  refine ⟨hF, hA, (fun q hq => rfl), (fun q hq => rfl), ?_⟩
                                  (first | trivial | omega | exact ⟨by omega, by omega⟩ | assumption)
                                · rw [i_neq] at c_57
                                  refine ok_some ?_
                                  refine ⟨hF, hA, (fun q hq => rfl), (fun q hq => rfl), ?_⟩
                                  (first | trivial | omega | exact ⟨by omega, by omega⟩ | assumption)
                            · rw [i_neq] at c_51
                              unfold d_count_175
                              refine ok_ld (j := 61) hA (by omega) (by omega) ?_
                              intro v_58 v_58_e v_58_r
                              have v_58_r : 0 ≤ v_58.toInt ∧ v_58.toInt ≤ 1 := v_58_r
                              refine ok_cond (fun c_59 => ?_) (fun c_59 => ?_)
                              · rw [i_eq] at c_59
                                unfold d_count_189
                                refine ok_ld (j := 61) hA (by omega) (by omega) ?_
                                intro v_60 v_60_e v_60_r
                                have v_60_r : 0 ≤ v_60.toInt ∧ v_60.toInt ≤ 1 := v_60_r
                                refine ok_cond (fun c_61 => ?_) (fun c_61 => ?_)
                                · rw [i_eq] at c_61
                                  refine ok_some ?_
                                  refine ⟨hF, hA, (fun q hq => rfl), (fun q hq => rfl), ?_⟩
                                  (first | trivial | omega | exact ⟨by omega, by omega⟩ | assumption)
                                · rw [i_neq] at c_61
                                  refine ok_some ?_
                                  refine ⟨hF, hA, (fun q hq => rfl), (fun q hq => rfl), ?_⟩
                                  (first | trivial | omega | exact ⟨by omega, by omega⟩ | assumption)
                              · rw [i_neq] at c_59
                                unfold d_count_189
                                refine ok_ld (j := 61) hA (by omega) (by omega) ?_
                                intro v_62 v_62_e v_62_r
                                have v_62_r : 0 ≤ v_62.toInt ∧ v_62.toInt ≤ 1 := v_62_r
                                refine ok_cond (fun c_63 => ?_) (fun c_63 => ?_)
                                · rw [i_eq] at c_63
                                  refine ok_some ?_
                                  refine ⟨hF, hA, (fun q hq => rfl), (fun q hq => rfl), ?_⟩
                                  (first | trivial | omega | exact ⟨by omega, by omega⟩ | assumption)
                                · rw [i_neq] at c_63
                                  refine ok_some ?_
                                  refine ⟨hF, hA, (fun q hq => rfl), (fun q hq => rfl), ?_⟩
                                  (first | trivial | omega | exact ⟨by omega, by omega⟩ | assumption)
                          · rw [i_ndec] at c_49
                            refine ok_some ?_
                            refine ⟨hF, hA, (fun q hq => rfl), (fun q hq => rfl), ?_⟩
                            (first | trivial | omega | exact ⟨by omega, by omega⟩ | assumption)
end Qz53
section Qz54
set_option maxRecDepth 10000 in
theorem s_d_leave {k : Int} {F : Nat → Int32} {A : Nat → Nat → Int32} {J : Nat → Nat → Int64} {x1 : Int32} {x2 : Int32} {x3 : Int32} (hF : IFm F) (hA : IAm A) (hk : k ≤ 6) (MFA : k = ai A 29 (F 18).toInt) (PFA : RVm F A 47 k) : ok (d_leave F A J x1 x2 x3) (fun r => IFm r.2.1 ∧ IAm r.2.2.1 ∧ (∀ q, q ∉ ([] : List Nat) → r.2.1 q = F q) ∧ (∀ q, q ∉ ([47] : List Nat) → r.2.2.1 q = A q) ∧ RVm r.2.1 r.2.2.1 47 k) := by
  have r18 : 0 ≤ (F 18).toInt ∧ (F 18).toInt ≤ 1 := hF 18
  unfold d_leave
  refine ok_call (s_d_isMan hF hA) ?_
  intro v_1 v_1_p
  have v_1_p : (v_1.toInt = 0 ∨ (v_1.toInt = 1 ∧ 0 ≤ x1.toInt ∧ x1.toInt < ai A 29 (F 18).toInt ∧ x1.toInt < 6)) := v_1_p
  have l_2 : (0 : Int32).toInt = 0 := by decide
  refine ok_cond (fun c_3 => ?_) (fun c_3 => ?_)
  · rw [i_eq] at c_3
    refine ok_some ?_
    refine ⟨hF, hA, (fun q hq => rfl), (fun q hq => rfl), ?_⟩
    first | exact QFA | exact PFA
  · rw [i_neq] at c_3
    refine ok_call (s_d_isLeft hF hA) ?_
    intro v_4 v_4_p
    have v_4_p : (v_4.toInt = 0 ∨ (v_4.toInt = 1 ∧ ((x2.toInt = -1 ∧ x3.toInt = -1) ∨ (0 ≤ x2.toInt ∧ x2.toInt < ai A 19 (F 18).toInt ∧ x2.toInt < 6 ∧ 0 ≤ x3.toInt ∧ x3.toInt < ai A 22 (6 * (F 18).toInt + x2.toInt) ∧ x3.toInt < 6)))) := v_4_p
    refine ok_cond (fun c_5 => ?_) (fun c_5 => ?_)
    · rw [i_ne] at c_5
      have l_6 : (42 : Int32).toInt = 42 := by decide
      have e_7 := i_add (x := 42) (y := x1) (by omega) (by omega)
      refine ok_st (j := 47) hA (by omega) (by omega) (trivial) ?_
      intro A_8 hA_8 A_8_o A_8_s A_8_n
      have l_9 : (48 : Int32).toInt = 48 := by decide
      have e_10 := i_add (x := 48) (y := x1) (by omega) (by omega)
      refine ok_st (j := 47) hA_8 (by omega) (by omega) (trivial) ?_
      intro A_11 hA_11 A_11_o A_11_s A_11_n
      have QFA_11 : RVm F A_11 47 k := PFA.lv (by decide) A_8_o A_8_s A_8_n A_11_o A_11_s A_11_n (i := x1.toInt) (by omega) (by omega) (by omega) hk (fun q => by first | (exfalso; omega) | exact ⟨by omega, by omega, by omega, by omega⟩)
      refine ok_some ?_
      refine ⟨hF, hA_11, (fun q hq => rfl), (fun q hq => ((A_11_o q (fun e => hq (by rw [e]; decide))).trans (A_8_o q (fun e => hq (by rw [e]; decide))))), ?_⟩
      first | exact QFA_11 | exact PFA_11
    · rw [i_nne] at c_5
      refine ok_some ?_
      refine ⟨hF, hA, (fun q hq => rfl), (fun q hq => rfl), ?_⟩
      first | exact QFA | exact PFA
set_option maxRecDepth 10000 in
theorem s_d_lay {k : Int} {F : Nat → Int32} {A : Nat → Nat → Int32} {J : Nat → Nat → Int64} {x1 : Int32} {x2 : Int32} (hF : IFm F) (hA : IAm A) (hk : k ≤ 6) (PFA : RVm F A 47 k) : ok (d_lay F A J x1 x2) (fun r => IFm r.2.1 ∧ IAm r.2.2.1 ∧ (∀ q, q ∉ ([] : List Nat) → r.2.1 q = F q) ∧ (∀ q, q ∉ ([47] : List Nat) → r.2.2.1 q = A q) ∧ RVm r.2.1 r.2.2.1 47 k) := by
  have r18 : 0 ≤ (F 18).toInt ∧ (F 18).toInt ≤ 1 := hF 18
  unfold d_lay
  refine ok_call (s_d_isTool hF hA) ?_
  intro v_1 v_1_p
  have v_1_p : (v_1.toInt = 0 ∨ (v_1.toInt = 1 ∧ 0 ≤ x1.toInt ∧ x1.toInt < ai A 17 (F 18).toInt ∧ x1.toInt < 6)) := v_1_p
  have l_2 : (0 : Int32).toInt = 0 := by decide
  refine ok_cond (fun c_3 => ?_) (fun c_3 => ?_)
  · rw [i_eq] at c_3
    refine ok_some ?_
    refine ⟨hF, hA, (fun q hq => rfl), (fun q hq => rfl), ?_⟩
    exact PFA
  · rw [i_neq] at c_3
    refine ok_call (s_d_isRoom hF hA) ?_
    intro v_4 v_4_p
    have v_4_p : (v_4.toInt = 0 ∨ (v_4.toInt = 1 ∧ 0 ≤ x2.toInt ∧ x2.toInt < ai A 11 (F 18).toInt ∧ x2.toInt < 8)) := v_4_p
    refine ok_cond (fun c_5 => ?_) (fun c_5 => ?_)
    · rw [i_ne] at c_5
      have l_6 : (72 : Int32).toInt = 72 := by decide
      have e_7 := i_add (x := 72) (y := x1) (by omega) (by omega)
      refine ok_st (j := 47) hA (by omega) (by omega) (trivial) ?_
      intro A_8 hA_8 A_8_o A_8_s A_8_n
      have PFA_8 : RVm F A_8 47 k := PFA.st (by decide) A_8_o A_8_n (by omega) hk
      refine ok_some ?_
      refine ⟨hF, hA_8, (fun q hq => rfl), (fun q hq => (A_8_o q (fun e => hq (by rw [e]; decide)))), ?_⟩
      exact PFA_8
    · rw [i_nne] at c_5
      refine ok_some ?_
      refine ⟨hF, hA, (fun q hq => rfl), (fun q hq => rfl), ?_⟩
      exact PFA
set_option maxRecDepth 10000 in
theorem s_d_give {k : Int} {F : Nat → Int32} {A : Nat → Nat → Int32} {J : Nat → Nat → Int64} {x1 : Int32} {x2 : Int32} (hF : IFm F) (hA : IAm A) (hk : k ≤ 6) (PFA : RVm F A 47 k) : ok (d_give F A J x1 x2) (fun r => IFm r.2.1 ∧ IAm r.2.2.1 ∧ (∀ q, q ∉ ([] : List Nat) → r.2.1 q = F q) ∧ (∀ q, q ∉ ([47] : List Nat) → r.2.2.1 q = A q) ∧ RVm r.2.1 r.2.2.1 47 k) := by
  have r18 : 0 ≤ (F 18).toInt ∧ (F 18).toInt ≤ 1 := hF 18
  unfold d_give
  refine ok_call (s_d_isTool hF hA) ?_
  intro v_1 v_1_p
  have v_1_p : (v_1.toInt = 0 ∨ (v_1.toInt = 1 ∧ 0 ≤ x1.toInt ∧ x1.toInt < ai A 17 (F 18).toInt ∧ x1.toInt < 6)) := v_1_p
  have l_2 : (0 : Int32).toInt = 0 := by decide
  refine ok_cond (fun c_3 => ?_) (fun c_3 => ?_)
  · rw [i_eq] at c_3
    refine ok_some ?_
    refine ⟨hF, hA, (fun q hq => rfl), (fun q hq => rfl), ?_⟩
    exact PFA
  · rw [i_neq] at c_3
    refine ok_call (s_d_isMan hF hA) ?_
    intro v_4 v_4_p
    have v_4_p : (v_4.toInt = 0 ∨ (v_4.toInt = 1 ∧ 0 ≤ x2.toInt ∧ x2.toInt < ai A 29 (F 18).toInt ∧ x2.toInt < 6)) := v_4_p
    refine ok_cond (fun c_5 => ?_) (fun c_5 => ?_)
    · rw [i_ne] at c_5
      have l_6 : (72 : Int32).toInt = 72 := by decide
      have e_7 := i_add (x := 72) (y := x1) (by omega) (by omega)
      refine ok_st (j := 47) hA (by omega) (by omega) (trivial) ?_
      intro A_8 hA_8 A_8_o A_8_s A_8_n
      have PFA_8 : RVm F A_8 47 k := PFA.st (by decide) A_8_o A_8_n (by omega) hk
      refine ok_some ?_
      refine ⟨hF, hA_8, (fun q hq => rfl), (fun q hq => (A_8_o q (fun e => hq (by rw [e]; decide)))), ?_⟩
      exact PFA_8
    · rw [i_nne] at c_5
      refine ok_some ?_
      refine ⟨hF, hA, (fun q hq => rfl), (fun q hq => rfl), ?_⟩
      exact PFA
set_option maxRecDepth 10000 in
theorem s_d_bar {k : Int} {F : Nat → Int32} {A : Nat → Nat → Int32} {J : Nat → Nat → Int64} {x1 : Int32} {x2 : Int32} (hF : IFm F) (hA : IAm A) (hk : k ≤ 6) (PFA : RVm F A 47 k) : ok (d_bar F A J x1 x2) (fun r => IFm r.2.1 ∧ IAm r.2.2.1 ∧ (∀ q, q ∉ ([] : List Nat) → r.2.1 q = F q) ∧ (∀ q, q ∉ ([47] : List Nat) → r.2.2.1 q = A q) ∧ RVm r.2.1 r.2.2.1 47 k) := by
  have r18 : 0 ≤ (F 18).toInt ∧ (F 18).toInt ≤ 1 := hF 18
  unfold d_bar
  have r_1 : 0 ≤ (F 18).toInt ∧ (F 18).toInt ≤ 1 := hF 18
  refine ok_ld (j := 12) hA (by omega) (by omega) ?_
  intro v_2 v_2_e v_2_r
  have v_2_r : 0 ≤ v_2.toInt ∧ v_2.toInt ≤ 12 := v_2_r
  have l_3 : (0 : Int32).toInt = 0 := by decide
  have l_4 : (1 : Int32).toInt = 1 := by decide
  have e_5 := i_sub (x := v_2) (y := 1) (by omega) (by omega)
  refine ok_call (s_d_in ) ?_
  intro v_6 v_6_p
  have v_6_p : v_6.toInt = (if (0 : Int32).toInt ≤ x1.toInt ∧ x1.toInt ≤ (v_2 - 1).toInt then 1 else 0) := v_6_p
  refine ok_cond (fun c_7 => ?_) (fun c_7 => ?_)
  · rw [i_ne] at c_7
    refine ok_cond (fun c_8 => ?_) (fun c_8 => ?_)
    · rw [i_eq] at c_8
      have l_9 : (78 : Int32).toInt = 78 := by decide
      refine ok_ld (j := 47) hA (by omega) (by omega) ?_
      intro v_10 v_10_e v_10_r
      unfold d_bar_58
      refine ok_st (j := 47) hA (by omega) (by omega) (trivial) ?_
      intro A_11 hA_11 A_11_o A_11_s A_11_n
      have PFA_11 : RVm F A_11 47 k := PFA.st (by decide) A_11_o A_11_n (by omega) hk
      refine ok_some ?_
      refine ⟨hF, hA_11, (fun q hq => rfl), (fun q hq => (A_11_o q (fun e => hq (by rw [e]; decide)))), ?_⟩
      exact PFA_11
    · rw [i_neq] at c_8
      have l_12 : (78 : Int32).toInt = 78 := by decide
      refine ok_ld (j := 47) hA (by omega) (by omega) ?_
      intro v_13 v_13_e v_13_r
      unfold d_bar_58
      refine ok_st (j := 47) hA (by omega) (by omega) (trivial) ?_
      intro A_14 hA_14 A_14_o A_14_s A_14_n
      have PFA_14 : RVm F A_14 47 k := PFA.st (by decide) A_14_o A_14_n (by omega) hk
      refine ok_some ?_
      refine ⟨hF, hA_14, (fun q hq => rfl), (fun q hq => (A_14_o q (fun e => hq (by rw [e]; decide)))), ?_⟩
      exact PFA_14
  · rw [i_nne] at c_7
    refine ok_some ?_
    refine ⟨hF, hA, (fun q hq => rfl), (fun q hq => rfl), ?_⟩
    exact PFA
set_option maxRecDepth 10000 in
theorem s_d_work {n : Nat} {k : Int} {F : Nat → Int32} {A : Nat → Nat → Int32} {J : Nat → Nat → Int64} {x1 : Int32} {x2 : Int32} (hF : IFm F) (hA : IAm A) (hn : 200 ≤ n) (hk : k ≤ 6) (hk0 : 0 ≤ k) (VFA : VMs F A) (MFA : k = ai A 29 (F 18).toInt) (PFA : RVm F A 47 k) : ok (d_work n F A J x1 x2) (fun r => IFm r.2.1 ∧ IAm r.2.2.1 ∧ (∀ q, q ∉ ([] : List Nat) → r.2.1 q = F q) ∧ (∀ q, q ∉ ([47, 48] : List Nat) → r.2.2.1 q = A q) ∧ RVm r.2.1 r.2.2.1 47 k) := by
  have r18 : 0 ≤ (F 18).toInt ∧ (F 18).toInt ≤ 1 := hF 18
  unfold d_work
  refine ok_call (s_d_isStep hF hA) ?_
  intro v_1 v_1_p
  have v_1_p : (v_1.toInt = 0 ∨ (v_1.toInt = 1 ∧ 0 ≤ x1.toInt ∧ x1.toInt < ai A 19 (F 18).toInt ∧ x1.toInt < 6 ∧ 0 ≤ x2.toInt ∧ x2.toInt < ai A 22 (6 * (F 18).toInt + x1.toInt) ∧ x2.toInt < 6)) := v_1_p
  have l_2 : (0 : Int32).toInt = 0 := by decide
  refine ok_cond (fun c_3 => ?_) (fun c_3 => ?_)
  · rw [i_eq] at c_3
    refine ok_some ?_
    refine ⟨hF, hA, (fun q hq => rfl), (fun q hq => rfl), ?_⟩
    exact PFA
  · rw [i_neq] at c_3
    refine ok_ld (j := 47) hA (by omega) (by omega) ?_
    intro v_4 v_4_e v_4_r
    have hs0 : SVm F A x1.toInt x2.toInt := ⟨by omega, by omega, by omega, by omega⟩
    refine ok_cond (fun c_5 => ?_) (fun c_5 => ?_)
    · rw [i_ne] at c_5
      refine ok_call (s2_d_takes hF hA (by omega) (by omega) (PFA)) ?_
      rintro ⟨u_6, F_7, A_8, J_9⟩ ⟨hF_7, hA_8, F_7_o, A_8_o, u_6_p⟩
      dsimp only at hF_7 hA_8 F_7_o A_8_o u_6_p ⊢
      have u_6_p : RVm F_7 A_8 48 k := u_6_p
      have r_10 : 0 ≤ (F_7 18).toInt ∧ (F_7 18).toInt ≤ 1 := hF_7 18
      have r_11 : 0 ≤ (F 18).toInt ∧ (F 18).toInt ≤ 1 := hF 18
      have f_12 : (F_7 18).toInt = (F 18).toInt := congrArg Int32.toInt (F_7_o 18 (by decide))
      have VF_7A_8 : VMs F_7 A_8 := VFA.fr (F_7_o 18 (by decide)) (fun q h1 h2 => A_8_o q (by intro e; simp at e <;> omega))
      have MF_7A_8 : k = ai A_8 29 (F_7 18).toInt := by rw [ai_fr (A_8_o 29 (by decide)), F_7_o 18 (by decide)] <;> exact MFA
      have PF_7A_8 : RVm F_7 A_8 47 k := PFA.cg (F_7_o 18 (by decide)) (A_8_o 19 (by decide)) (A_8_o 22 (by decide)) (fun m _ _ => by rw [ai_fr (A_8_o 47 (by decide))]; exact ⟨rfl, rfl⟩)
      have RF_7A_8 : RVm F_7 A_8 48 k := u_6_p
      refine ok_ld (j := 48) hA_8 (by omega) (by omega) ?_
      intro v_13 v_13_e v_13_r
      refine ok_st (j := 48) hA_8 (by omega) (by omega) (trivial) ?_
      intro A_14 hA_14 A_14_o A_14_s A_14_n
      have VF_7A_14 : VMs F_7 A_14 := VF_7A_8.fr rfl (fun q h1 h2 => A_14_o q (by omega))
      have MF_7A_14 : k = ai A_14 29 (F_7 18).toInt := by rw [ai_fr (A_14_o 29 (by decide))] <;> exact MF_7A_8
      have PF_7A_14 : RVm F_7 A_14 47 k := PF_7A_8.sto A_14_o (by decide) (by decide)
      have RF_7A_14 : RVm F_7 A_14 48 k := RF_7A_8.st (by decide) A_14_o A_14_n (by omega) hk
      have hs : SVm F_7 A_14 x1.toInt x2.toInt := (hs0.fr (F_7_o 18 (by decide)) (A_8_o 19 (by decide)) (A_8_o 22 (by decide))).fr rfl (A_14_o 19 (by decide)) (A_14_o 22 (by decide))
      refine ok_call (s_d_does hF_7 hA_14 (VF_7A_14) (by assumption) (by omega) (by omega)) ?_
      rintro ⟨u_15, F_16, A_17, J_18⟩ ⟨hF_16, hA_17, F_16_o, A_17_o, u_15_p⟩
      dsimp only at hF_16 hA_17 F_16_o A_17_o u_15_p ⊢
      have u_15_p : ∀ i, 42 ≤ i → ai A_17 48 i = ai A_14 48 i := u_15_p
      have r_19 : 0 ≤ (F_16 18).toInt ∧ (F_16 18).toInt ≤ 1 := hF_16 18
      have f_20 : (F_16 18).toInt = (F_7 18).toInt := congrArg Int32.toInt (F_16_o 18 (by decide))
      have VF_16A_17 : VMs F_16 A_17 := VF_7A_14.fr (F_16_o 18 (by decide)) (fun q h1 h2 => A_17_o q (by intro e; simp at e <;> omega))
      have MF_16A_17 : k = ai A_17 29 (F_16 18).toInt := by rw [ai_fr (A_17_o 29 (by decide)), F_16_o 18 (by decide)] <;> exact MF_7A_14
      have PF_16A_17 : RVm F_16 A_17 47 k := PF_7A_14.cg (F_16_o 18 (by decide)) (A_17_o 19 (by decide)) (A_17_o 22 (by decide)) (fun m _ _ => by rw [ai_fr (A_17_o 47 (by decide))]; exact ⟨rfl, rfl⟩)
      have RF_16A_17 : RVm F_16 A_17 48 k := RF_7A_14.cg (F_16_o 18 (by decide)) (A_17_o 19 (by decide)) (A_17_o 22 (by decide)) (fun m _ _ => ⟨u_15_p (42 + m) (by omega), u_15_p (48 + m) (by omega)⟩)
      refine ok_mono (s_d_work_42 hF_16 hA_17 (by omega) (RF_16A_17) (fun t h0 h1 => absurd h1 (by omega)) (by omega) (by omega)) ?_
      rintro ⟨v_21, F_22, A_23, J_24⟩ ⟨hF_22, hA_23, F_22_o, A_23_o, v_21_p⟩
      dsimp only at hF_22 hA_23 F_22_o A_23_o v_21_p ⊢
      have v_21_p : RVm F_22 A_23 47 k := v_21_p
      have VF_22A_23 : VMs F_22 A_23 := VF_16A_17.fr (F_22_o 18 (by decide)) (fun q h1 h2 => A_23_o q (by intro e; simp at e <;> omega))
      have MF_22A_23 : k = ai A_23 29 (F_22 18).toInt := by rw [ai_fr (A_23_o 29 (by decide)), F_22_o 18 (by decide)] <;> exact MF_16A_17
      have PF_22A_23 : RVm F_22 A_23 47 k := v_21_p
      refine ⟨hF_22, hA_23, (fun q hq => (((F_22_o q hq).trans (F_16_o q hq)).trans (F_7_o q hq))), (fun q hq => ((((A_23_o q (fun e => hq ((by decide : ∀ x, x ∈ ([47] : List Nat) → x ∈ ([47, 48] : List Nat)) q e))).trans (A_17_o q (fun e => hq ((by decide : ∀ x, x ∈ ([48] : List Nat) → x ∈ ([47, 48] : List Nat)) q e)))).trans (A_14_o q (fun e => hq (by rw [e]; decide)))).trans (A_8_o q (fun e => hq ((by decide : ∀ x, x ∈ ([48] : List Nat) → x ∈ ([47, 48] : List Nat)) q e))))), ?_⟩
      exact PF_22A_23
    · rw [i_nne] at c_5
      refine ok_some ?_
      refine ⟨hF, hA, (fun q hq => rfl), (fun q hq => rfl), ?_⟩
      exact PFA
set_option maxRecDepth 10000 in
theorem s_d_night_51  {n : Nat} {k : Int} {F : Nat → Int32} {A : Nat → Nat → Int32} {J : Nat → Nat → Int64} {x1 : Int32} (hF : IFm F) (hA : IAm A) (hk : k ≤ 6) (hk0 : 0 ≤ k) (VFA : VMs F A) (MFA : k = ai A 29 (F 18).toInt) (PFA : RVm F A 47 k) (hu : (F 74).toInt ≤ 19) (IFA : HIm F A k) (CFA : ∀ t, 0 ≤ t → t < x1.toInt → ai A 57 (100 * (F 74).toInt + t) = ai A 47 (0 + t)) (rx1 : 0 ≤ x1.toInt ∧ x1.toInt ≤ 100) (hn : 11000 - x1.toInt < (n : Int)) : ok (d_night_51 n F A J x1) (fun r => IFm r.2.1 ∧ IAm r.2.2.1 ∧ (∀ q, q ∉ ([63, 74] : List Nat) → r.2.1 q = F q) ∧ (∀ q, q ∉ ([45, 46, 47, 48, 49, 50, 51, 52, 53, 54, 55, 56, 57] : List Nat) → r.2.2.1 q = A q) ∧ RVm r.2.1 r.2.2.1 47 k ∧ HIm r.2.1 r.2.2.1 k) := by
  induction n generalizing F A J x1 with
  | zero => exact absurd hn (by omega)
  | succ n ih =>
    have r18 : 0 ≤ (F 18).toInt ∧ (F 18).toInt ≤ 1 := hF 18
    unfold d_night_51
    have l_1 : (100 : Int32).toInt = 100 := by decide
    refine ok_cond (fun c_2 => ?_) (fun c_2 => ?_)
    · rw [i_ge] at c_2
      have r_3 : 0 ≤ (F 74).toInt ∧ (F 74).toInt ≤ 20 := hF 74
      have l_4 : (1 : Int32).toInt = 1 := by decide
      have e_5 := i_add (x := (F 74)) (y := 1) (by omega) (by omega)
      refine ok_pf hF (⟨by omega, by omega⟩) ?_
      intro F_6 hF_6 F_6_k F_6_o
      have VF_6A : VMs F_6 A := VFA.fr (F_6_o 18 (by decide)) (fun _ _ _ => rfl)
      have MF_6A : k = ai A 29 (F_6 18).toInt := by rw [F_6_o 18 (by decide)] <;> exact MFA
      have PF_6A : RVm F_6 A 47 k := PFA.cg (F_6_o 18 (by decide)) rfl rfl (fun _ _ _ => ⟨rfl, rfl⟩)
      have IF_6A : HIm F_6 A k := IFA.up PFA (fun t h0 h1 => CFA t h0 (by omega)) (F_6_o 18 (by decide)) (by rw [F_6_k]; omega) hk
      refine ok_call (s2_d_takes hF_6 hA (by omega) (by omega) (PF_6A)) ?_
      rintro ⟨u_7, F_8, A_9, J_10⟩ ⟨hF_8, hA_9, F_8_o, A_9_o, u_7_p⟩
      dsimp only at hF_8 hA_9 F_8_o A_9_o u_7_p ⊢
      have u_7_p : RVm F_8 A_9 48 k := u_7_p
      have r_11 : 0 ≤ (F_8 18).toInt ∧ (F_8 18).toInt ≤ 1 := hF_8 18
      have r_12 : 0 ≤ (F_6 18).toInt ∧ (F_6 18).toInt ≤ 1 := hF_6 18
      have r_13 : 0 ≤ (F 18).toInt ∧ (F 18).toInt ≤ 1 := hF 18
      have f_14 : (F_6 18).toInt = (F 18).toInt := congrArg Int32.toInt (F_6_o 18 (by decide))
      have f_15 : (F_8 18).toInt = (F_6 18).toInt := congrArg Int32.toInt (F_8_o 18 (by decide))
      have VF_8A_9 : VMs F_8 A_9 := VF_6A.fr (F_8_o 18 (by decide)) (fun q h1 h2 => A_9_o q (by intro e; simp at e <;> omega))
      have MF_8A_9 : k = ai A_9 29 (F_8 18).toInt := by rw [ai_fr (A_9_o 29 (by decide)), F_8_o 18 (by decide)] <;> exact MF_6A
      have PF_8A_9 : RVm F_8 A_9 47 k := PF_6A.cg (F_8_o 18 (by decide)) (A_9_o 19 (by decide)) (A_9_o 22 (by decide)) (fun m _ _ => by rw [ai_fr (A_9_o 47 (by decide))]; exact ⟨rfl, rfl⟩)
      have RF_8A_9 : RVm F_8 A_9 48 k := u_7_p
      have IF_8A_9 : HIm F_8 A_9 k := IF_6A.fr (F_8_o 18 (by decide)) (F_8_o 74 (by decide)) (A_9_o 19 (by decide)) (A_9_o 22 (by decide)) (A_9_o 57 (by decide))
      refine ok_call (s_d_wholeNight hF_8 hA_9 (by omega) (by omega) (by omega) (VF_8A_9) (MF_8A_9) (RF_8A_9)) ?_
      rintro ⟨v_16, F_17, A_18, J_19⟩ ⟨hF_17, hA_18, F_17_o, A_18_o, v_16_p⟩
      dsimp only at hF_17 hA_18 F_17_o A_18_o v_16_p ⊢
      have v_16_p : RVm F_17 A_18 48 k := v_16_p
      have r_20 : 0 ≤ (F_17 18).toInt ∧ (F_17 18).toInt ≤ 1 := hF_17 18
      have f_21 : (F_17 18).toInt = (F_8 18).toInt := congrArg Int32.toInt (F_17_o 18 (by decide))
      have VF_17A_18 : VMs F_17 A_18 := VF_8A_9.fr (F_17_o 18 (by decide)) (fun q h1 h2 => A_18_o q (by intro e; simp at e <;> omega))
      have MF_17A_18 : k = ai A_18 29 (F_17 18).toInt := by rw [ai_fr (A_18_o 29 (by decide)), F_17_o 18 (by decide)] <;> exact MF_8A_9
      have PF_17A_18 : RVm F_17 A_18 47 k := PF_8A_9.cg (F_17_o 18 (by decide)) (A_18_o 19 (by decide)) (A_18_o 22 (by decide)) (fun m _ _ => by rw [ai_fr (A_18_o 47 (by decide))]; exact ⟨rfl, rfl⟩)
      have RF_17A_18 : RVm F_17 A_18 48 k := v_16_p
      have IF_17A_18 : HIm F_17 A_18 k := IF_8A_9.fr (F_17_o 18 (by decide)) (F_17_o 74 (by decide)) (A_18_o 19 (by decide)) (A_18_o 22 (by decide)) (A_18_o 57 (by decide))
      have l_22 : (0 : Int32).toInt = 0 := by decide
      refine ok_mono (s_d_night_104 hF_17 hA_18 (by omega) (RF_17A_18) (fun t h0 h1 => absurd h1 (by omega)) (by omega) (by omega)) ?_
      rintro ⟨v_23, F_24, A_25, J_26⟩ ⟨hF_24, hA_25, F_24_o, A_25_o, v_23_p⟩
      dsimp only at hF_24 hA_25 F_24_o A_25_o v_23_p ⊢
      have v_23_p : RVm F_24 A_25 47 k := v_23_p
      have VF_24A_25 : VMs F_24 A_25 := VF_17A_18.fr (F_24_o 18 (by decide)) (fun q h1 h2 => A_25_o q (by intro e; simp at e <;> omega))
      have MF_24A_25 : k = ai A_25 29 (F_24 18).toInt := by rw [ai_fr (A_25_o 29 (by decide)), F_24_o 18 (by decide)] <;> exact MF_17A_18
      have PF_24A_25 : RVm F_24 A_25 47 k := v_23_p
      have IF_24A_25 : HIm F_24 A_25 k := IF_17A_18.fr (F_24_o 18 (by decide)) (F_24_o 74 (by decide)) (A_25_o 19 (by decide)) (A_25_o 22 (by decide)) (A_25_o 57 (by decide))
      refine ⟨hF_24, hA_25, (fun q hq => ((((F_24_o q (fun e => hq ((by decide : ∀ x, x ∈ ([] : List Nat) → x ∈ ([63, 74] : List Nat)) q e))).trans (F_17_o q (fun e => hq ((by decide : ∀ x, x ∈ ([63] : List Nat) → x ∈ ([63, 74] : List Nat)) q e)))).trans (F_8_o q (fun e => hq ((by decide : ∀ x, x ∈ ([] : List Nat) → x ∈ ([63, 74] : List Nat)) q e)))).trans (F_6_o q (fun e => hq (by rw [e]; decide))))), (fun q hq => (((A_25_o q (fun e => hq ((by decide : ∀ x, x ∈ ([47] : List Nat) → x ∈ ([45, 46, 47, 48, 49, 50, 51, 52, 53, 54, 55, 56, 57] : List Nat)) q e))).trans (A_18_o q (fun e => hq ((by decide : ∀ x, x ∈ ([45, 46, 48, 49, 50, 51, 52, 53, 54, 55, 56] : List Nat) → x ∈ ([45, 46, 47, 48, 49, 50, 51, 52, 53, 54, 55, 56, 57] : List Nat)) q e)))).trans (A_9_o q (fun e => hq ((by decide : ∀ x, x ∈ ([48] : List Nat) → x ∈ ([45, 46, 47, 48, 49, 50, 51, 52, 53, 54, 55, 56, 57] : List Nat)) q e))))), ?_⟩
      first | exact v_23_p | exact ⟨v_23_p, IF_24A_25⟩
    · rw [i_nge] at c_2
      refine ok_ld (j := 47) hA (by omega) (by omega) ?_
      intro v_27 v_27_e v_27_r
      have r_28 : 0 ≤ (F 74).toInt ∧ (F 74).toInt ≤ 20 := hF 74
      have e_29 := i_mulL (c := 100) (k := 100) (x := (F 74)) (by decide) (by omega) (by omega)
      have e_30 := i_add (x := (100 * (F 74))) (y := x1) (by omega) (by omega)
      refine ok_st (j := 57) hA (by omega) (by omega) (trivial) ?_
      intro A_31 hA_31 A_31_o A_31_s A_31_n
      have VFA_31 : VMs F A_31 := VFA.fr rfl (fun q h1 h2 => A_31_o q (by omega))
      have MFA_31 : k = ai A_31 29 (F 18).toInt := by rw [ai_fr (A_31_o 29 (by decide))] <;> exact MFA
      have PFA_31 : RVm F A_31 47 k := PFA.sto A_31_o (by decide) (by decide)
      have IFA_31 : HIm F A_31 k := IFA.st A_31_o A_31_n (by omega) hk
      have C1 : ∀ t, 0 ≤ t → t < x1.toInt + 1 → ai A_31 57 (100 * (F 74).toInt + t) = ai A_31 47 (0 + t) := cp_st A_31_o A_31_s A_31_n v_27_e (by decide) CFA (by omega) (by omega) (by omega)
      have l_32 : (1 : Int32).toInt = 1 := by decide
      have e_33 := i_add (x := x1) (y := 1) (by omega) (by omega)
      refine ok_mono (ih hF hA_31 (VFA_31) (MFA_31) (PFA_31) (by omega) (IFA_31) (fun t h0 h1 => C1 t h0 (by omega)) (by omega) (by omega)) ?_
      rintro ⟨v_34, F_35, A_36, J_37⟩ ⟨hF_35, hA_36, F_35_o, A_36_o, v_34_p⟩
      dsimp only at hF_35 hA_36 F_35_o A_36_o v_34_p ⊢
      have v_34_p : RVm F_35 A_36 47 k ∧ HIm F_35 A_36 k := v_34_p
      have VF_35A_36 : VMs F_35 A_36 := VFA_31.fr (F_35_o 18 (by decide)) (fun q h1 h2 => A_36_o q (by intro e; simp at e <;> omega))
      have MF_35A_36 : k = ai A_36 29 (F_35 18).toInt := by rw [ai_fr (A_36_o 29 (by decide)), F_35_o 18 (by decide)] <;> exact MFA_31
      have PF_35A_36 : RVm F_35 A_36 47 k := v_34_p.1
      have IF_35A_36 : HIm F_35 A_36 k := v_34_p.2
      refine ⟨hF_35, hA_36, (fun q hq => (F_35_o q hq)), (fun q hq => ((A_36_o q hq).trans (A_31_o q (fun e => hq (by rw [e]; decide))))), ?_⟩
      first | exact v_34_p | exact ⟨v_34_p, IF_35A_36⟩
set_option maxRecDepth 10000 in
theorem s_d_night_11  {n : Nat} {k : Int} {B : Nat → Nat → Int32} {F : Nat → Int32} {A : Nat → Nat → Int32} {J : Nat → Nat → Int64} {x1 : Int32} (hF : IFm F) (hA : IAm A) (hk : k ≤ 6) (hk0 : 0 ≤ k) (VFA : VMs F A) (MFA : k = ai A 29 (F 18).toInt) (PFA : RVm F A 47 k) (hu : (F 74).toInt = 20) (hB : HIm F B k) (h19 : A 19 = B 19 ∧ A 22 = B 22) (hS : ∀ i, 0 ≤ i → i < x1.toInt → ai A 57 i = ai B 57 (i + 100)) (hT : ∀ i, x1.toInt ≤ i → ai A 57 i = ai B 57 i) (rx1 : 0 ≤ x1.toInt ∧ x1.toInt ≤ 1900) (hn : 13000 - x1.toInt < (n : Int)) : ok (d_night_11 n F A J x1) (fun r => IFm r.2.1 ∧ IAm r.2.2.1 ∧ (∀ q, q ∉ ([63, 74] : List Nat) → r.2.1 q = F q) ∧ (∀ q, q ∉ ([45, 46, 47, 48, 49, 50, 51, 52, 53, 54, 55, 56, 57] : List Nat) → r.2.2.1 q = A q) ∧ RVm r.2.1 r.2.2.1 47 k ∧ HIm r.2.1 r.2.2.1 k) := by
  induction n generalizing F A J x1 with
  | zero => exact absurd hn (by omega)
  | succ n ih =>
    have r18 : 0 ≤ (F 18).toInt ∧ (F 18).toInt ≤ 1 := hF 18
    unfold d_night_11
    have l_1 : (1900 : Int32).toInt = 1900 := by decide
    refine ok_cond (fun c_2 => ?_) (fun c_2 => ?_)
    · rw [i_ge] at c_2
      have r_3 : 0 ≤ (F 74).toInt ∧ (F 74).toInt ≤ 20 := hF 74
      have l_4 : (1 : Int32).toInt = 1 := by decide
      have e_5 := i_sub (x := (F 74)) (y := 1) (by omega) (by omega)
      refine ok_pf hF (⟨by omega, by omega⟩) ?_
      intro F_6 hF_6 F_6_k F_6_o
      have VF_6A : VMs F_6 A := VFA.fr (F_6_o 18 (by decide)) (fun _ _ _ => rfl)
      have MF_6A : k = ai A 29 (F_6 18).toInt := by rw [F_6_o 18 (by decide)] <;> exact MFA
      have PF_6A : RVm F_6 A 47 k := PFA.cg (F_6_o 18 (by decide)) rfl rfl (fun _ _ _ => ⟨rfl, rfl⟩)
      have u3 : (F_6 74).toInt = 19 := by rw [F_6_k]; omega
      have IF_6A : HIm F_6 A k := hB.sh h19.1 h19.2 (fun i h0 h1 => hS i h0 (by omega)) (F_6_o 18 (by decide)) hu (by rw [F_6_k]; omega) hk
      have l_7 : (0 : Int32).toInt = 0 := by decide
      refine ok_mono (s_d_night_51 hF_6 hA (by omega) (by omega) (VF_6A) (MF_6A) (PF_6A) (by omega) (IF_6A) (fun t h0 h1 => absurd h1 (by omega)) (by omega) (by omega)) ?_
      rintro ⟨v_8, F_9, A_10, J_11⟩ ⟨hF_9, hA_10, F_9_o, A_10_o, v_8_p⟩
      dsimp only at hF_9 hA_10 F_9_o A_10_o v_8_p ⊢
      have v_8_p : RVm F_9 A_10 47 k ∧ HIm F_9 A_10 k := v_8_p
      have VF_9A_10 : VMs F_9 A_10 := VF_6A.fr (F_9_o 18 (by decide)) (fun q h1 h2 => A_10_o q (by intro e; simp at e <;> omega))
      have MF_9A_10 : k = ai A_10 29 (F_9 18).toInt := by rw [ai_fr (A_10_o 29 (by decide)), F_9_o 18 (by decide)] <;> exact MF_6A
      refine ⟨hF_9, hA_10, (fun q hq => ((F_9_o q hq).trans (F_6_o q (fun e => hq (by rw [e]; decide))))), (fun q hq => (A_10_o q hq)), ?_⟩
      exact v_8_p
    · rw [i_nge] at c_2
      have l_12 : (100 : Int32).toInt = 100 := by decide
      have e_13 := i_add (x := x1) (y := 100) (by omega) (by omega)
      refine ok_ld (j := 57) hA (by omega) (by omega) ?_
      intro v_14 v_14_e v_14_r
      refine ok_st (j := 57) hA (by omega) (by omega) (trivial) ?_
      intro A_15 hA_15 A_15_o A_15_s A_15_n
      have VFA_15 : VMs F A_15 := VFA.fr rfl (fun q h1 h2 => A_15_o q (by omega))
      have MFA_15 : k = ai A_15 29 (F 18).toInt := by rw [ai_fr (A_15_o 29 (by decide))] <;> exact MFA
      have PFA_15 : RVm F A_15 47 k := PFA.sto A_15_o (by decide) (by decide)
      have q19 : A_15 19 = B 19 ∧ A_15 22 = B 22 := ⟨(A_15_o 19 (by decide)).trans h19.1, (A_15_o 22 (by decide)).trans h19.2⟩
      have S1 : ∀ i, 0 ≤ i → i < x1.toInt + 1 → ai A_15 57 i = ai B 57 (i + 100) := fun i h0 h1 => by
        by_cases e : i = x1.toInt
        · rw [e, A_15_s, v_14_e, hT _ (by omega)]; congr 1 <;> omega
        · rw [A_15_n i h0 e]; exact hS i h0 (by omega)
      have T1 : ∀ i, x1.toInt + 1 ≤ i → ai A_15 57 i = ai B 57 i := fun i h0 => by rw [A_15_n i (by omega) (by omega)]; exact hT i (by omega)
      have l_16 : (1 : Int32).toInt = 1 := by decide
      have e_17 := i_add (x := x1) (y := 1) (by omega) (by omega)
      refine ok_mono (ih hF hA_15 (VFA_15) (MFA_15) (PFA_15) (by omega) (hB) (q19) (fun i h0 h1 => S1 i h0 (by omega)) (fun i h0 => T1 i (by omega)) (by omega) (by omega)) ?_
      rintro ⟨v_18, F_19, A_20, J_21⟩ ⟨hF_19, hA_20, F_19_o, A_20_o, v_18_p⟩
      dsimp only at hF_19 hA_20 F_19_o A_20_o v_18_p ⊢
      have v_18_p : RVm F_19 A_20 47 k ∧ HIm F_19 A_20 k := v_18_p
      have VF_19A_20 : VMs F_19 A_20 := VFA_15.fr (F_19_o 18 (by decide)) (fun q h1 h2 => A_20_o q (by intro e; simp at e <;> omega))
      have MF_19A_20 : k = ai A_20 29 (F_19 18).toInt := by rw [ai_fr (A_20_o 29 (by decide)), F_19_o 18 (by decide)] <;> exact MFA_15
      refine ⟨hF_19, hA_20, (fun q hq => (F_19_o q hq)), (fun q hq => ((A_20_o q hq).trans (A_15_o q (fun e => hq (by rw [e]; decide))))), ?_⟩
      exact v_18_p
set_option maxRecDepth 10000 in
theorem s_d_night {n : Nat} {k : Int} {F : Nat → Int32} {A : Nat → Nat → Int32} {J : Nat → Nat → Int64}  (hF : IFm F) (hA : IAm A) (hn : 13100 ≤ n) (hk : k ≤ 6) (hk0 : 0 ≤ k) (VFA : VMs F A) (MFA : k = ai A 29 (F 18).toInt) (PFA : RVm F A 47 k) (IFA : HIm F A k) : ok (d_night n F A J) (fun r => IFm r.2.1 ∧ IAm r.2.2.1 ∧ (∀ q, q ∉ ([63, 74] : List Nat) → r.2.1 q = F q) ∧ (∀ q, q ∉ ([45, 46, 47, 48, 49, 50, 51, 52, 53, 54, 55, 56, 57] : List Nat) → r.2.2.1 q = A q) ∧ RVm r.2.1 r.2.2.1 47 k ∧ HIm r.2.1 r.2.2.1 k) := by
  have r18 : 0 ≤ (F 18).toInt ∧ (F 18).toInt ≤ 1 := hF 18
  unfold d_night
  have r_1 : 0 ≤ (F 74).toInt ∧ (F 74).toInt ≤ 20 := hF 74
  have l_2 : (20 : Int32).toInt = 20 := by decide
  refine ok_cond (fun c_3 => ?_) (fun c_3 => ?_)
  · rw [i_ne] at c_3
    unfold d_night_49
    have l_4 : (0 : Int32).toInt = 0 := by decide
    refine ok_mono (s_d_night_51 hF hA (by omega) (by omega) (VFA) (MFA) (PFA) (by omega) (IFA) (fun t h0 h1 => absurd h1 (by omega)) (by omega) (by omega)) ?_
    rintro ⟨v_5, F_6, A_7, J_8⟩ ⟨hF_6, hA_7, F_6_o, A_7_o, v_5_p⟩
    dsimp only at hF_6 hA_7 F_6_o A_7_o v_5_p ⊢
    have v_5_p : RVm F_6 A_7 47 k ∧ HIm F_6 A_7 k := v_5_p
    have VF_6A_7 : VMs F_6 A_7 := VFA.fr (F_6_o 18 (by decide)) (fun q h1 h2 => A_7_o q (by intro e; simp at e <;> omega))
    have MF_6A_7 : k = ai A_7 29 (F_6 18).toInt := by rw [ai_fr (A_7_o 29 (by decide)), F_6_o 18 (by decide)] <;> exact MFA
    refine ⟨hF_6, hA_7, (fun q hq => (F_6_o q hq)), (fun q hq => (A_7_o q hq)), ?_⟩
    exact v_5_p
  · rw [i_nne] at c_3
    have l_9 : (0 : Int32).toInt = 0 := by decide
    refine ok_mono (s_d_night_11 (B := A) hF hA (by omega) (by omega) (VFA) (MFA) (PFA) (by omega) (IFA) (⟨rfl, rfl⟩) (fun i h0 h1 => absurd h1 (by omega)) (fun i _ => rfl) (by omega) (by omega)) ?_
    rintro ⟨v_10, F_11, A_12, J_13⟩ ⟨hF_11, hA_12, F_11_o, A_12_o, v_10_p⟩
    dsimp only at hF_11 hA_12 F_11_o A_12_o v_10_p ⊢
    have v_10_p : RVm F_11 A_12 47 k ∧ HIm F_11 A_12 k := v_10_p
    have VF_11A_12 : VMs F_11 A_12 := VFA.fr (F_11_o 18 (by decide)) (fun q h1 h2 => A_12_o q (by intro e; simp at e <;> omega))
    have MF_11A_12 : k = ai A_12 29 (F_11 18).toInt := by rw [ai_fr (A_12_o 29 (by decide)), F_11_o 18 (by decide)] <;> exact MFA
    refine ⟨hF_11, hA_12, (fun q hq => (F_11_o q hq)), (fun q hq => (A_12_o q hq)), ?_⟩
    exact v_10_p
set_option maxRecDepth 10000 in
theorem s_d_undo_21  {n : Nat} {k : Int} {F : Nat → Int32} {A : Nat → Nat → Int32} {J : Nat → Nat → Int64} {x1 : Int32} (hF : IFm F) (hA : IAm A) (hk : k ≤ 6) (HFA : RHm F A 57 (100 * (F 74).toInt) k) (hu : (F 74).toInt ≤ 19) (CFA : ∀ t, 0 ≤ t → t < x1.toInt → ai A 47 (0 + t) = ai A 57 (100 * (F 74).toInt + t)) (rx1 : 0 ≤ x1.toInt ∧ x1.toInt ≤ 100) (hn : 100 - x1.toInt < (n : Int)) : ok (d_undo_21 n F A J x1) (fun r => IFm r.2.1 ∧ IAm r.2.2.1 ∧ (∀ q, q ∉ ([] : List Nat) → r.2.1 q = F q) ∧ (∀ q, q ∉ ([47] : List Nat) → r.2.2.1 q = A q) ∧ RVm r.2.1 r.2.2.1 47 k) := by
  induction n generalizing F A J x1 with
  | zero => exact absurd hn (by omega)
  | succ n ih =>
    have r18 : 0 ≤ (F 18).toInt ∧ (F 18).toInt ≤ 1 := hF 18
    unfold d_undo_21
    have l_1 : (100 : Int32).toInt = 100 := by decide
    refine ok_cond (fun c_2 => ?_) (fun c_2 => ?_)
    · rw [i_ge] at c_2
      refine ok_some ?_
      have l_3 : (1 : Int32).toInt = 1 := by decide
      refine ⟨hF, hA, (fun q hq => rfl), (fun q hq => rfl), ?_⟩
      exact (HFA.cp hk (fun t h0 h1 => CFA t h0 (by omega))).toV
    · rw [i_nge] at c_2
      have r_4 : 0 ≤ (F 74).toInt ∧ (F 74).toInt ≤ 20 := hF 74
      have e_5 := i_mulL (c := 100) (k := 100) (x := (F 74)) (by decide) (by omega) (by omega)
      have e_6 := i_add (x := (100 * (F 74))) (y := x1) (by omega) (by omega)
      refine ok_ld (j := 57) hA (by omega) (by omega) ?_
      intro v_7 v_7_e v_7_r
      refine ok_st (j := 47) hA (by omega) (by omega) (trivial) ?_
      intro A_8 hA_8 A_8_o A_8_s A_8_n
      have HFA_8 : RHm F A_8 57 (100 * (F 74).toInt) k := HFA.fr rfl (A_8_o 19 (by decide)) (A_8_o 22 (by decide)) (A_8_o 57 (by decide))
      have C1 : ∀ t, 0 ≤ t → t < x1.toInt + 1 → ai A_8 47 (0 + t) = ai A_8 57 (100 * (F 74).toInt + t) := cp_st A_8_o A_8_s A_8_n v_7_e (by decide) CFA (by omega) (by omega) (by omega)
      have l_9 : (1 : Int32).toInt = 1 := by decide
      have e_10 := i_add (x := x1) (y := 1) (by omega) (by omega)
      refine ok_mono (ih hF hA_8 (HFA_8) (by omega) (fun t h0 h1 => C1 t h0 (by omega)) (by omega) (by omega)) ?_
      rintro ⟨v_11, F_12, A_13, J_14⟩ ⟨hF_12, hA_13, F_12_o, A_13_o, v_11_p⟩
      dsimp only at hF_12 hA_13 F_12_o A_13_o v_11_p ⊢
      have v_11_p : RVm F_12 A_13 47 k := v_11_p
      refine ⟨hF_12, hA_13, (fun q hq => (F_12_o q hq)), (fun q hq => ((A_13_o q hq).trans (A_8_o q (fun e => hq (by rw [e]; decide))))), ?_⟩
      exact v_11_p
set_option maxRecDepth 10000 in
theorem s_d_undo {n : Nat} {k : Int} {F : Nat → Int32} {A : Nat → Nat → Int32} {J : Nat → Nat → Int64}  (hF : IFm F) (hA : IAm A) (hn : 200 ≤ n) (hk : k ≤ 6) (PFA : RVm F A 47 k) (IFA : HIm F A k) : ok (d_undo n F A J) (fun r => IFm r.2.1 ∧ IAm r.2.2.1 ∧ (∀ q, q ∉ ([74] : List Nat) → r.2.1 q = F q) ∧ (∀ q, q ∉ ([47] : List Nat) → r.2.2.1 q = A q) ∧ RVm r.2.1 r.2.2.1 47 k ∧ HIm r.2.1 r.2.2.1 k) := by
  have r18 : 0 ≤ (F 18).toInt ∧ (F 18).toInt ≤ 1 := hF 18
  unfold d_undo
  have r_1 : 0 ≤ (F 74).toInt ∧ (F 74).toInt ≤ 20 := hF 74
  have l_2 : (0 : Int32).toInt = 0 := by decide
  refine ok_cond (fun c_3 => ?_) (fun c_3 => ?_)
  · rw [i_ne] at c_3
    have l_4 : (1 : Int32).toInt = 1 := by decide
    have e_5 := i_sub (x := (F 74)) (y := 1) (by omega) (by omega)
    refine ok_pf hF (⟨by omega, by omega⟩) ?_
    intro F_6 hF_6 F_6_k F_6_o
    have PF_6A : RVm F_6 A 47 k := PFA.cg (F_6_o 18 (by decide)) rfl rfl (fun _ _ _ => ⟨rfl, rfl⟩)
    have IF_6A : HIm F_6 A k := IFA.dn (F_6_o 18 (by decide)) (by rw [F_6_k]; omega)
    have hu2 : (F_6 74).toInt = (F 74).toInt - 1 := by rw [F_6_k]; assumption
    have H1 : RHm F_6 A 57 (100 * (F_6 74).toInt) k := (IFA _ (by omega) (by omega)).fr (F_6_o 18 (by decide)) rfl rfl rfl
    refine ok_mono (s_d_undo_21 hF_6 hA (by omega) (by assumption) (by omega) (fun t h0 h1 => absurd h1 (by omega)) (by omega) (by omega)) ?_
    rintro ⟨v_7, F_8, A_9, J_10⟩ ⟨hF_8, hA_9, F_8_o, A_9_o, v_7_p⟩
    dsimp only at hF_8 hA_9 F_8_o A_9_o v_7_p ⊢
    have v_7_p : RVm F_8 A_9 47 k := v_7_p
    have PF_8A_9 : RVm F_8 A_9 47 k := v_7_p
    have IF_8A_9 : HIm F_8 A_9 k := IF_6A.fr (F_8_o 18 (by decide)) (F_8_o 74 (by decide)) (A_9_o 19 (by decide)) (A_9_o 22 (by decide)) (A_9_o 57 (by decide))
    refine ⟨hF_8, hA_9, (fun q hq => ((F_8_o q (fun e => hq ((by decide : ∀ x, x ∈ ([] : List Nat) → x ∈ ([74] : List Nat)) q e))).trans (F_6_o q (fun e => hq (by rw [e]; decide))))), (fun q hq => (A_9_o q hq)), ?_⟩
    exact ⟨PF_8A_9, IF_8A_9⟩
  · rw [i_nne] at c_3
    refine ok_some ?_
    refine ⟨hF, hA, (fun q hq => rfl), (fun q hq => rfl), ?_⟩
    exact ⟨PFA, IFA⟩
set_option maxRecDepth 10000 in
theorem s_d_hold_20  {n : Nat} {k : Int} {F : Nat → Int32} {A : Nat → Nat → Int32} {J : Nat → Nat → Int64} {x1 : Int32} {x2 : Int32} (hF : IFm F) (hA : IAm A) (hk : k ≤ 6) (PFA : RVm F A 47 k) (EFA : HEx F A x1.toInt k) (CFA : ∀ t, 0 ≤ t → t < x2.toInt → ai A 62 (100 * x1.toInt + t) = ai A 47 (0 + t)) (rx1 : 0 ≤ x1.toInt ∧ x1.toInt ≤ 2) (rx2 : 0 ≤ x2.toInt ∧ x2.toInt ≤ 100) (hn : 100 - x2.toInt < (n : Int)) : ok (d_hold_20 n F A J x1 x2) (fun r => IFm r.2.1 ∧ IAm r.2.2.1 ∧ (∀ q, q ∉ ([] : List Nat) → r.2.1 q = F q) ∧ (∀ q, q ∉ ([62] : List Nat) → r.2.2.1 q = A q) ∧ HEm r.2.1 r.2.2.1 k) := by
  induction n generalizing F A J x2 with
  | zero => exact absurd hn (by omega)
  | succ n ih =>
    have r18 : 0 ≤ (F 18).toInt ∧ (F 18).toInt ≤ 1 := hF 18
    unfold d_hold_20
    have l_1 : (100 : Int32).toInt = 100 := by decide
    refine ok_cond (fun c_2 => ?_) (fun c_2 => ?_)
    · rw [i_ge] at c_2
      refine ok_some ?_
      refine ⟨hF, hA, (fun q hq => rfl), (fun q hq => rfl), ?_⟩
      exact EFA.fin (PFA.toH.cp hk (fun t h0 h1 => CFA t h0 (by omega)))
    · rw [i_nge] at c_2
      refine ok_ld (j := 47) hA (by omega) (by omega) ?_
      intro v_3 v_3_e v_3_r
      have e_4 := i_mulL (c := 100) (k := 100) (x := x1) (by decide) (by omega) (by omega)
      have e_5 := i_add (x := (100 * x1)) (y := x2) (by omega) (by omega)
      refine ok_st (j := 62) hA (by omega) (by omega) (trivial) ?_
      intro A_6 hA_6 A_6_o A_6_s A_6_n
      have PFA_6 : RVm F A_6 47 k := PFA.sto A_6_o (by decide) (by decide)
      have EFA_6 : HEx F A_6 x1.toInt k := EFA.st A_6_o A_6_n (by omega) (by omega) hk
      have C1 : ∀ t, 0 ≤ t → t < x2.toInt + 1 → ai A_6 62 (100 * x1.toInt + t) = ai A_6 47 (0 + t) := cp_st A_6_o A_6_s A_6_n v_3_e (by decide) CFA (by omega) (by omega) (by omega)
      have l_7 : (1 : Int32).toInt = 1 := by decide
      have e_8 := i_add (x := x2) (y := 1) (by omega) (by omega)
      refine ok_mono (ih hF hA_6 (PFA_6) (EFA_6) (fun t h0 h1 => C1 t h0 (by omega)) (by omega) (by omega)) ?_
      rintro ⟨v_9, F_10, A_11, J_12⟩ ⟨hF_10, hA_11, F_10_o, A_11_o, v_9_p⟩
      dsimp only at hF_10 hA_11 F_10_o A_11_o v_9_p ⊢
      have v_9_p : HEm F_10 A_11 k := v_9_p
      have PF_10A_11 : RVm F_10 A_11 47 k := PFA_6.cg (F_10_o 18 (by decide)) (A_11_o 19 (by decide)) (A_11_o 22 (by decide)) (fun m _ _ => by rw [ai_fr (A_11_o 47 (by decide))]; exact ⟨rfl, rfl⟩)
      refine ⟨hF_10, hA_11, (fun q hq => (F_10_o q hq)), (fun q hq => ((A_11_o q hq).trans (A_6_o q (fun e => hq (by rw [e]; decide))))), ?_⟩
      exact v_9_p
set_option maxRecDepth 10000 in
theorem s_d_hold {n : Nat} {k : Int} {F : Nat → Int32} {A : Nat → Nat → Int32} {J : Nat → Nat → Int64} {x1 : Int32} (hF : IFm F) (hA : IAm A) (hn : 200 ≤ n) (hk : k ≤ 6) (PFA : RVm F A 47 k) (GFA : HEm F A k) : ok (d_hold n F A J x1) (fun r => IFm r.2.1 ∧ IAm r.2.2.1 ∧ (∀ q, q ∉ ([] : List Nat) → r.2.1 q = F q) ∧ (∀ q, q ∉ ([61, 62] : List Nat) → r.2.2.1 q = A q) ∧ HEm r.2.1 r.2.2.1 k) := by
  have r18 : 0 ≤ (F 18).toInt ∧ (F 18).toInt ≤ 1 := hF 18
  unfold d_hold
  have l_1 : (0 : Int32).toInt = 0 := by decide
  have l_2 : (2 : Int32).toInt = 2 := by decide
  refine ok_call (s_d_in ) ?_
  intro v_3 v_3_p
  have v_3_p : v_3.toInt = (if (0 : Int32).toInt ≤ x1.toInt ∧ x1.toInt ≤ (2 : Int32).toInt then 1 else 0) := v_3_p
  refine ok_cond (fun c_4 => ?_) (fun c_4 => ?_)
  · rw [i_ne] at c_4
    refine ok_st (j := 61) hA (by omega) (by omega) (show 0 ≤ (vp_nar .boolean 1).toInt ∧ (vp_nar .boolean 1).toInt ≤ 1 by decide) ?_
    intro A_5 hA_5 A_5_o A_5_s A_5_n
    have PFA_5 : RVm F A_5 47 k := PFA.sto A_5_o (by decide) (by decide)
    have E1 : HEx F A_5 x1.toInt k := GFA.at A_5_o A_5_n
    refine ok_mono (s_d_hold_20 hF hA_5 (by omega) (PFA_5) (by assumption) (fun t h0 h1 => absurd h1 (by omega)) (by omega) (by omega) (by omega)) ?_
    rintro ⟨v_6, F_7, A_8, J_9⟩ ⟨hF_7, hA_8, F_7_o, A_8_o, v_6_p⟩
    dsimp only at hF_7 hA_8 F_7_o A_8_o v_6_p ⊢
    have v_6_p : HEm F_7 A_8 k := v_6_p
    have PF_7A_8 : RVm F_7 A_8 47 k := PFA_5.cg (F_7_o 18 (by decide)) (A_8_o 19 (by decide)) (A_8_o 22 (by decide)) (fun m _ _ => by rw [ai_fr (A_8_o 47 (by decide))]; exact ⟨rfl, rfl⟩)
    refine ⟨hF_7, hA_8, (fun q hq => (F_7_o q hq)), (fun q hq => ((A_8_o q (fun e => hq ((by decide : ∀ x, x ∈ ([62] : List Nat) → x ∈ ([61, 62] : List Nat)) q e))).trans (A_5_o q (fun e => hq (by rw [e]; decide))))), ?_⟩
    exact v_6_p
  · rw [i_nne] at c_4
    refine ok_some ?_
    refine ⟨hF, hA, (fun q hq => rfl), (fun q hq => rfl), ?_⟩
    exact GFA
set_option maxRecDepth 10000 in
theorem s_d_restore_22  {n : Nat} {k : Int} {F : Nat → Int32} {A : Nat → Nat → Int32} {J : Nat → Nat → Int64} {x1 : Int32} {x2 : Int32} (hF : IFm F) (hA : IAm A) (hk : k ≤ 6) (HFA : RHm F A 62 (100 * x1.toInt) k) (CFA : ∀ t, 0 ≤ t → t < x2.toInt → ai A 47 (0 + t) = ai A 62 (100 * x1.toInt + t)) (rx1 : 0 ≤ x1.toInt ∧ x1.toInt ≤ 2) (rx2 : 0 ≤ x2.toInt ∧ x2.toInt ≤ 100) (hn : 100 - x2.toInt < (n : Int)) : ok (d_restore_22 n F A J x1 x2) (fun r => IFm r.2.1 ∧ IAm r.2.2.1 ∧ (∀ q, q ∉ ([74] : List Nat) → r.2.1 q = F q) ∧ (∀ q, q ∉ ([47] : List Nat) → r.2.2.1 q = A q) ∧ RVm r.2.1 r.2.2.1 47 k ∧ (r.2.1 74).toInt = 0) := by
  induction n generalizing F A J x2 with
  | zero => exact absurd hn (by omega)
  | succ n ih =>
    have r18 : 0 ≤ (F 18).toInt ∧ (F 18).toInt ≤ 1 := hF 18
    unfold d_restore_22
    have l_1 : (100 : Int32).toInt = 100 := by decide
    refine ok_cond (fun c_2 => ?_) (fun c_2 => ?_)
    · rw [i_ge] at c_2
      have l_3 : (0 : Int32).toInt = 0 := by decide
      refine ok_pf hF (⟨by omega, by omega⟩) ?_
      intro F_4 hF_4 F_4_k F_4_o
      have HF_4A : RHm F_4 A 62 (100 * x1.toInt) k := HFA.fr (F_4_o 18 (by decide)) rfl rfl rfl
      have z74 : (F_4 74).toInt = 0 := by rw [F_4_k]; rfl
      refine ok_some ?_
      refine ⟨hF_4, hA, (fun q hq => (F_4_o q (fun e => hq (by rw [e]; decide)))), (fun q hq => rfl), ?_⟩
      exact ⟨(HF_4A.cp hk (fun t h0 h1 => CFA t h0 (by omega))).toV, z74⟩
    · rw [i_nge] at c_2
      have e_5 := i_mulL (c := 100) (k := 100) (x := x1) (by decide) (by omega) (by omega)
      have e_6 := i_add (x := (100 * x1)) (y := x2) (by omega) (by omega)
      refine ok_ld (j := 62) hA (by omega) (by omega) ?_
      intro v_7 v_7_e v_7_r
      refine ok_st (j := 47) hA (by omega) (by omega) (trivial) ?_
      intro A_8 hA_8 A_8_o A_8_s A_8_n
      have HFA_8 : RHm F A_8 62 (100 * x1.toInt) k := HFA.fr rfl (A_8_o 19 (by decide)) (A_8_o 22 (by decide)) (A_8_o 62 (by decide))
      have C1 : ∀ t, 0 ≤ t → t < x2.toInt + 1 → ai A_8 47 (0 + t) = ai A_8 62 (100 * x1.toInt + t) := cp_st A_8_o A_8_s A_8_n v_7_e (by decide) CFA (by omega) (by omega) (by omega)
      have l_9 : (1 : Int32).toInt = 1 := by decide
      have e_10 := i_add (x := x2) (y := 1) (by omega) (by omega)
      refine ok_mono (ih hF hA_8 (HFA_8) (fun t h0 h1 => C1 t h0 (by omega)) (by omega) (by omega)) ?_
      rintro ⟨v_11, F_12, A_13, J_14⟩ ⟨hF_12, hA_13, F_12_o, A_13_o, v_11_p⟩
      dsimp only at hF_12 hA_13 F_12_o A_13_o v_11_p ⊢
      have v_11_p : RVm F_12 A_13 47 k ∧ (F_12 74).toInt = 0 := v_11_p
      refine ⟨hF_12, hA_13, (fun q hq => (F_12_o q hq)), (fun q hq => ((A_13_o q hq).trans (A_8_o q (fun e => hq (by rw [e]; decide))))), ?_⟩
      exact v_11_p
set_option maxRecDepth 10000 in
theorem s_d_restore {n : Nat} {k : Int} {F : Nat → Int32} {A : Nat → Nat → Int32} {J : Nat → Nat → Int64} {x1 : Int32} (hF : IFm F) (hA : IAm A) (hn : 200 ≤ n) (hk : k ≤ 6) (PFA : RVm F A 47 k) (IFA : HIm F A k) (GFA : HEm F A k) : ok (d_restore n F A J x1) (fun r => IFm r.2.1 ∧ IAm r.2.2.1 ∧ (∀ q, q ∉ ([74] : List Nat) → r.2.1 q = F q) ∧ (∀ q, q ∉ ([47] : List Nat) → r.2.2.1 q = A q) ∧ RVm r.2.1 r.2.2.1 47 k ∧ HIm r.2.1 r.2.2.1 k) := by
  have r18 : 0 ≤ (F 18).toInt ∧ (F 18).toInt ≤ 1 := hF 18
  unfold d_restore
  have l_1 : (0 : Int32).toInt = 0 := by decide
  have l_2 : (2 : Int32).toInt = 2 := by decide
  refine ok_call (s_d_in ) ?_
  intro v_3 v_3_p
  have v_3_p : v_3.toInt = (if (0 : Int32).toInt ≤ x1.toInt ∧ x1.toInt ≤ (2 : Int32).toInt then 1 else 0) := v_3_p
  refine ok_cond (fun c_4 => ?_) (fun c_4 => ?_)
  · rw [i_eq] at c_4
    refine ok_some ?_
    refine ⟨hF, hA, (fun q hq => rfl), (fun q hq => rfl), ?_⟩
    exact ⟨PFA, IFA⟩
  · rw [i_neq] at c_4
    refine ok_ld (j := 61) hA (by omega) (by omega) ?_
    intro v_5 v_5_e v_5_r
    have v_5_r : 0 ≤ v_5.toInt ∧ v_5.toInt ≤ 1 := v_5_r
    have H1 : (v_5.toInt ≠ 0) → RHm F A 62 (100 * x1.toInt) k := fun h => GFA x1.toInt (by omega) (by omega) (by omega)
    refine ok_cond (fun c_6 => ?_) (fun c_6 => ?_)
    · rw [i_ne] at c_6
      refine ok_mono (s_d_restore_22 hF hA (by omega) (H1 (by omega)) (fun t h0 h1 => absurd h1 (by omega)) (by omega) (by omega) (by omega)) ?_
      rintro ⟨v_7, F_8, A_9, J_10⟩ ⟨hF_8, hA_9, F_8_o, A_9_o, v_7_p⟩
      dsimp only at hF_8 hA_9 F_8_o A_9_o v_7_p ⊢
      have v_7_p : RVm F_8 A_9 47 k ∧ (F_8 74).toInt = 0 := v_7_p
      refine ⟨hF_8, hA_9, (fun q hq => (F_8_o q hq)), (fun q hq => (A_9_o q hq)), ?_⟩
      exact ⟨v_7_p.1, fun u h0 h1 => absurd h1 (by have z := v_7_p.2; omega)⟩
    · rw [i_nne] at c_6
      refine ok_some ?_
      refine ⟨hF, hA, (fun q hq => rfl), (fun q hq => rfl), ?_⟩
      exact ⟨PFA, IFA⟩
end Qz54
section Qz55
set_option maxRecDepth 10000 in
theorem s_d_put_3  {n : Nat} {F : Nat → Int32} {A : Nat → Nat → Int32} {J : Nat → Nat → Int64} {x1 : Int32} {x2 : Int32} (hF : IFm F) (hA : IAm A) (hm : x2.toInt = 24 ∨ x2.toInt = 16 ∨ x2.toInt = 8 ∨ x2.toInt = 0 ∨ x2.toInt = -8) (hb : 8 * (F 2).toInt + x2.toInt + 8 ≤ 16000) (hn : x2.toInt + 9 < (n : Int)) : ok (d_put_3 n F A J x1 x2) (fun r => IFm r.2.1 ∧ IAm r.2.2.1 ∧ (∀ q, q ∉ ([2] : List Nat) → r.2.1 q = F q) ∧ (∀ q, q ∉ ([1] : List Nat) → r.2.2.1 q = A q) ∧ 8 * (r.2.1 2).toInt = 8 * (F 2).toInt + x2.toInt + 8) := by
  induction n generalizing F A J x2 with
  | zero => exact absurd hn (by omega)
  | succ n ih =>
    have r18 : 0 ≤ (F 18).toInt ∧ (F 18).toInt ≤ 1 := hF 18
    unfold d_put_3
    have l_1 : (0 : Int32).toInt = 0 := by decide
    refine ok_cond (fun c_2 => ?_) (fun c_2 => ?_)
    · rw [i_lt] at c_2
      refine ok_some ?_
      refine ⟨hF, hA, (fun q hq => rfl), (fun q hq => rfl), ?_⟩
      (try dsimp only) <;> omega
    · rw [i_nlt] at c_2
      have r_3 : 0 ≤ (F 2).toInt ∧ (F 2).toInt ≤ 2000 := hF 2
      refine ok_st (j := 1) hA (by omega) (by omega) (trivial) ?_
      intro A_4 hA_4 A_4_o A_4_s A_4_n
      have l_5 : (1 : Int32).toInt = 1 := by decide
      have e_6 := i_add (x := (F 2)) (y := 1) (by omega) (by omega)
      refine ok_pf hF (⟨by omega, by omega⟩) ?_
      intro F_7 hF_7 F_7_k F_7_o
      have f2v : (F_7 2).toInt = (F 2).toInt + 1 := by rw [F_7_k]; omega
      have ey := i_m8 (x := x2) (by omega)
      generalize hy : x2 + -8 = y2 at ey ⊢
      clear hy
      refine ok_mono (ih hF_7 hA_4 (by omega) (by omega) (by omega)) ?_
      rintro ⟨v_8, F_9, A_10, J_11⟩ ⟨hF_9, hA_10, F_9_o, A_10_o, v_8_p⟩
      dsimp only at hF_9 hA_10 F_9_o A_10_o v_8_p ⊢
      have v_8_p : 8 * (F_9 2).toInt = 8 * (F_7 2).toInt + y2.toInt + 8 := v_8_p
      refine ⟨hF_9, hA_10, (fun q hq => ((F_9_o q hq).trans (F_7_o q (fun e => hq (by rw [e]; decide))))), (fun q hq => ((A_10_o q hq).trans (A_4_o q (fun e => hq (by rw [e]; decide))))), ?_⟩
      (try dsimp only) <;> omega
set_option maxRecDepth 10000 in
theorem s_d_put {n : Nat} {F : Nat → Int32} {A : Nat → Nat → Int32} {J : Nat → Nat → Int64} {x1 : Int32} (hF : IFm F) (hA : IAm A) (hn : 40 ≤ n) (hb : (F 2).toInt + 4 ≤ 2000) : ok (d_put n F A J x1) (fun r => IFm r.2.1 ∧ IAm r.2.2.1 ∧ (∀ q, q ∉ ([2] : List Nat) → r.2.1 q = F q) ∧ (∀ q, q ∉ ([1] : List Nat) → r.2.2.1 q = A q) ∧ (r.2.1 2).toInt = (F 2).toInt + 4) := by
  have r18 : 0 ≤ (F 18).toInt ∧ (F 18).toInt ≤ 1 := hF 18
  have l24 : (24 : Int32).toInt = 24 := by decide
  unfold d_put
  refine ok_mono (s_d_put_3 hF hA (by omega) (by omega) (by omega)) ?_
  rintro ⟨v_1, F_2, A_3, J_4⟩ ⟨hF_2, hA_3, F_2_o, A_3_o, v_1_p⟩
  dsimp only at hF_2 hA_3 F_2_o A_3_o v_1_p ⊢
  have v_1_p : 8 * (F_2 2).toInt = 8 * (F 2).toInt + (24 : Int32).toInt + 8 := v_1_p
  refine ⟨hF_2, hA_3, (fun q hq => (F_2_o q hq)), (fun q hq => (A_3_o q hq)), ?_⟩
  (try dsimp only) <;> omega
set_option maxRecDepth 10000 in
theorem s_d_feed {n : Nat} {F : Nat → Int32} {A : Nat → Nat → Int32} {J : Nat → Nat → Int64} {x1 : Int32} {x2 : Int32} {x3 : Int32} {x4 : Int32} {x5 : Int32} (hF : IFm F) (hA : IAm A) (hn : 50 ≤ n) : ok (d_feed n F A J x1 x2 x3 x4 x5) (fun r => IFm r.2.1 ∧ IAm r.2.2.1 ∧ (∀ q, q ∉ ([2] : List Nat) → r.2.1 q = F q) ∧ (∀ q, q ∉ ([1] : List Nat) → r.2.2.1 q = A q) ∧ (((F 2).toInt + 20 ≤ 2000 ∧ r.1.toInt = (F 2).toInt + 20 ∧ (r.2.1 2).toInt = (F 2).toInt + 20) ∨ (2000 < (F 2).toInt + 20 ∧ r.1.toInt = -1 ∧ (r.2.1 2).toInt = (F 2).toInt))) := by
  have r18 : 0 ≤ (F 18).toInt ∧ (F 18).toInt ≤ 1 := hF 18
  unfold d_feed
  have r_1 : 0 ≤ (F 2).toInt ∧ (F 2).toInt ≤ 2000 := hF 2
  have l_2 : (20 : Int32).toInt = 20 := by decide
  have e_3 := i_add (x := (F 2)) (y := 20) (by omega) (by omega)
  have l_4 : (2000 : Int32).toInt = 2000 := by decide
  refine ok_cond (fun c_5 => ?_) (fun c_5 => ?_)
  · rw [i_le] at c_5
    refine ok_call (s_d_put hF hA (by omega) (by omega)) ?_
    rintro ⟨u_6, F_7, A_8, J_9⟩ ⟨hF_7, hA_8, F_7_o, A_8_o, u_6_p⟩
    dsimp only at hF_7 hA_8 F_7_o A_8_o u_6_p ⊢
    have u_6_p : (F_7 2).toInt = (F 2).toInt + 4 := u_6_p
    have r_10 : 0 ≤ (F_7 18).toInt ∧ (F_7 18).toInt ≤ 1 := hF_7 18
    have r_11 : 0 ≤ (F 18).toInt ∧ (F 18).toInt ≤ 1 := hF 18
    have f_12 : (F_7 18).toInt = (F 18).toInt := congrArg Int32.toInt (F_7_o 18 (by decide))
    refine ok_call (s_d_put hF_7 hA_8 (by omega) (by omega)) ?_
    rintro ⟨u_13, F_14, A_15, J_16⟩ ⟨hF_14, hA_15, F_14_o, A_15_o, u_13_p⟩
    dsimp only at hF_14 hA_15 F_14_o A_15_o u_13_p ⊢
    have u_13_p : (F_14 2).toInt = (F_7 2).toInt + 4 := u_13_p
    have r_17 : 0 ≤ (F_14 18).toInt ∧ (F_14 18).toInt ≤ 1 := hF_14 18
    have f_18 : (F_14 18).toInt = (F_7 18).toInt := congrArg Int32.toInt (F_14_o 18 (by decide))
    refine ok_call (s_d_put hF_14 hA_15 (by omega) (by omega)) ?_
    rintro ⟨u_19, F_20, A_21, J_22⟩ ⟨hF_20, hA_21, F_20_o, A_21_o, u_19_p⟩
    dsimp only at hF_20 hA_21 F_20_o A_21_o u_19_p ⊢
    have u_19_p : (F_20 2).toInt = (F_14 2).toInt + 4 := u_19_p
    have r_23 : 0 ≤ (F_20 18).toInt ∧ (F_20 18).toInt ≤ 1 := hF_20 18
    have f_24 : (F_20 18).toInt = (F_14 18).toInt := congrArg Int32.toInt (F_20_o 18 (by decide))
    refine ok_call (s_d_put hF_20 hA_21 (by omega) (by omega)) ?_
    rintro ⟨u_25, F_26, A_27, J_28⟩ ⟨hF_26, hA_27, F_26_o, A_27_o, u_25_p⟩
    dsimp only at hF_26 hA_27 F_26_o A_27_o u_25_p ⊢
    have u_25_p : (F_26 2).toInt = (F_20 2).toInt + 4 := u_25_p
    have r_29 : 0 ≤ (F_26 18).toInt ∧ (F_26 18).toInt ≤ 1 := hF_26 18
    have f_30 : (F_26 18).toInt = (F_20 18).toInt := congrArg Int32.toInt (F_26_o 18 (by decide))
    refine ok_call (s_d_put hF_26 hA_27 (by omega) (by omega)) ?_
    rintro ⟨u_31, F_32, A_33, J_34⟩ ⟨hF_32, hA_33, F_32_o, A_33_o, u_31_p⟩
    dsimp only at hF_32 hA_33 F_32_o A_33_o u_31_p ⊢
    have u_31_p : (F_32 2).toInt = (F_26 2).toInt + 4 := u_31_p
    have r_35 : 0 ≤ (F_32 18).toInt ∧ (F_32 18).toInt ≤ 1 := hF_32 18
    have f_36 : (F_32 18).toInt = (F_26 18).toInt := congrArg Int32.toInt (F_32_o 18 (by decide))
    refine ok_some ?_
    have r_37 : 0 ≤ (F_32 2).toInt ∧ (F_32 2).toInt ≤ 2000 := hF_32 2
    refine ⟨hF_32, hA_33, (fun q hq => (((((F_32_o q hq).trans (F_26_o q hq)).trans (F_20_o q hq)).trans (F_14_o q hq)).trans (F_7_o q hq))), (fun q hq => (((((A_33_o q hq).trans (A_27_o q hq)).trans (A_21_o q hq)).trans (A_15_o q hq)).trans (A_8_o q hq))), ?_⟩
    (try dsimp only) <;> omega
  · rw [i_nle] at c_5
    refine ok_some ?_
    have l_38 : (-1 : Int32).toInt = -1 := by decide
    refine ⟨hF, hA, (fun q hq => rfl), (fun q hq => rfl), ?_⟩
    (try dsimp only) <;> omega
set_option maxRecDepth 10000 in
theorem s_d_back {F : Nat → Int32} {A : Nat → Nat → Int32} {J : Nat → Nat → Int64} {x1 : Int32} (hF : IFm F) (hA : IAm A) : ok (d_back F A J x1) (fun r => IFm r.2.1 ∧ IAm r.2.2.1 ∧ (∀ q, q ∉ ([2] : List Nat) → r.2.1 q = F q) ∧ (∀ q, q ∉ ([] : List Nat) → r.2.2.1 q = A q) ∧ ((0 ≤ x1.toInt ∧ x1.toInt ≤ (F 2).toInt ∧ r.1.toInt = (F 2).toInt - x1.toInt ∧ (r.2.1 2).toInt = (F 2).toInt - x1.toInt) ∨ ((x1.toInt < 0 ∨ (F 2).toInt < x1.toInt) ∧ r.1.toInt = -1 ∧ (r.2.1 2).toInt = (F 2).toInt))) := by
  have r18 : 0 ≤ (F 18).toInt ∧ (F 18).toInt ≤ 1 := hF 18
  unfold d_back
  have l_1 : (0 : Int32).toInt = 0 := by decide
  refine ok_cond (fun c_2 => ?_) (fun c_2 => ?_)
  · rw [i_lt] at c_2
    refine ok_some ?_
    have l_3 : (-1 : Int32).toInt = -1 := by decide
    refine ⟨hF, hA, (fun q hq => rfl), (fun q hq => rfl), ?_⟩
    (try dsimp only) <;> omega
  · rw [i_nlt] at c_2
    have r_4 : 0 ≤ (F 2).toInt ∧ (F 2).toInt ≤ 2000 := hF 2
    refine ok_cond (fun c_5 => ?_) (fun c_5 => ?_)
    · rw [i_le] at c_5
      have e_6 := i_sub (x := (F 2)) (y := x1) (by omega) (by omega)
      refine ok_pf hF (⟨by omega, by omega⟩) ?_
      intro F_7 hF_7 F_7_k F_7_o
      refine ok_some ?_
      have r_8 : 0 ≤ (F_7 2).toInt ∧ (F_7 2).toInt ≤ 2000 := hF_7 2
      have f_9 : (F_7 2).toInt = (((F 2) - x1)).toInt := congrArg Int32.toInt F_7_k
      refine ⟨hF_7, hA, (fun q hq => (F_7_o q (fun e => hq (by rw [e]; decide)))), (fun q hq => rfl), ?_⟩
      (try dsimp only) <;> omega
    · rw [i_nle] at c_5
      refine ok_some ?_
      have l_10 : (-1 : Int32).toInt = -1 := by decide
      refine ⟨hF, hA, (fun q hq => rfl), (fun q hq => rfl), ?_⟩
      (try dsimp only) <;> omega
end Qz55
section Qz56
/-! the reference's tokens -/
def bAt (F : Nat → Int32) (A : Nat → Nat → Int32) (i : Int) : Int := if i < (F 4).toInt then (A 2 i.toNat &&& 255).toInt else 0
theorem bAt_lt (F : Nat → Int32) (A : Nat → Nat → Int32) (i : Int) : bAt F A i = 0 ∨ i < (F 4).toInt := by
  unfold bAt
  by_cases h : i < (F 4).toInt
  · exact .inr h
  · rw [if_neg h]; exact .inl rfl
theorem s_d_byteAt {F : Nat → Int32} {A : Nat → Nat → Int32} {J : Nat → Nat → Int64} {x1 : Int32} (hF : IFm F) (rx1 : 0 ≤ x1.toInt) : ok (d_byteAt F A J x1) (fun v => v.toInt = bAt F A x1.toInt ∧ (v.toInt = 0 ∨ x1.toInt < (F 4).toInt)) := by
  have r4 : 0 ≤ (F 4).toInt ∧ (F 4).toInt ≤ 2000 := hF 4
  unfold d_byteAt
  refine ok_cond (fun c => ?_) (fun c => ?_)
  · rw [i_ge] at c
    refine ok_some ⟨?_, .inl (by decide)⟩
    unfold bAt
    rw [if_neg (by omega)]; decide
  · rw [i_nge] at c
    refine ok_ld0 rx1 (by omega) ?_
    refine ok_some ⟨?_, .inr c⟩
    unfold bAt
    rw [if_pos c]
theorem bAt_fr {F F' : Nat → Int32} {A A' : Nat → Nat → Int32} (h4 : F' 4 = F 4) (h2 : A' 2 = A 2) : bAt F' A' = bAt F A := by
  funext i
  unfold bAt
  rw [h4, h2]
end Qz56
