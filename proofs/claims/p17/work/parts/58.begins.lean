set_option maxRecDepth 10000 in
theorem s_d_begins1 {n : Nat} {k : Int} {F : Nat → Int32} {A : Nat → Nat → Int32} {J : Nat → Nat → Int64} {x1 : Int32} {x2 : Int32} (hF : IFm F) (hA : IAm A) (hn : 600 ≤ n) (hk : k ≤ 6) (hx : x1.toInt < k) (VFA : VMs F A) (MFA : k = ai A 29 (F 18).toInt) (NFA : NVm F A k) (h1 : ai A 50 x1.toInt = 1) (rx1 : 0 ≤ x1.toInt ∧ x1.toInt ≤ 5) : ok (d_begins1 n F A J x1 x2) (fun r => IFm r.2.1 ∧ IAm r.2.2.1 ∧ (∀ q, q ∉ ([63] : List Nat) → r.2.1 q = F q) ∧ (∀ q, q ∉ ([45, 46, 48, 50, 52, 53, 56] : List Nat) → r.2.2.1 q = A q) ∧ NVm r.2.1 r.2.2.1 k) := by
  have r18 : 0 ≤ (F 18).toInt ∧ (F 18).toInt ≤ 1 := hF 18
  have ZFA := h1
  have XFA : ∀ i, 42 ≤ i → ai A 48 i = ai A 48 i := fun _ _ => rfl
  have SFA : ∀ s, SVm F A (ai A 48 (42 + x1.toInt)) s → SVm F A (ai A 48 (42 + x1.toInt)) s := fun _ q => q
  have hp := (NFA x1.toInt (by omega) (by omega)).2.1 h1
  have hs := (NFA x1.toInt (by omega) (by omega)).1 hp
  obtain ⟨g1, g2, g3, g4⟩ := id hs
  have t19 : 0 ≤ ai A 19 (F 18).toInt ∧ ai A 19 (F 18).toInt ≤ 6 := hA 19 _ (by omega)
  have t22 : 0 ≤ ai A 22 (6 * (F 18).toInt + ai A 48 (42 + x1.toInt)) ∧ ai A 22 (6 * (F 18).toInt + ai A 48 (42 + x1.toInt)) ≤ 6 := hA 22 _ (by omega)
  unfold d_begins1
  have l_1 : (42 : Int32).toInt = 42 := by decide
  have e_2 := i_add (x := 42) (y := x1) (by omega) (by omega)
  refine ok_ld (j := 48) hA (by omega) (by omega) ?_
  intro v_3 v_3_e v_3_r
  have w1 : v_3.toInt = ai A 48 (42 + x1.toInt) := by rw [v_3_e]; congr 1 <;> omega
  refine ok_call (s_d_isEnded hF hA (by omega) (by omega)) ?_
  intro v_4 v_4_p
  have v_4_p : v_4.toInt = 0 ∨ v_4.toInt = 1 := v_4_p
  have l_5 : (0 : Int32).toInt = 0 := by decide
  refine ok_cond (fun c_6 => ?_) (fun c_6 => ?_)
  · rw [i_eq] at c_6
    refine ok_call (s_d_tells hF hA (by omega) (VFA) (by omega) (by assumption) (by omega)) ?_
    rintro ⟨v_7, F_8, A_9, J_10⟩ ⟨hF_8, hA_9, F_8_o, A_9_o, v_7_p⟩
    dsimp only at hF_8 hA_9 F_8_o A_9_o v_7_p ⊢
    have v_7_p : 0 ≤ v_7.toInt ∧ v_7.toInt < ai A 22 (6 * (F 18).toInt + ai A 48 (42 + x1.toInt)) := v_7_p
    have r_11 : 0 ≤ (F_8 18).toInt ∧ (F_8 18).toInt ≤ 1 := hF_8 18
    have r_12 : 0 ≤ (F 18).toInt ∧ (F 18).toInt ≤ 1 := hF 18
    have f_13 : (F_8 18).toInt = (F 18).toInt := congrArg Int32.toInt (F_8_o 18 (by decide))
    have VF_8A_9 : VMs F_8 A_9 := VFA.fr (F_8_o 18 (by decide)) (fun q h1 h2 => A_9_o q (by intro e; simp at e <;> omega))
    have NF_8A_9 : NVm F_8 A_9 k := NFA.cg (F_8_o 18 (by decide)) (A_9_o 19 (by decide)) (A_9_o 22 (by decide)) (fun m _ _ => by rw [ai_fr (A_9_o 48 (by decide))]) (A_9_o 50 (by decide)) (A_9_o 53 (by decide)) (A_9_o 54 (by decide))
    have MF_8A_9 : k = ai A_9 29 (F_8 18).toInt := by rw [ai_fr (A_9_o 29 (by decide)), F_8_o 18 (by decide)] <;> exact MFA
    have ZF_8A_9 : ai A_9 50 x1.toInt = 1 := by rw [ai_fr (A_9_o 50 (by decide))]; exact ZFA
    have XF_8A_9 : ∀ i, 42 ≤ i → ai A_9 48 i = ai A 48 i := by rw [ai_fr (A_9_o 48 (by decide))]; exact XFA
    have SF_8A_9 : ∀ s, SVm F A (ai A 48 (42 + x1.toInt)) s → SVm F_8 A_9 (ai A 48 (42 + x1.toInt)) s := fun s q => (SFA s q).fr (F_8_o 18 (by decide)) (A_9_o 19 (by decide)) (A_9_o 22 (by decide))
    refine ok_call (s_d_stepAt hF_8 (by omega) (by omega)) ?_
    intro v_14 v_14_p
    have v_14_p : v_14.toInt = 6 * (6 * (F_8 18).toInt + v_3.toInt) + v_7.toInt := v_14_p
    refine ok_ld (j := 27) hA_9 (by omega) (by omega) ?_
    intro v_15 v_15_e v_15_r
    have v_15_r : -1 ≤ v_15.toInt ∧ v_15.toInt ≤ 5 := v_15_r
    refine ok_cond (fun c_16 => ?_) (fun c_16 => ?_)
    · rw [i_lt] at c_16
      unfold d_begins1_76
      unfold d_begins1_81
      refine ok_ld (j := 48) hA_9 (by omega) (by omega) ?_
      intro v_17 v_17_e v_17_r
      refine ok_cond (fun c_18 => ?_) (fun c_18 => ?_)
      · rw [i_eq] at c_18
        unfold d_begins1_124
        refine ok_call (s_d_lies hF_8 hA_9 (by omega) (NF_8A_9) (by omega)) ?_
        rintro ⟨u_19, F_20, A_21, J_22⟩ ⟨hF_20, hA_21, F_20_o, A_21_o, u_19_p⟩
        dsimp only at hF_20 hA_21 F_20_o A_21_o u_19_p ⊢
        have u_19_p : NVm F_20 A_21 k := u_19_p
        have r_23 : 0 ≤ (F_20 18).toInt ∧ (F_20 18).toInt ≤ 1 := hF_20 18
        have f_24 : (F_20 18).toInt = (F_8 18).toInt := congrArg Int32.toInt (F_20_o 18 (by decide))
        have VF_20A_21 : VMs F_20 A_21 := VF_8A_9.fr (F_20_o 18 (by decide)) (fun q h1 h2 => A_21_o q (by intro e; simp at e <;> omega))
        have NF_20A_21 : NVm F_20 A_21 k := u_19_p
        have MF_20A_21 : k = ai A_21 29 (F_20 18).toInt := by rw [ai_fr (A_21_o 29 (by decide)), F_20_o 18 (by decide)] <;> exact MF_8A_9
        have SF_20A_21 : ∀ s, SVm F A (ai A 48 (42 + x1.toInt)) s → SVm F_20 A_21 (ai A 48 (42 + x1.toInt)) s := fun s q => (SF_8A_9 s q).fr (F_20_o 18 (by decide)) (A_21_o 19 (by decide)) (A_21_o 22 (by decide))
        refine ok_some ?_
        refine ⟨hF_20, hA_21, (fun q hq => ((F_20_o q (fun e => hq ((by decide : ∀ x, x ∈ ([] : List Nat) → x ∈ ([63] : List Nat)) q e))).trans (F_8_o q hq))), (fun q hq => ((A_21_o q (fun e => hq ((by decide : ∀ x, x ∈ ([48, 50] : List Nat) → x ∈ ([45, 46, 48, 50, 52, 53, 56] : List Nat)) q e))).trans (A_9_o q (fun e => hq ((by decide : ∀ x, x ∈ ([45, 46] : List Nat) → x ∈ ([45, 46, 48, 50, 52, 53, 56] : List Nat)) q e))))), ?_⟩
        exact NF_20A_21
      · rw [i_neq] at c_18
        have l_25 : (1 : Int32).toInt = 1 := by decide
        refine ok_cond (fun c_26 => ?_) (fun c_26 => ?_)
        · rw [i_ne] at c_26
          unfold d_begins1_131
          refine ok_cond (fun c_27 => ?_) (fun c_27 => ?_)
          · rw [i_ne] at c_27
            unfold d_begins1_147
            refine ok_ld (j := 48) hA_9 (by omega) (by omega) ?_
            intro v_28 v_28_e v_28_r
            refine ok_st (j := 48) hA_9 (by omega) (by omega) (trivial) ?_
            intro A_29 hA_29 A_29_o A_29_s A_29_n
            have VF_8A_29 : VMs F_8 A_29 := VF_8A_9.fr rfl (fun q h1 h2 => A_29_o q (by omega))
            have NF_8A_29 : NVm F_8 A_29 k := NF_8A_9.st48 A_29_o A_29_n (by omega)
            have MF_8A_29 : k = ai A_29 29 (F_8 18).toInt := by rw [ai_fr (A_29_o 29 (by decide))] <;> exact MF_8A_9
            have ZF_8A_29 : ai A_29 50 x1.toInt = 1 := by rw [ai_fr (A_29_o 50 (by decide))]; exact ZF_8A_9
            have XF_8A_29 : ∀ i, 42 ≤ i → ai A_29 48 i = ai A 48 i := fun i hi => (A_29_n i (by omega) (by omega)).trans (XF_8A_9 i hi)
            have SF_8A_29 : ∀ s, SVm F A (ai A 48 (42 + x1.toInt)) s → SVm F_8 A_29 (ai A 48 (42 + x1.toInt)) s := fun s q => (SF_8A_9 s q).fr rfl (A_29_o 19 (by decide)) (A_29_o 22 (by decide))
            refine ok_st (j := 53) hA_29 (by omega) (by omega) (trivial) ?_
            intro A_30 hA_30 A_30_o A_30_s A_30_n
            have VF_8A_30 : VMs F_8 A_30 := VF_8A_29.fr rfl (fun q h1 h2 => A_30_o q (by omega))
            have NF_8A_30 : NVm F_8 A_30 k := NF_8A_29.st53 A_30_o A_30_n (fun _ => by rw [ZF_8A_29]; decide)
            have MF_8A_30 : k = ai A_30 29 (F_8 18).toInt := by rw [ai_fr (A_30_o 29 (by decide))] <;> exact MF_8A_29
            have ZF_8A_30 : ai A_30 50 x1.toInt = 1 := by rw [ai_fr (A_30_o 50 (by decide))]; exact ZF_8A_29
            have XF_8A_30 : ∀ i, 42 ≤ i → ai A_30 48 i = ai A 48 i := by rw [ai_fr (A_30_o 48 (by decide))]; exact XF_8A_29
            have SF_8A_30 : ∀ s, SVm F A (ai A 48 (42 + x1.toInt)) s → SVm F_8 A_30 (ai A 48 (42 + x1.toInt)) s := fun s q => (SF_8A_29 s q).fr rfl (A_30_o 19 (by decide)) (A_30_o 22 (by decide))
            have s2 : SVm F_8 A_30 (ai A_30 48 (42 + x1.toInt)) (ai A_30 53 x1.toInt) := by rw [A_30_s, XF_8A_30 (42 + x1.toInt) (by omega)]; exact SF_8A_30 _ ⟨g1, g2, v_7_p.1, v_7_p.2⟩
            have l_31 : (2 : Int32).toInt = 2 := by decide
            refine ok_st (j := 50) hA_30 (by omega) (by omega) (trivial) ?_
            intro A_32 hA_32 A_32_o A_32_s A_32_n
            have VF_8A_32 : VMs F_8 A_32 := VF_8A_30.fr rfl (fun q h1 h2 => A_32_o q (by omega))
            have NF_8A_32 : NVm F_8 A_32 k := NF_8A_30.st50 A_32_o A_32_s A_32_n (fun _ e => by omega) (fun _ _ => s2)
            have MF_8A_32 : k = ai A_32 29 (F_8 18).toInt := by rw [ai_fr (A_32_o 29 (by decide))] <;> exact MF_8A_30
            have XF_8A_32 : ∀ i, 42 ≤ i → ai A_32 48 i = ai A 48 i := by rw [ai_fr (A_32_o 48 (by decide))]; exact XF_8A_30
            have SF_8A_32 : ∀ s, SVm F A (ai A 48 (42 + x1.toInt)) s → SVm F_8 A_32 (ai A 48 (42 + x1.toInt)) s := fun s q => (SF_8A_30 s q).fr rfl (A_32_o 19 (by decide)) (A_32_o 22 (by decide))
            refine ok_call (s_d_stepAt hF_8 (by omega) (by omega)) ?_
            intro v_33 v_33_p
            have v_33_p : v_33.toInt = 6 * (6 * (F_8 18).toInt + v_3.toInt) + v_7.toInt := v_33_p
            refine ok_ld (j := 23) hA_32 (by omega) (by omega) ?_
            intro v_34 v_34_e v_34_r
            refine ok_st (j := 52) hA_32 (by omega) (by omega) (trivial) ?_
            intro A_35 hA_35 A_35_o A_35_s A_35_n
            have VF_8A_35 : VMs F_8 A_35 := VF_8A_32.fr rfl (fun q h1 h2 => A_35_o q (by omega))
            have NF_8A_35 : NVm F_8 A_35 k := NF_8A_32.sto A_35_o (by decide)
            have MF_8A_35 : k = ai A_35 29 (F_8 18).toInt := by rw [ai_fr (A_35_o 29 (by decide))] <;> exact MF_8A_32
            have XF_8A_35 : ∀ i, 42 ≤ i → ai A_35 48 i = ai A 48 i := by rw [ai_fr (A_35_o 48 (by decide))]; exact XF_8A_32
            have SF_8A_35 : ∀ s, SVm F A (ai A 48 (42 + x1.toInt)) s → SVm F_8 A_35 (ai A 48 (42 + x1.toInt)) s := fun s q => (SF_8A_32 s q).fr rfl (A_35_o 19 (by decide)) (A_35_o 22 (by decide))
            refine ok_some ?_
            refine ⟨hF_8, hA_35, (fun q hq => (F_8_o q hq)), (fun q hq => (((((A_35_o q (fun e => hq (by rw [e]; decide))).trans (A_32_o q (fun e => hq (by rw [e]; decide)))).trans (A_30_o q (fun e => hq (by rw [e]; decide)))).trans (A_29_o q (fun e => hq (by rw [e]; decide)))).trans (A_9_o q (fun e => hq ((by decide : ∀ x, x ∈ ([45, 46] : List Nat) → x ∈ ([45, 46, 48, 50, 52, 53, 56] : List Nat)) q e))))), ?_⟩
            exact NF_8A_35
          · rw [i_nne] at c_27
            refine ok_call (s_d_isInUse hF_8 hA_9 (by omega) (by omega) (by assumption) (NF_8A_9)) ?_
            intro v_36 v_36_p
            have v_36_p : v_36.toInt = 0 ∨ v_36.toInt = 1 := v_36_p
            refine ok_cond (fun c_37 => ?_) (fun c_37 => ?_)
            · rw [i_eq] at c_37
              unfold d_begins1_147
              refine ok_ld (j := 48) hA_9 (by omega) (by omega) ?_
              intro v_38 v_38_e v_38_r
              refine ok_st (j := 48) hA_9 (by omega) (by omega) (trivial) ?_
              intro A_39 hA_39 A_39_o A_39_s A_39_n
              have VF_8A_39 : VMs F_8 A_39 := VF_8A_9.fr rfl (fun q h1 h2 => A_39_o q (by omega))
              have NF_8A_39 : NVm F_8 A_39 k := NF_8A_9.st48 A_39_o A_39_n (by omega)
              have MF_8A_39 : k = ai A_39 29 (F_8 18).toInt := by rw [ai_fr (A_39_o 29 (by decide))] <;> exact MF_8A_9
              have ZF_8A_39 : ai A_39 50 x1.toInt = 1 := by rw [ai_fr (A_39_o 50 (by decide))]; exact ZF_8A_9
              have XF_8A_39 : ∀ i, 42 ≤ i → ai A_39 48 i = ai A 48 i := fun i hi => (A_39_n i (by omega) (by omega)).trans (XF_8A_9 i hi)
              have SF_8A_39 : ∀ s, SVm F A (ai A 48 (42 + x1.toInt)) s → SVm F_8 A_39 (ai A 48 (42 + x1.toInt)) s := fun s q => (SF_8A_9 s q).fr rfl (A_39_o 19 (by decide)) (A_39_o 22 (by decide))
              refine ok_st (j := 53) hA_39 (by omega) (by omega) (trivial) ?_
              intro A_40 hA_40 A_40_o A_40_s A_40_n
              have VF_8A_40 : VMs F_8 A_40 := VF_8A_39.fr rfl (fun q h1 h2 => A_40_o q (by omega))
              have NF_8A_40 : NVm F_8 A_40 k := NF_8A_39.st53 A_40_o A_40_n (fun _ => by rw [ZF_8A_39]; decide)
              have MF_8A_40 : k = ai A_40 29 (F_8 18).toInt := by rw [ai_fr (A_40_o 29 (by decide))] <;> exact MF_8A_39
              have ZF_8A_40 : ai A_40 50 x1.toInt = 1 := by rw [ai_fr (A_40_o 50 (by decide))]; exact ZF_8A_39
              have XF_8A_40 : ∀ i, 42 ≤ i → ai A_40 48 i = ai A 48 i := by rw [ai_fr (A_40_o 48 (by decide))]; exact XF_8A_39
              have SF_8A_40 : ∀ s, SVm F A (ai A 48 (42 + x1.toInt)) s → SVm F_8 A_40 (ai A 48 (42 + x1.toInt)) s := fun s q => (SF_8A_39 s q).fr rfl (A_40_o 19 (by decide)) (A_40_o 22 (by decide))
              have s2 : SVm F_8 A_40 (ai A_40 48 (42 + x1.toInt)) (ai A_40 53 x1.toInt) := by rw [A_40_s, XF_8A_40 (42 + x1.toInt) (by omega)]; exact SF_8A_40 _ ⟨g1, g2, v_7_p.1, v_7_p.2⟩
              have l_41 : (2 : Int32).toInt = 2 := by decide
              refine ok_st (j := 50) hA_40 (by omega) (by omega) (trivial) ?_
              intro A_42 hA_42 A_42_o A_42_s A_42_n
              have VF_8A_42 : VMs F_8 A_42 := VF_8A_40.fr rfl (fun q h1 h2 => A_42_o q (by omega))
              have NF_8A_42 : NVm F_8 A_42 k := NF_8A_40.st50 A_42_o A_42_s A_42_n (fun _ e => by omega) (fun _ _ => s2)
              have MF_8A_42 : k = ai A_42 29 (F_8 18).toInt := by rw [ai_fr (A_42_o 29 (by decide))] <;> exact MF_8A_40
              have XF_8A_42 : ∀ i, 42 ≤ i → ai A_42 48 i = ai A 48 i := by rw [ai_fr (A_42_o 48 (by decide))]; exact XF_8A_40
              have SF_8A_42 : ∀ s, SVm F A (ai A 48 (42 + x1.toInt)) s → SVm F_8 A_42 (ai A 48 (42 + x1.toInt)) s := fun s q => (SF_8A_40 s q).fr rfl (A_42_o 19 (by decide)) (A_42_o 22 (by decide))
              refine ok_call (s_d_stepAt hF_8 (by omega) (by omega)) ?_
              intro v_43 v_43_p
              have v_43_p : v_43.toInt = 6 * (6 * (F_8 18).toInt + v_3.toInt) + v_7.toInt := v_43_p
              refine ok_ld (j := 23) hA_42 (by omega) (by omega) ?_
              intro v_44 v_44_e v_44_r
              refine ok_st (j := 52) hA_42 (by omega) (by omega) (trivial) ?_
              intro A_45 hA_45 A_45_o A_45_s A_45_n
              have VF_8A_45 : VMs F_8 A_45 := VF_8A_42.fr rfl (fun q h1 h2 => A_45_o q (by omega))
              have NF_8A_45 : NVm F_8 A_45 k := NF_8A_42.sto A_45_o (by decide)
              have MF_8A_45 : k = ai A_45 29 (F_8 18).toInt := by rw [ai_fr (A_45_o 29 (by decide))] <;> exact MF_8A_42
              have XF_8A_45 : ∀ i, 42 ≤ i → ai A_45 48 i = ai A 48 i := by rw [ai_fr (A_45_o 48 (by decide))]; exact XF_8A_42
              have SF_8A_45 : ∀ s, SVm F A (ai A 48 (42 + x1.toInt)) s → SVm F_8 A_45 (ai A 48 (42 + x1.toInt)) s := fun s q => (SF_8A_42 s q).fr rfl (A_45_o 19 (by decide)) (A_45_o 22 (by decide))
              refine ok_some ?_
              refine ⟨hF_8, hA_45, (fun q hq => (F_8_o q hq)), (fun q hq => (((((A_45_o q (fun e => hq (by rw [e]; decide))).trans (A_42_o q (fun e => hq (by rw [e]; decide)))).trans (A_40_o q (fun e => hq (by rw [e]; decide)))).trans (A_39_o q (fun e => hq (by rw [e]; decide)))).trans (A_9_o q (fun e => hq ((by decide : ∀ x, x ∈ ([45, 46] : List Nat) → x ∈ ([45, 46, 48, 50, 52, 53, 56] : List Nat)) q e))))), ?_⟩
              exact NF_8A_45
            · rw [i_neq] at c_37
              refine ok_some ?_
              refine ⟨hF_8, hA_9, (fun q hq => (F_8_o q hq)), (fun q hq => (A_9_o q (fun e => hq ((by decide : ∀ x, x ∈ ([45, 46] : List Nat) → x ∈ ([45, 46, 48, 50, 52, 53, 56] : List Nat)) q e)))), ?_⟩
              exact NF_8A_9
        · rw [i_nne] at c_26
          have l_46 : (72 : Int32).toInt = 72 := by decide
          have e_47 := i_add (x := 72) (y := v_15) (by omega) (by omega)
          refine ok_ld (j := 48) hA_9 (by omega) (by omega) ?_
          intro v_48 v_48_e v_48_r
          have l_49 : (6 : Int32).toInt = 6 := by decide
          have e_50 := i_mulL (c := 6) (k := 6) (x := (F_8 18)) (by decide) (by omega) (by omega)
          have e_51 := i_add (x := (6 * (F_8 18))) (y := v_3) (by omega) (by omega)
          refine ok_ld (j := 20) hA_9 (by omega) (by omega) ?_
          intro v_52 v_52_e v_52_r
          have v_52_r : -1 ≤ v_52.toInt ∧ v_52.toInt ≤ 7 := v_52_r
          refine ok_cond (fun c_53 => ?_) (fun c_53 => ?_)
          · rw [i_eq] at c_53
            unfold d_begins1_131
            refine ok_cond (fun c_54 => ?_) (fun c_54 => ?_)
            · rw [i_ne] at c_54
              unfold d_begins1_147
              refine ok_ld (j := 48) hA_9 (by omega) (by omega) ?_
              intro v_55 v_55_e v_55_r
              refine ok_st (j := 48) hA_9 (by omega) (by omega) (trivial) ?_
              intro A_56 hA_56 A_56_o A_56_s A_56_n
              have VF_8A_56 : VMs F_8 A_56 := VF_8A_9.fr rfl (fun q h1 h2 => A_56_o q (by omega))
              have NF_8A_56 : NVm F_8 A_56 k := NF_8A_9.st48 A_56_o A_56_n (by omega)
              have MF_8A_56 : k = ai A_56 29 (F_8 18).toInt := by rw [ai_fr (A_56_o 29 (by decide))] <;> exact MF_8A_9
              have ZF_8A_56 : ai A_56 50 x1.toInt = 1 := by rw [ai_fr (A_56_o 50 (by decide))]; exact ZF_8A_9
              have XF_8A_56 : ∀ i, 42 ≤ i → ai A_56 48 i = ai A 48 i := fun i hi => (A_56_n i (by omega) (by omega)).trans (XF_8A_9 i hi)
              have SF_8A_56 : ∀ s, SVm F A (ai A 48 (42 + x1.toInt)) s → SVm F_8 A_56 (ai A 48 (42 + x1.toInt)) s := fun s q => (SF_8A_9 s q).fr rfl (A_56_o 19 (by decide)) (A_56_o 22 (by decide))
              refine ok_st (j := 53) hA_56 (by omega) (by omega) (trivial) ?_
              intro A_57 hA_57 A_57_o A_57_s A_57_n
              have VF_8A_57 : VMs F_8 A_57 := VF_8A_56.fr rfl (fun q h1 h2 => A_57_o q (by omega))
              have NF_8A_57 : NVm F_8 A_57 k := NF_8A_56.st53 A_57_o A_57_n (fun _ => by rw [ZF_8A_56]; decide)
              have MF_8A_57 : k = ai A_57 29 (F_8 18).toInt := by rw [ai_fr (A_57_o 29 (by decide))] <;> exact MF_8A_56
              have ZF_8A_57 : ai A_57 50 x1.toInt = 1 := by rw [ai_fr (A_57_o 50 (by decide))]; exact ZF_8A_56
              have XF_8A_57 : ∀ i, 42 ≤ i → ai A_57 48 i = ai A 48 i := by rw [ai_fr (A_57_o 48 (by decide))]; exact XF_8A_56
              have SF_8A_57 : ∀ s, SVm F A (ai A 48 (42 + x1.toInt)) s → SVm F_8 A_57 (ai A 48 (42 + x1.toInt)) s := fun s q => (SF_8A_56 s q).fr rfl (A_57_o 19 (by decide)) (A_57_o 22 (by decide))
              have s2 : SVm F_8 A_57 (ai A_57 48 (42 + x1.toInt)) (ai A_57 53 x1.toInt) := by rw [A_57_s, XF_8A_57 (42 + x1.toInt) (by omega)]; exact SF_8A_57 _ ⟨g1, g2, v_7_p.1, v_7_p.2⟩
              have l_58 : (2 : Int32).toInt = 2 := by decide
              refine ok_st (j := 50) hA_57 (by omega) (by omega) (trivial) ?_
              intro A_59 hA_59 A_59_o A_59_s A_59_n
              have VF_8A_59 : VMs F_8 A_59 := VF_8A_57.fr rfl (fun q h1 h2 => A_59_o q (by omega))
              have NF_8A_59 : NVm F_8 A_59 k := NF_8A_57.st50 A_59_o A_59_s A_59_n (fun _ e => by omega) (fun _ _ => s2)
              have MF_8A_59 : k = ai A_59 29 (F_8 18).toInt := by rw [ai_fr (A_59_o 29 (by decide))] <;> exact MF_8A_57
              have XF_8A_59 : ∀ i, 42 ≤ i → ai A_59 48 i = ai A 48 i := by rw [ai_fr (A_59_o 48 (by decide))]; exact XF_8A_57
              have SF_8A_59 : ∀ s, SVm F A (ai A 48 (42 + x1.toInt)) s → SVm F_8 A_59 (ai A 48 (42 + x1.toInt)) s := fun s q => (SF_8A_57 s q).fr rfl (A_59_o 19 (by decide)) (A_59_o 22 (by decide))
              refine ok_call (s_d_stepAt hF_8 (by omega) (by omega)) ?_
              intro v_60 v_60_p
              have v_60_p : v_60.toInt = 6 * (6 * (F_8 18).toInt + v_3.toInt) + v_7.toInt := v_60_p
              refine ok_ld (j := 23) hA_59 (by omega) (by omega) ?_
              intro v_61 v_61_e v_61_r
              refine ok_st (j := 52) hA_59 (by omega) (by omega) (trivial) ?_
              intro A_62 hA_62 A_62_o A_62_s A_62_n
              have VF_8A_62 : VMs F_8 A_62 := VF_8A_59.fr rfl (fun q h1 h2 => A_62_o q (by omega))
              have NF_8A_62 : NVm F_8 A_62 k := NF_8A_59.sto A_62_o (by decide)
              have MF_8A_62 : k = ai A_62 29 (F_8 18).toInt := by rw [ai_fr (A_62_o 29 (by decide))] <;> exact MF_8A_59
              have XF_8A_62 : ∀ i, 42 ≤ i → ai A_62 48 i = ai A 48 i := by rw [ai_fr (A_62_o 48 (by decide))]; exact XF_8A_59
              have SF_8A_62 : ∀ s, SVm F A (ai A 48 (42 + x1.toInt)) s → SVm F_8 A_62 (ai A 48 (42 + x1.toInt)) s := fun s q => (SF_8A_59 s q).fr rfl (A_62_o 19 (by decide)) (A_62_o 22 (by decide))
              refine ok_some ?_
              refine ⟨hF_8, hA_62, (fun q hq => (F_8_o q hq)), (fun q hq => (((((A_62_o q (fun e => hq (by rw [e]; decide))).trans (A_59_o q (fun e => hq (by rw [e]; decide)))).trans (A_57_o q (fun e => hq (by rw [e]; decide)))).trans (A_56_o q (fun e => hq (by rw [e]; decide)))).trans (A_9_o q (fun e => hq ((by decide : ∀ x, x ∈ ([45, 46] : List Nat) → x ∈ ([45, 46, 48, 50, 52, 53, 56] : List Nat)) q e))))), ?_⟩
              exact NF_8A_62
            · rw [i_nne] at c_54
              refine ok_call (s_d_isInUse hF_8 hA_9 (by omega) (by omega) (by assumption) (NF_8A_9)) ?_
              intro v_63 v_63_p
              have v_63_p : v_63.toInt = 0 ∨ v_63.toInt = 1 := v_63_p
              refine ok_cond (fun c_64 => ?_) (fun c_64 => ?_)
              · rw [i_eq] at c_64
                unfold d_begins1_147
                refine ok_ld (j := 48) hA_9 (by omega) (by omega) ?_
                intro v_65 v_65_e v_65_r
                refine ok_st (j := 48) hA_9 (by omega) (by omega) (trivial) ?_
                intro A_66 hA_66 A_66_o A_66_s A_66_n
                have VF_8A_66 : VMs F_8 A_66 := VF_8A_9.fr rfl (fun q h1 h2 => A_66_o q (by omega))
                have NF_8A_66 : NVm F_8 A_66 k := NF_8A_9.st48 A_66_o A_66_n (by omega)
                have MF_8A_66 : k = ai A_66 29 (F_8 18).toInt := by rw [ai_fr (A_66_o 29 (by decide))] <;> exact MF_8A_9
                have ZF_8A_66 : ai A_66 50 x1.toInt = 1 := by rw [ai_fr (A_66_o 50 (by decide))]; exact ZF_8A_9
                have XF_8A_66 : ∀ i, 42 ≤ i → ai A_66 48 i = ai A 48 i := fun i hi => (A_66_n i (by omega) (by omega)).trans (XF_8A_9 i hi)
                have SF_8A_66 : ∀ s, SVm F A (ai A 48 (42 + x1.toInt)) s → SVm F_8 A_66 (ai A 48 (42 + x1.toInt)) s := fun s q => (SF_8A_9 s q).fr rfl (A_66_o 19 (by decide)) (A_66_o 22 (by decide))
                refine ok_st (j := 53) hA_66 (by omega) (by omega) (trivial) ?_
                intro A_67 hA_67 A_67_o A_67_s A_67_n
                have VF_8A_67 : VMs F_8 A_67 := VF_8A_66.fr rfl (fun q h1 h2 => A_67_o q (by omega))
                have NF_8A_67 : NVm F_8 A_67 k := NF_8A_66.st53 A_67_o A_67_n (fun _ => by rw [ZF_8A_66]; decide)
                have MF_8A_67 : k = ai A_67 29 (F_8 18).toInt := by rw [ai_fr (A_67_o 29 (by decide))] <;> exact MF_8A_66
                have ZF_8A_67 : ai A_67 50 x1.toInt = 1 := by rw [ai_fr (A_67_o 50 (by decide))]; exact ZF_8A_66
                have XF_8A_67 : ∀ i, 42 ≤ i → ai A_67 48 i = ai A 48 i := by rw [ai_fr (A_67_o 48 (by decide))]; exact XF_8A_66
                have SF_8A_67 : ∀ s, SVm F A (ai A 48 (42 + x1.toInt)) s → SVm F_8 A_67 (ai A 48 (42 + x1.toInt)) s := fun s q => (SF_8A_66 s q).fr rfl (A_67_o 19 (by decide)) (A_67_o 22 (by decide))
                have s2 : SVm F_8 A_67 (ai A_67 48 (42 + x1.toInt)) (ai A_67 53 x1.toInt) := by rw [A_67_s, XF_8A_67 (42 + x1.toInt) (by omega)]; exact SF_8A_67 _ ⟨g1, g2, v_7_p.1, v_7_p.2⟩
                have l_68 : (2 : Int32).toInt = 2 := by decide
                refine ok_st (j := 50) hA_67 (by omega) (by omega) (trivial) ?_
                intro A_69 hA_69 A_69_o A_69_s A_69_n
                have VF_8A_69 : VMs F_8 A_69 := VF_8A_67.fr rfl (fun q h1 h2 => A_69_o q (by omega))
                have NF_8A_69 : NVm F_8 A_69 k := NF_8A_67.st50 A_69_o A_69_s A_69_n (fun _ e => by omega) (fun _ _ => s2)
                have MF_8A_69 : k = ai A_69 29 (F_8 18).toInt := by rw [ai_fr (A_69_o 29 (by decide))] <;> exact MF_8A_67
                have XF_8A_69 : ∀ i, 42 ≤ i → ai A_69 48 i = ai A 48 i := by rw [ai_fr (A_69_o 48 (by decide))]; exact XF_8A_67
                have SF_8A_69 : ∀ s, SVm F A (ai A 48 (42 + x1.toInt)) s → SVm F_8 A_69 (ai A 48 (42 + x1.toInt)) s := fun s q => (SF_8A_67 s q).fr rfl (A_69_o 19 (by decide)) (A_69_o 22 (by decide))
                refine ok_call (s_d_stepAt hF_8 (by omega) (by omega)) ?_
                intro v_70 v_70_p
                have v_70_p : v_70.toInt = 6 * (6 * (F_8 18).toInt + v_3.toInt) + v_7.toInt := v_70_p
                refine ok_ld (j := 23) hA_69 (by omega) (by omega) ?_
                intro v_71 v_71_e v_71_r
                refine ok_st (j := 52) hA_69 (by omega) (by omega) (trivial) ?_
                intro A_72 hA_72 A_72_o A_72_s A_72_n
                have VF_8A_72 : VMs F_8 A_72 := VF_8A_69.fr rfl (fun q h1 h2 => A_72_o q (by omega))
                have NF_8A_72 : NVm F_8 A_72 k := NF_8A_69.sto A_72_o (by decide)
                have MF_8A_72 : k = ai A_72 29 (F_8 18).toInt := by rw [ai_fr (A_72_o 29 (by decide))] <;> exact MF_8A_69
                have XF_8A_72 : ∀ i, 42 ≤ i → ai A_72 48 i = ai A 48 i := by rw [ai_fr (A_72_o 48 (by decide))]; exact XF_8A_69
                have SF_8A_72 : ∀ s, SVm F A (ai A 48 (42 + x1.toInt)) s → SVm F_8 A_72 (ai A 48 (42 + x1.toInt)) s := fun s q => (SF_8A_69 s q).fr rfl (A_72_o 19 (by decide)) (A_72_o 22 (by decide))
                refine ok_some ?_
                refine ⟨hF_8, hA_72, (fun q hq => (F_8_o q hq)), (fun q hq => (((((A_72_o q (fun e => hq (by rw [e]; decide))).trans (A_69_o q (fun e => hq (by rw [e]; decide)))).trans (A_67_o q (fun e => hq (by rw [e]; decide)))).trans (A_66_o q (fun e => hq (by rw [e]; decide)))).trans (A_9_o q (fun e => hq ((by decide : ∀ x, x ∈ ([45, 46] : List Nat) → x ∈ ([45, 46, 48, 50, 52, 53, 56] : List Nat)) q e))))), ?_⟩
                exact NF_8A_72
              · rw [i_neq] at c_64
                refine ok_some ?_
                refine ⟨hF_8, hA_9, (fun q hq => (F_8_o q hq)), (fun q hq => (A_9_o q (fun e => hq ((by decide : ∀ x, x ∈ ([45, 46] : List Nat) → x ∈ ([45, 46, 48, 50, 52, 53, 56] : List Nat)) q e)))), ?_⟩
                exact NF_8A_9
          · rw [i_neq] at c_53
            unfold d_begins1_124
            refine ok_call (s_d_lies hF_8 hA_9 (by omega) (NF_8A_9) (by omega)) ?_
            rintro ⟨u_73, F_74, A_75, J_76⟩ ⟨hF_74, hA_75, F_74_o, A_75_o, u_73_p⟩
            dsimp only at hF_74 hA_75 F_74_o A_75_o u_73_p ⊢
            have u_73_p : NVm F_74 A_75 k := u_73_p
            have r_77 : 0 ≤ (F_74 18).toInt ∧ (F_74 18).toInt ≤ 1 := hF_74 18
            have f_78 : (F_74 18).toInt = (F_8 18).toInt := congrArg Int32.toInt (F_74_o 18 (by decide))
            have VF_74A_75 : VMs F_74 A_75 := VF_8A_9.fr (F_74_o 18 (by decide)) (fun q h1 h2 => A_75_o q (by intro e; simp at e <;> omega))
            have NF_74A_75 : NVm F_74 A_75 k := u_73_p
            have MF_74A_75 : k = ai A_75 29 (F_74 18).toInt := by rw [ai_fr (A_75_o 29 (by decide)), F_74_o 18 (by decide)] <;> exact MF_8A_9
            have SF_74A_75 : ∀ s, SVm F A (ai A 48 (42 + x1.toInt)) s → SVm F_74 A_75 (ai A 48 (42 + x1.toInt)) s := fun s q => (SF_8A_9 s q).fr (F_74_o 18 (by decide)) (A_75_o 19 (by decide)) (A_75_o 22 (by decide))
            refine ok_some ?_
            refine ⟨hF_74, hA_75, (fun q hq => ((F_74_o q (fun e => hq ((by decide : ∀ x, x ∈ ([] : List Nat) → x ∈ ([63] : List Nat)) q e))).trans (F_8_o q hq))), (fun q hq => ((A_75_o q (fun e => hq ((by decide : ∀ x, x ∈ ([48, 50] : List Nat) → x ∈ ([45, 46, 48, 50, 52, 53, 56] : List Nat)) q e))).trans (A_9_o q (fun e => hq ((by decide : ∀ x, x ∈ ([45, 46] : List Nat) → x ∈ ([45, 46, 48, 50, 52, 53, 56] : List Nat)) q e))))), ?_⟩
            exact NF_74A_75
    · rw [i_nlt] at c_16
      have l_79 : (72 : Int32).toInt = 72 := by decide
      have e_80 := i_add (x := 72) (y := v_15) (by omega) (by omega)
      refine ok_ld (j := 48) hA_9 (by omega) (by omega) ?_
      intro v_81 v_81_e v_81_r
      refine ok_cond (fun c_82 => ?_) (fun c_82 => ?_)
      · rw [i_ne] at c_82
        unfold d_begins1_81
        refine ok_ld (j := 48) hA_9 (by omega) (by omega) ?_
        intro v_83 v_83_e v_83_r
        refine ok_cond (fun c_84 => ?_) (fun c_84 => ?_)
        · rw [i_eq] at c_84
          unfold d_begins1_124
          refine ok_call (s_d_lies hF_8 hA_9 (by omega) (NF_8A_9) (by omega)) ?_
          rintro ⟨u_85, F_86, A_87, J_88⟩ ⟨hF_86, hA_87, F_86_o, A_87_o, u_85_p⟩
          dsimp only at hF_86 hA_87 F_86_o A_87_o u_85_p ⊢
          have u_85_p : NVm F_86 A_87 k := u_85_p
          have r_89 : 0 ≤ (F_86 18).toInt ∧ (F_86 18).toInt ≤ 1 := hF_86 18
          have f_90 : (F_86 18).toInt = (F_8 18).toInt := congrArg Int32.toInt (F_86_o 18 (by decide))
          have VF_86A_87 : VMs F_86 A_87 := VF_8A_9.fr (F_86_o 18 (by decide)) (fun q h1 h2 => A_87_o q (by intro e; simp at e <;> omega))
          have NF_86A_87 : NVm F_86 A_87 k := u_85_p
          have MF_86A_87 : k = ai A_87 29 (F_86 18).toInt := by rw [ai_fr (A_87_o 29 (by decide)), F_86_o 18 (by decide)] <;> exact MF_8A_9
          have SF_86A_87 : ∀ s, SVm F A (ai A 48 (42 + x1.toInt)) s → SVm F_86 A_87 (ai A 48 (42 + x1.toInt)) s := fun s q => (SF_8A_9 s q).fr (F_86_o 18 (by decide)) (A_87_o 19 (by decide)) (A_87_o 22 (by decide))
          refine ok_some ?_
          refine ⟨hF_86, hA_87, (fun q hq => ((F_86_o q (fun e => hq ((by decide : ∀ x, x ∈ ([] : List Nat) → x ∈ ([63] : List Nat)) q e))).trans (F_8_o q hq))), (fun q hq => ((A_87_o q (fun e => hq ((by decide : ∀ x, x ∈ ([48, 50] : List Nat) → x ∈ ([45, 46, 48, 50, 52, 53, 56] : List Nat)) q e))).trans (A_9_o q (fun e => hq ((by decide : ∀ x, x ∈ ([45, 46] : List Nat) → x ∈ ([45, 46, 48, 50, 52, 53, 56] : List Nat)) q e))))), ?_⟩
          exact NF_86A_87
        · rw [i_neq] at c_84
          refine ok_cond (fun c_91 => ?_) (fun c_91 => ?_)
          · rw [i_ne] at c_91
            unfold d_begins1_131
            refine ok_cond (fun c_92 => ?_) (fun c_92 => ?_)
            · rw [i_ne] at c_92
              unfold d_begins1_147
              refine ok_ld (j := 48) hA_9 (by omega) (by omega) ?_
              intro v_93 v_93_e v_93_r
              refine ok_st (j := 48) hA_9 (by omega) (by omega) (trivial) ?_
              intro A_94 hA_94 A_94_o A_94_s A_94_n
              have VF_8A_94 : VMs F_8 A_94 := VF_8A_9.fr rfl (fun q h1 h2 => A_94_o q (by omega))
              have NF_8A_94 : NVm F_8 A_94 k := NF_8A_9.st48 A_94_o A_94_n (by omega)
              have MF_8A_94 : k = ai A_94 29 (F_8 18).toInt := by rw [ai_fr (A_94_o 29 (by decide))] <;> exact MF_8A_9
              have ZF_8A_94 : ai A_94 50 x1.toInt = 1 := by rw [ai_fr (A_94_o 50 (by decide))]; exact ZF_8A_9
              have XF_8A_94 : ∀ i, 42 ≤ i → ai A_94 48 i = ai A 48 i := fun i hi => (A_94_n i (by omega) (by omega)).trans (XF_8A_9 i hi)
              have SF_8A_94 : ∀ s, SVm F A (ai A 48 (42 + x1.toInt)) s → SVm F_8 A_94 (ai A 48 (42 + x1.toInt)) s := fun s q => (SF_8A_9 s q).fr rfl (A_94_o 19 (by decide)) (A_94_o 22 (by decide))
              refine ok_st (j := 53) hA_94 (by omega) (by omega) (trivial) ?_
              intro A_95 hA_95 A_95_o A_95_s A_95_n
              have VF_8A_95 : VMs F_8 A_95 := VF_8A_94.fr rfl (fun q h1 h2 => A_95_o q (by omega))
              have NF_8A_95 : NVm F_8 A_95 k := NF_8A_94.st53 A_95_o A_95_n (fun _ => by rw [ZF_8A_94]; decide)
              have MF_8A_95 : k = ai A_95 29 (F_8 18).toInt := by rw [ai_fr (A_95_o 29 (by decide))] <;> exact MF_8A_94
              have ZF_8A_95 : ai A_95 50 x1.toInt = 1 := by rw [ai_fr (A_95_o 50 (by decide))]; exact ZF_8A_94
              have XF_8A_95 : ∀ i, 42 ≤ i → ai A_95 48 i = ai A 48 i := by rw [ai_fr (A_95_o 48 (by decide))]; exact XF_8A_94
              have SF_8A_95 : ∀ s, SVm F A (ai A 48 (42 + x1.toInt)) s → SVm F_8 A_95 (ai A 48 (42 + x1.toInt)) s := fun s q => (SF_8A_94 s q).fr rfl (A_95_o 19 (by decide)) (A_95_o 22 (by decide))
              have s2 : SVm F_8 A_95 (ai A_95 48 (42 + x1.toInt)) (ai A_95 53 x1.toInt) := by rw [A_95_s, XF_8A_95 (42 + x1.toInt) (by omega)]; exact SF_8A_95 _ ⟨g1, g2, v_7_p.1, v_7_p.2⟩
              have l_96 : (2 : Int32).toInt = 2 := by decide
              refine ok_st (j := 50) hA_95 (by omega) (by omega) (trivial) ?_
              intro A_97 hA_97 A_97_o A_97_s A_97_n
              have VF_8A_97 : VMs F_8 A_97 := VF_8A_95.fr rfl (fun q h1 h2 => A_97_o q (by omega))
              have NF_8A_97 : NVm F_8 A_97 k := NF_8A_95.st50 A_97_o A_97_s A_97_n (fun _ e => by omega) (fun _ _ => s2)
              have MF_8A_97 : k = ai A_97 29 (F_8 18).toInt := by rw [ai_fr (A_97_o 29 (by decide))] <;> exact MF_8A_95
              have XF_8A_97 : ∀ i, 42 ≤ i → ai A_97 48 i = ai A 48 i := by rw [ai_fr (A_97_o 48 (by decide))]; exact XF_8A_95
              have SF_8A_97 : ∀ s, SVm F A (ai A 48 (42 + x1.toInt)) s → SVm F_8 A_97 (ai A 48 (42 + x1.toInt)) s := fun s q => (SF_8A_95 s q).fr rfl (A_97_o 19 (by decide)) (A_97_o 22 (by decide))
              refine ok_call (s_d_stepAt hF_8 (by omega) (by omega)) ?_
              intro v_98 v_98_p
              have v_98_p : v_98.toInt = 6 * (6 * (F_8 18).toInt + v_3.toInt) + v_7.toInt := v_98_p
              refine ok_ld (j := 23) hA_97 (by omega) (by omega) ?_
              intro v_99 v_99_e v_99_r
              refine ok_st (j := 52) hA_97 (by omega) (by omega) (trivial) ?_
              intro A_100 hA_100 A_100_o A_100_s A_100_n
              have VF_8A_100 : VMs F_8 A_100 := VF_8A_97.fr rfl (fun q h1 h2 => A_100_o q (by omega))
              have NF_8A_100 : NVm F_8 A_100 k := NF_8A_97.sto A_100_o (by decide)
              have MF_8A_100 : k = ai A_100 29 (F_8 18).toInt := by rw [ai_fr (A_100_o 29 (by decide))] <;> exact MF_8A_97
              have XF_8A_100 : ∀ i, 42 ≤ i → ai A_100 48 i = ai A 48 i := by rw [ai_fr (A_100_o 48 (by decide))]; exact XF_8A_97
              have SF_8A_100 : ∀ s, SVm F A (ai A 48 (42 + x1.toInt)) s → SVm F_8 A_100 (ai A 48 (42 + x1.toInt)) s := fun s q => (SF_8A_97 s q).fr rfl (A_100_o 19 (by decide)) (A_100_o 22 (by decide))
              refine ok_some ?_
              refine ⟨hF_8, hA_100, (fun q hq => (F_8_o q hq)), (fun q hq => (((((A_100_o q (fun e => hq (by rw [e]; decide))).trans (A_97_o q (fun e => hq (by rw [e]; decide)))).trans (A_95_o q (fun e => hq (by rw [e]; decide)))).trans (A_94_o q (fun e => hq (by rw [e]; decide)))).trans (A_9_o q (fun e => hq ((by decide : ∀ x, x ∈ ([45, 46] : List Nat) → x ∈ ([45, 46, 48, 50, 52, 53, 56] : List Nat)) q e))))), ?_⟩
              exact NF_8A_100
            · rw [i_nne] at c_92
              refine ok_call (s_d_isInUse hF_8 hA_9 (by omega) (by omega) (by assumption) (NF_8A_9)) ?_
              intro v_101 v_101_p
              have v_101_p : v_101.toInt = 0 ∨ v_101.toInt = 1 := v_101_p
              refine ok_cond (fun c_102 => ?_) (fun c_102 => ?_)
              · rw [i_eq] at c_102
                unfold d_begins1_147
                refine ok_ld (j := 48) hA_9 (by omega) (by omega) ?_
                intro v_103 v_103_e v_103_r
                refine ok_st (j := 48) hA_9 (by omega) (by omega) (trivial) ?_
                intro A_104 hA_104 A_104_o A_104_s A_104_n
                have VF_8A_104 : VMs F_8 A_104 := VF_8A_9.fr rfl (fun q h1 h2 => A_104_o q (by omega))
                have NF_8A_104 : NVm F_8 A_104 k := NF_8A_9.st48 A_104_o A_104_n (by omega)
                have MF_8A_104 : k = ai A_104 29 (F_8 18).toInt := by rw [ai_fr (A_104_o 29 (by decide))] <;> exact MF_8A_9
                have ZF_8A_104 : ai A_104 50 x1.toInt = 1 := by rw [ai_fr (A_104_o 50 (by decide))]; exact ZF_8A_9
                have XF_8A_104 : ∀ i, 42 ≤ i → ai A_104 48 i = ai A 48 i := fun i hi => (A_104_n i (by omega) (by omega)).trans (XF_8A_9 i hi)
                have SF_8A_104 : ∀ s, SVm F A (ai A 48 (42 + x1.toInt)) s → SVm F_8 A_104 (ai A 48 (42 + x1.toInt)) s := fun s q => (SF_8A_9 s q).fr rfl (A_104_o 19 (by decide)) (A_104_o 22 (by decide))
                refine ok_st (j := 53) hA_104 (by omega) (by omega) (trivial) ?_
                intro A_105 hA_105 A_105_o A_105_s A_105_n
                have VF_8A_105 : VMs F_8 A_105 := VF_8A_104.fr rfl (fun q h1 h2 => A_105_o q (by omega))
                have NF_8A_105 : NVm F_8 A_105 k := NF_8A_104.st53 A_105_o A_105_n (fun _ => by rw [ZF_8A_104]; decide)
                have MF_8A_105 : k = ai A_105 29 (F_8 18).toInt := by rw [ai_fr (A_105_o 29 (by decide))] <;> exact MF_8A_104
                have ZF_8A_105 : ai A_105 50 x1.toInt = 1 := by rw [ai_fr (A_105_o 50 (by decide))]; exact ZF_8A_104
                have XF_8A_105 : ∀ i, 42 ≤ i → ai A_105 48 i = ai A 48 i := by rw [ai_fr (A_105_o 48 (by decide))]; exact XF_8A_104
                have SF_8A_105 : ∀ s, SVm F A (ai A 48 (42 + x1.toInt)) s → SVm F_8 A_105 (ai A 48 (42 + x1.toInt)) s := fun s q => (SF_8A_104 s q).fr rfl (A_105_o 19 (by decide)) (A_105_o 22 (by decide))
                have s2 : SVm F_8 A_105 (ai A_105 48 (42 + x1.toInt)) (ai A_105 53 x1.toInt) := by rw [A_105_s, XF_8A_105 (42 + x1.toInt) (by omega)]; exact SF_8A_105 _ ⟨g1, g2, v_7_p.1, v_7_p.2⟩
                have l_106 : (2 : Int32).toInt = 2 := by decide
                refine ok_st (j := 50) hA_105 (by omega) (by omega) (trivial) ?_
                intro A_107 hA_107 A_107_o A_107_s A_107_n
                have VF_8A_107 : VMs F_8 A_107 := VF_8A_105.fr rfl (fun q h1 h2 => A_107_o q (by omega))
                have NF_8A_107 : NVm F_8 A_107 k := NF_8A_105.st50 A_107_o A_107_s A_107_n (fun _ e => by omega) (fun _ _ => s2)
                have MF_8A_107 : k = ai A_107 29 (F_8 18).toInt := by rw [ai_fr (A_107_o 29 (by decide))] <;> exact MF_8A_105
                have XF_8A_107 : ∀ i, 42 ≤ i → ai A_107 48 i = ai A 48 i := by rw [ai_fr (A_107_o 48 (by decide))]; exact XF_8A_105
                have SF_8A_107 : ∀ s, SVm F A (ai A 48 (42 + x1.toInt)) s → SVm F_8 A_107 (ai A 48 (42 + x1.toInt)) s := fun s q => (SF_8A_105 s q).fr rfl (A_107_o 19 (by decide)) (A_107_o 22 (by decide))
                refine ok_call (s_d_stepAt hF_8 (by omega) (by omega)) ?_
                intro v_108 v_108_p
                have v_108_p : v_108.toInt = 6 * (6 * (F_8 18).toInt + v_3.toInt) + v_7.toInt := v_108_p
                refine ok_ld (j := 23) hA_107 (by omega) (by omega) ?_
                intro v_109 v_109_e v_109_r
                refine ok_st (j := 52) hA_107 (by omega) (by omega) (trivial) ?_
                intro A_110 hA_110 A_110_o A_110_s A_110_n
                have VF_8A_110 : VMs F_8 A_110 := VF_8A_107.fr rfl (fun q h1 h2 => A_110_o q (by omega))
                have NF_8A_110 : NVm F_8 A_110 k := NF_8A_107.sto A_110_o (by decide)
                have MF_8A_110 : k = ai A_110 29 (F_8 18).toInt := by rw [ai_fr (A_110_o 29 (by decide))] <;> exact MF_8A_107
                have XF_8A_110 : ∀ i, 42 ≤ i → ai A_110 48 i = ai A 48 i := by rw [ai_fr (A_110_o 48 (by decide))]; exact XF_8A_107
                have SF_8A_110 : ∀ s, SVm F A (ai A 48 (42 + x1.toInt)) s → SVm F_8 A_110 (ai A 48 (42 + x1.toInt)) s := fun s q => (SF_8A_107 s q).fr rfl (A_110_o 19 (by decide)) (A_110_o 22 (by decide))
                refine ok_some ?_
                refine ⟨hF_8, hA_110, (fun q hq => (F_8_o q hq)), (fun q hq => (((((A_110_o q (fun e => hq (by rw [e]; decide))).trans (A_107_o q (fun e => hq (by rw [e]; decide)))).trans (A_105_o q (fun e => hq (by rw [e]; decide)))).trans (A_104_o q (fun e => hq (by rw [e]; decide)))).trans (A_9_o q (fun e => hq ((by decide : ∀ x, x ∈ ([45, 46] : List Nat) → x ∈ ([45, 46, 48, 50, 52, 53, 56] : List Nat)) q e))))), ?_⟩
                exact NF_8A_110
              · rw [i_neq] at c_102
                refine ok_some ?_
                refine ⟨hF_8, hA_9, (fun q hq => (F_8_o q hq)), (fun q hq => (A_9_o q (fun e => hq ((by decide : ∀ x, x ∈ ([45, 46] : List Nat) → x ∈ ([45, 46, 48, 50, 52, 53, 56] : List Nat)) q e)))), ?_⟩
                exact NF_8A_9
          · rw [i_nne] at c_91
            refine ok_ld (j := 48) hA_9 (by omega) (by omega) ?_
            intro v_111 v_111_e v_111_r
            have l_112 : (6 : Int32).toInt = 6 := by decide
            have e_113 := i_mulL (c := 6) (k := 6) (x := (F_8 18)) (by decide) (by omega) (by omega)
            have e_114 := i_add (x := (6 * (F_8 18))) (y := v_3) (by omega) (by omega)
            refine ok_ld (j := 20) hA_9 (by omega) (by omega) ?_
            intro v_115 v_115_e v_115_r
            have v_115_r : -1 ≤ v_115.toInt ∧ v_115.toInt ≤ 7 := v_115_r
            refine ok_cond (fun c_116 => ?_) (fun c_116 => ?_)
            · rw [i_eq] at c_116
              unfold d_begins1_131
              refine ok_cond (fun c_117 => ?_) (fun c_117 => ?_)
              · rw [i_ne] at c_117
                unfold d_begins1_147
                refine ok_ld (j := 48) hA_9 (by omega) (by omega) ?_
                intro v_118 v_118_e v_118_r
                refine ok_st (j := 48) hA_9 (by omega) (by omega) (trivial) ?_
                intro A_119 hA_119 A_119_o A_119_s A_119_n
                have VF_8A_119 : VMs F_8 A_119 := VF_8A_9.fr rfl (fun q h1 h2 => A_119_o q (by omega))
                have NF_8A_119 : NVm F_8 A_119 k := NF_8A_9.st48 A_119_o A_119_n (by omega)
                have MF_8A_119 : k = ai A_119 29 (F_8 18).toInt := by rw [ai_fr (A_119_o 29 (by decide))] <;> exact MF_8A_9
                have ZF_8A_119 : ai A_119 50 x1.toInt = 1 := by rw [ai_fr (A_119_o 50 (by decide))]; exact ZF_8A_9
                have XF_8A_119 : ∀ i, 42 ≤ i → ai A_119 48 i = ai A 48 i := fun i hi => (A_119_n i (by omega) (by omega)).trans (XF_8A_9 i hi)
                have SF_8A_119 : ∀ s, SVm F A (ai A 48 (42 + x1.toInt)) s → SVm F_8 A_119 (ai A 48 (42 + x1.toInt)) s := fun s q => (SF_8A_9 s q).fr rfl (A_119_o 19 (by decide)) (A_119_o 22 (by decide))
                refine ok_st (j := 53) hA_119 (by omega) (by omega) (trivial) ?_
                intro A_120 hA_120 A_120_o A_120_s A_120_n
                have VF_8A_120 : VMs F_8 A_120 := VF_8A_119.fr rfl (fun q h1 h2 => A_120_o q (by omega))
                have NF_8A_120 : NVm F_8 A_120 k := NF_8A_119.st53 A_120_o A_120_n (fun _ => by rw [ZF_8A_119]; decide)
                have MF_8A_120 : k = ai A_120 29 (F_8 18).toInt := by rw [ai_fr (A_120_o 29 (by decide))] <;> exact MF_8A_119
                have ZF_8A_120 : ai A_120 50 x1.toInt = 1 := by rw [ai_fr (A_120_o 50 (by decide))]; exact ZF_8A_119
                have XF_8A_120 : ∀ i, 42 ≤ i → ai A_120 48 i = ai A 48 i := by rw [ai_fr (A_120_o 48 (by decide))]; exact XF_8A_119
                have SF_8A_120 : ∀ s, SVm F A (ai A 48 (42 + x1.toInt)) s → SVm F_8 A_120 (ai A 48 (42 + x1.toInt)) s := fun s q => (SF_8A_119 s q).fr rfl (A_120_o 19 (by decide)) (A_120_o 22 (by decide))
                have s2 : SVm F_8 A_120 (ai A_120 48 (42 + x1.toInt)) (ai A_120 53 x1.toInt) := by rw [A_120_s, XF_8A_120 (42 + x1.toInt) (by omega)]; exact SF_8A_120 _ ⟨g1, g2, v_7_p.1, v_7_p.2⟩
                have l_121 : (2 : Int32).toInt = 2 := by decide
                refine ok_st (j := 50) hA_120 (by omega) (by omega) (trivial) ?_
                intro A_122 hA_122 A_122_o A_122_s A_122_n
                have VF_8A_122 : VMs F_8 A_122 := VF_8A_120.fr rfl (fun q h1 h2 => A_122_o q (by omega))
                have NF_8A_122 : NVm F_8 A_122 k := NF_8A_120.st50 A_122_o A_122_s A_122_n (fun _ e => by omega) (fun _ _ => s2)
                have MF_8A_122 : k = ai A_122 29 (F_8 18).toInt := by rw [ai_fr (A_122_o 29 (by decide))] <;> exact MF_8A_120
                have XF_8A_122 : ∀ i, 42 ≤ i → ai A_122 48 i = ai A 48 i := by rw [ai_fr (A_122_o 48 (by decide))]; exact XF_8A_120
                have SF_8A_122 : ∀ s, SVm F A (ai A 48 (42 + x1.toInt)) s → SVm F_8 A_122 (ai A 48 (42 + x1.toInt)) s := fun s q => (SF_8A_120 s q).fr rfl (A_122_o 19 (by decide)) (A_122_o 22 (by decide))
                refine ok_call (s_d_stepAt hF_8 (by omega) (by omega)) ?_
                intro v_123 v_123_p
                have v_123_p : v_123.toInt = 6 * (6 * (F_8 18).toInt + v_3.toInt) + v_7.toInt := v_123_p
                refine ok_ld (j := 23) hA_122 (by omega) (by omega) ?_
                intro v_124 v_124_e v_124_r
                refine ok_st (j := 52) hA_122 (by omega) (by omega) (trivial) ?_
                intro A_125 hA_125 A_125_o A_125_s A_125_n
                have VF_8A_125 : VMs F_8 A_125 := VF_8A_122.fr rfl (fun q h1 h2 => A_125_o q (by omega))
                have NF_8A_125 : NVm F_8 A_125 k := NF_8A_122.sto A_125_o (by decide)
                have MF_8A_125 : k = ai A_125 29 (F_8 18).toInt := by rw [ai_fr (A_125_o 29 (by decide))] <;> exact MF_8A_122
                have XF_8A_125 : ∀ i, 42 ≤ i → ai A_125 48 i = ai A 48 i := by rw [ai_fr (A_125_o 48 (by decide))]; exact XF_8A_122
                have SF_8A_125 : ∀ s, SVm F A (ai A 48 (42 + x1.toInt)) s → SVm F_8 A_125 (ai A 48 (42 + x1.toInt)) s := fun s q => (SF_8A_122 s q).fr rfl (A_125_o 19 (by decide)) (A_125_o 22 (by decide))
                refine ok_some ?_
                refine ⟨hF_8, hA_125, (fun q hq => (F_8_o q hq)), (fun q hq => (((((A_125_o q (fun e => hq (by rw [e]; decide))).trans (A_122_o q (fun e => hq (by rw [e]; decide)))).trans (A_120_o q (fun e => hq (by rw [e]; decide)))).trans (A_119_o q (fun e => hq (by rw [e]; decide)))).trans (A_9_o q (fun e => hq ((by decide : ∀ x, x ∈ ([45, 46] : List Nat) → x ∈ ([45, 46, 48, 50, 52, 53, 56] : List Nat)) q e))))), ?_⟩
                exact NF_8A_125
              · rw [i_nne] at c_117
                refine ok_call (s_d_isInUse hF_8 hA_9 (by omega) (by omega) (by assumption) (NF_8A_9)) ?_
                intro v_126 v_126_p
                have v_126_p : v_126.toInt = 0 ∨ v_126.toInt = 1 := v_126_p
                refine ok_cond (fun c_127 => ?_) (fun c_127 => ?_)
                · rw [i_eq] at c_127
                  unfold d_begins1_147
                  refine ok_ld (j := 48) hA_9 (by omega) (by omega) ?_
                  intro v_128 v_128_e v_128_r
                  refine ok_st (j := 48) hA_9 (by omega) (by omega) (trivial) ?_
                  intro A_129 hA_129 A_129_o A_129_s A_129_n
                  have VF_8A_129 : VMs F_8 A_129 := VF_8A_9.fr rfl (fun q h1 h2 => A_129_o q (by omega))
                  have NF_8A_129 : NVm F_8 A_129 k := NF_8A_9.st48 A_129_o A_129_n (by omega)
                  have MF_8A_129 : k = ai A_129 29 (F_8 18).toInt := by rw [ai_fr (A_129_o 29 (by decide))] <;> exact MF_8A_9
                  have ZF_8A_129 : ai A_129 50 x1.toInt = 1 := by rw [ai_fr (A_129_o 50 (by decide))]; exact ZF_8A_9
                  have XF_8A_129 : ∀ i, 42 ≤ i → ai A_129 48 i = ai A 48 i := fun i hi => (A_129_n i (by omega) (by omega)).trans (XF_8A_9 i hi)
                  have SF_8A_129 : ∀ s, SVm F A (ai A 48 (42 + x1.toInt)) s → SVm F_8 A_129 (ai A 48 (42 + x1.toInt)) s := fun s q => (SF_8A_9 s q).fr rfl (A_129_o 19 (by decide)) (A_129_o 22 (by decide))
                  refine ok_st (j := 53) hA_129 (by omega) (by omega) (trivial) ?_
                  intro A_130 hA_130 A_130_o A_130_s A_130_n
                  have VF_8A_130 : VMs F_8 A_130 := VF_8A_129.fr rfl (fun q h1 h2 => A_130_o q (by omega))
                  have NF_8A_130 : NVm F_8 A_130 k := NF_8A_129.st53 A_130_o A_130_n (fun _ => by rw [ZF_8A_129]; decide)
                  have MF_8A_130 : k = ai A_130 29 (F_8 18).toInt := by rw [ai_fr (A_130_o 29 (by decide))] <;> exact MF_8A_129
                  have ZF_8A_130 : ai A_130 50 x1.toInt = 1 := by rw [ai_fr (A_130_o 50 (by decide))]; exact ZF_8A_129
                  have XF_8A_130 : ∀ i, 42 ≤ i → ai A_130 48 i = ai A 48 i := by rw [ai_fr (A_130_o 48 (by decide))]; exact XF_8A_129
                  have SF_8A_130 : ∀ s, SVm F A (ai A 48 (42 + x1.toInt)) s → SVm F_8 A_130 (ai A 48 (42 + x1.toInt)) s := fun s q => (SF_8A_129 s q).fr rfl (A_130_o 19 (by decide)) (A_130_o 22 (by decide))
                  have s2 : SVm F_8 A_130 (ai A_130 48 (42 + x1.toInt)) (ai A_130 53 x1.toInt) := by rw [A_130_s, XF_8A_130 (42 + x1.toInt) (by omega)]; exact SF_8A_130 _ ⟨g1, g2, v_7_p.1, v_7_p.2⟩
                  have l_131 : (2 : Int32).toInt = 2 := by decide
                  refine ok_st (j := 50) hA_130 (by omega) (by omega) (trivial) ?_
                  intro A_132 hA_132 A_132_o A_132_s A_132_n
                  have VF_8A_132 : VMs F_8 A_132 := VF_8A_130.fr rfl (fun q h1 h2 => A_132_o q (by omega))
                  have NF_8A_132 : NVm F_8 A_132 k := NF_8A_130.st50 A_132_o A_132_s A_132_n (fun _ e => by omega) (fun _ _ => s2)
                  have MF_8A_132 : k = ai A_132 29 (F_8 18).toInt := by rw [ai_fr (A_132_o 29 (by decide))] <;> exact MF_8A_130
                  have XF_8A_132 : ∀ i, 42 ≤ i → ai A_132 48 i = ai A 48 i := by rw [ai_fr (A_132_o 48 (by decide))]; exact XF_8A_130
                  have SF_8A_132 : ∀ s, SVm F A (ai A 48 (42 + x1.toInt)) s → SVm F_8 A_132 (ai A 48 (42 + x1.toInt)) s := fun s q => (SF_8A_130 s q).fr rfl (A_132_o 19 (by decide)) (A_132_o 22 (by decide))
                  refine ok_call (s_d_stepAt hF_8 (by omega) (by omega)) ?_
                  intro v_133 v_133_p
                  have v_133_p : v_133.toInt = 6 * (6 * (F_8 18).toInt + v_3.toInt) + v_7.toInt := v_133_p
                  refine ok_ld (j := 23) hA_132 (by omega) (by omega) ?_
                  intro v_134 v_134_e v_134_r
                  refine ok_st (j := 52) hA_132 (by omega) (by omega) (trivial) ?_
                  intro A_135 hA_135 A_135_o A_135_s A_135_n
                  have VF_8A_135 : VMs F_8 A_135 := VF_8A_132.fr rfl (fun q h1 h2 => A_135_o q (by omega))
                  have NF_8A_135 : NVm F_8 A_135 k := NF_8A_132.sto A_135_o (by decide)
                  have MF_8A_135 : k = ai A_135 29 (F_8 18).toInt := by rw [ai_fr (A_135_o 29 (by decide))] <;> exact MF_8A_132
                  have XF_8A_135 : ∀ i, 42 ≤ i → ai A_135 48 i = ai A 48 i := by rw [ai_fr (A_135_o 48 (by decide))]; exact XF_8A_132
                  have SF_8A_135 : ∀ s, SVm F A (ai A 48 (42 + x1.toInt)) s → SVm F_8 A_135 (ai A 48 (42 + x1.toInt)) s := fun s q => (SF_8A_132 s q).fr rfl (A_135_o 19 (by decide)) (A_135_o 22 (by decide))
                  refine ok_some ?_
                  refine ⟨hF_8, hA_135, (fun q hq => (F_8_o q hq)), (fun q hq => (((((A_135_o q (fun e => hq (by rw [e]; decide))).trans (A_132_o q (fun e => hq (by rw [e]; decide)))).trans (A_130_o q (fun e => hq (by rw [e]; decide)))).trans (A_129_o q (fun e => hq (by rw [e]; decide)))).trans (A_9_o q (fun e => hq ((by decide : ∀ x, x ∈ ([45, 46] : List Nat) → x ∈ ([45, 46, 48, 50, 52, 53, 56] : List Nat)) q e))))), ?_⟩
                  exact NF_8A_135
                · rw [i_neq] at c_127
                  refine ok_some ?_
                  refine ⟨hF_8, hA_9, (fun q hq => (F_8_o q hq)), (fun q hq => (A_9_o q (fun e => hq ((by decide : ∀ x, x ∈ ([45, 46] : List Nat) → x ∈ ([45, 46, 48, 50, 52, 53, 56] : List Nat)) q e)))), ?_⟩
                  exact NF_8A_9
            · rw [i_neq] at c_116
              unfold d_begins1_124
              refine ok_call (s_d_lies hF_8 hA_9 (by omega) (NF_8A_9) (by omega)) ?_
              rintro ⟨u_136, F_137, A_138, J_139⟩ ⟨hF_137, hA_138, F_137_o, A_138_o, u_136_p⟩
              dsimp only at hF_137 hA_138 F_137_o A_138_o u_136_p ⊢
              have u_136_p : NVm F_137 A_138 k := u_136_p
              have r_140 : 0 ≤ (F_137 18).toInt ∧ (F_137 18).toInt ≤ 1 := hF_137 18
              have f_141 : (F_137 18).toInt = (F_8 18).toInt := congrArg Int32.toInt (F_137_o 18 (by decide))
              have VF_137A_138 : VMs F_137 A_138 := VF_8A_9.fr (F_137_o 18 (by decide)) (fun q h1 h2 => A_138_o q (by intro e; simp at e <;> omega))
              have NF_137A_138 : NVm F_137 A_138 k := u_136_p
              have MF_137A_138 : k = ai A_138 29 (F_137 18).toInt := by rw [ai_fr (A_138_o 29 (by decide)), F_137_o 18 (by decide)] <;> exact MF_8A_9
              have SF_137A_138 : ∀ s, SVm F A (ai A 48 (42 + x1.toInt)) s → SVm F_137 A_138 (ai A 48 (42 + x1.toInt)) s := fun s q => (SF_8A_9 s q).fr (F_137_o 18 (by decide)) (A_138_o 19 (by decide)) (A_138_o 22 (by decide))
              refine ok_some ?_
              refine ⟨hF_137, hA_138, (fun q hq => ((F_137_o q (fun e => hq ((by decide : ∀ x, x ∈ ([] : List Nat) → x ∈ ([63] : List Nat)) q e))).trans (F_8_o q hq))), (fun q hq => ((A_138_o q (fun e => hq ((by decide : ∀ x, x ∈ ([48, 50] : List Nat) → x ∈ ([45, 46, 48, 50, 52, 53, 56] : List Nat)) q e))).trans (A_9_o q (fun e => hq ((by decide : ∀ x, x ∈ ([45, 46] : List Nat) → x ∈ ([45, 46, 48, 50, 52, 53, 56] : List Nat)) q e))))), ?_⟩
              exact NF_137A_138
      · rw [i_nne] at c_82
        unfold d_begins1_76
        unfold d_begins1_81
        refine ok_ld (j := 48) hA_9 (by omega) (by omega) ?_
        intro v_142 v_142_e v_142_r
        refine ok_cond (fun c_143 => ?_) (fun c_143 => ?_)
        · rw [i_eq] at c_143
          unfold d_begins1_124
          refine ok_call (s_d_lies hF_8 hA_9 (by omega) (NF_8A_9) (by omega)) ?_
          rintro ⟨u_144, F_145, A_146, J_147⟩ ⟨hF_145, hA_146, F_145_o, A_146_o, u_144_p⟩
          dsimp only at hF_145 hA_146 F_145_o A_146_o u_144_p ⊢
          have u_144_p : NVm F_145 A_146 k := u_144_p
          have r_148 : 0 ≤ (F_145 18).toInt ∧ (F_145 18).toInt ≤ 1 := hF_145 18
          have f_149 : (F_145 18).toInt = (F_8 18).toInt := congrArg Int32.toInt (F_145_o 18 (by decide))
          have VF_145A_146 : VMs F_145 A_146 := VF_8A_9.fr (F_145_o 18 (by decide)) (fun q h1 h2 => A_146_o q (by intro e; simp at e <;> omega))
          have NF_145A_146 : NVm F_145 A_146 k := u_144_p
          have MF_145A_146 : k = ai A_146 29 (F_145 18).toInt := by rw [ai_fr (A_146_o 29 (by decide)), F_145_o 18 (by decide)] <;> exact MF_8A_9
          have SF_145A_146 : ∀ s, SVm F A (ai A 48 (42 + x1.toInt)) s → SVm F_145 A_146 (ai A 48 (42 + x1.toInt)) s := fun s q => (SF_8A_9 s q).fr (F_145_o 18 (by decide)) (A_146_o 19 (by decide)) (A_146_o 22 (by decide))
          refine ok_some ?_
          refine ⟨hF_145, hA_146, (fun q hq => ((F_145_o q (fun e => hq ((by decide : ∀ x, x ∈ ([] : List Nat) → x ∈ ([63] : List Nat)) q e))).trans (F_8_o q hq))), (fun q hq => ((A_146_o q (fun e => hq ((by decide : ∀ x, x ∈ ([48, 50] : List Nat) → x ∈ ([45, 46, 48, 50, 52, 53, 56] : List Nat)) q e))).trans (A_9_o q (fun e => hq ((by decide : ∀ x, x ∈ ([45, 46] : List Nat) → x ∈ ([45, 46, 48, 50, 52, 53, 56] : List Nat)) q e))))), ?_⟩
          exact NF_145A_146
        · rw [i_neq] at c_143
          have l_150 : (1 : Int32).toInt = 1 := by decide
          refine ok_cond (fun c_151 => ?_) (fun c_151 => ?_)
          · rw [i_ne] at c_151
            unfold d_begins1_131
            refine ok_cond (fun c_152 => ?_) (fun c_152 => ?_)
            · rw [i_ne] at c_152
              unfold d_begins1_147
              refine ok_ld (j := 48) hA_9 (by omega) (by omega) ?_
              intro v_153 v_153_e v_153_r
              refine ok_st (j := 48) hA_9 (by omega) (by omega) (trivial) ?_
              intro A_154 hA_154 A_154_o A_154_s A_154_n
              have VF_8A_154 : VMs F_8 A_154 := VF_8A_9.fr rfl (fun q h1 h2 => A_154_o q (by omega))
              have NF_8A_154 : NVm F_8 A_154 k := NF_8A_9.st48 A_154_o A_154_n (by omega)
              have MF_8A_154 : k = ai A_154 29 (F_8 18).toInt := by rw [ai_fr (A_154_o 29 (by decide))] <;> exact MF_8A_9
              have ZF_8A_154 : ai A_154 50 x1.toInt = 1 := by rw [ai_fr (A_154_o 50 (by decide))]; exact ZF_8A_9
              have XF_8A_154 : ∀ i, 42 ≤ i → ai A_154 48 i = ai A 48 i := fun i hi => (A_154_n i (by omega) (by omega)).trans (XF_8A_9 i hi)
              have SF_8A_154 : ∀ s, SVm F A (ai A 48 (42 + x1.toInt)) s → SVm F_8 A_154 (ai A 48 (42 + x1.toInt)) s := fun s q => (SF_8A_9 s q).fr rfl (A_154_o 19 (by decide)) (A_154_o 22 (by decide))
              refine ok_st (j := 53) hA_154 (by omega) (by omega) (trivial) ?_
              intro A_155 hA_155 A_155_o A_155_s A_155_n
              have VF_8A_155 : VMs F_8 A_155 := VF_8A_154.fr rfl (fun q h1 h2 => A_155_o q (by omega))
              have NF_8A_155 : NVm F_8 A_155 k := NF_8A_154.st53 A_155_o A_155_n (fun _ => by rw [ZF_8A_154]; decide)
              have MF_8A_155 : k = ai A_155 29 (F_8 18).toInt := by rw [ai_fr (A_155_o 29 (by decide))] <;> exact MF_8A_154
              have ZF_8A_155 : ai A_155 50 x1.toInt = 1 := by rw [ai_fr (A_155_o 50 (by decide))]; exact ZF_8A_154
              have XF_8A_155 : ∀ i, 42 ≤ i → ai A_155 48 i = ai A 48 i := by rw [ai_fr (A_155_o 48 (by decide))]; exact XF_8A_154
              have SF_8A_155 : ∀ s, SVm F A (ai A 48 (42 + x1.toInt)) s → SVm F_8 A_155 (ai A 48 (42 + x1.toInt)) s := fun s q => (SF_8A_154 s q).fr rfl (A_155_o 19 (by decide)) (A_155_o 22 (by decide))
              have s2 : SVm F_8 A_155 (ai A_155 48 (42 + x1.toInt)) (ai A_155 53 x1.toInt) := by rw [A_155_s, XF_8A_155 (42 + x1.toInt) (by omega)]; exact SF_8A_155 _ ⟨g1, g2, v_7_p.1, v_7_p.2⟩
              have l_156 : (2 : Int32).toInt = 2 := by decide
              refine ok_st (j := 50) hA_155 (by omega) (by omega) (trivial) ?_
              intro A_157 hA_157 A_157_o A_157_s A_157_n
              have VF_8A_157 : VMs F_8 A_157 := VF_8A_155.fr rfl (fun q h1 h2 => A_157_o q (by omega))
              have NF_8A_157 : NVm F_8 A_157 k := NF_8A_155.st50 A_157_o A_157_s A_157_n (fun _ e => by omega) (fun _ _ => s2)
              have MF_8A_157 : k = ai A_157 29 (F_8 18).toInt := by rw [ai_fr (A_157_o 29 (by decide))] <;> exact MF_8A_155
              have XF_8A_157 : ∀ i, 42 ≤ i → ai A_157 48 i = ai A 48 i := by rw [ai_fr (A_157_o 48 (by decide))]; exact XF_8A_155
              have SF_8A_157 : ∀ s, SVm F A (ai A 48 (42 + x1.toInt)) s → SVm F_8 A_157 (ai A 48 (42 + x1.toInt)) s := fun s q => (SF_8A_155 s q).fr rfl (A_157_o 19 (by decide)) (A_157_o 22 (by decide))
              refine ok_call (s_d_stepAt hF_8 (by omega) (by omega)) ?_
              intro v_158 v_158_p
              have v_158_p : v_158.toInt = 6 * (6 * (F_8 18).toInt + v_3.toInt) + v_7.toInt := v_158_p
              refine ok_ld (j := 23) hA_157 (by omega) (by omega) ?_
              intro v_159 v_159_e v_159_r
              refine ok_st (j := 52) hA_157 (by omega) (by omega) (trivial) ?_
              intro A_160 hA_160 A_160_o A_160_s A_160_n
              have VF_8A_160 : VMs F_8 A_160 := VF_8A_157.fr rfl (fun q h1 h2 => A_160_o q (by omega))
              have NF_8A_160 : NVm F_8 A_160 k := NF_8A_157.sto A_160_o (by decide)
              have MF_8A_160 : k = ai A_160 29 (F_8 18).toInt := by rw [ai_fr (A_160_o 29 (by decide))] <;> exact MF_8A_157
              have XF_8A_160 : ∀ i, 42 ≤ i → ai A_160 48 i = ai A 48 i := by rw [ai_fr (A_160_o 48 (by decide))]; exact XF_8A_157
              have SF_8A_160 : ∀ s, SVm F A (ai A 48 (42 + x1.toInt)) s → SVm F_8 A_160 (ai A 48 (42 + x1.toInt)) s := fun s q => (SF_8A_157 s q).fr rfl (A_160_o 19 (by decide)) (A_160_o 22 (by decide))
              refine ok_some ?_
              refine ⟨hF_8, hA_160, (fun q hq => (F_8_o q hq)), (fun q hq => (((((A_160_o q (fun e => hq (by rw [e]; decide))).trans (A_157_o q (fun e => hq (by rw [e]; decide)))).trans (A_155_o q (fun e => hq (by rw [e]; decide)))).trans (A_154_o q (fun e => hq (by rw [e]; decide)))).trans (A_9_o q (fun e => hq ((by decide : ∀ x, x ∈ ([45, 46] : List Nat) → x ∈ ([45, 46, 48, 50, 52, 53, 56] : List Nat)) q e))))), ?_⟩
              exact NF_8A_160
            · rw [i_nne] at c_152
              refine ok_call (s_d_isInUse hF_8 hA_9 (by omega) (by omega) (by assumption) (NF_8A_9)) ?_
              intro v_161 v_161_p
              have v_161_p : v_161.toInt = 0 ∨ v_161.toInt = 1 := v_161_p
              refine ok_cond (fun c_162 => ?_) (fun c_162 => ?_)
              · rw [i_eq] at c_162
                unfold d_begins1_147
                refine ok_ld (j := 48) hA_9 (by omega) (by omega) ?_
                intro v_163 v_163_e v_163_r
                refine ok_st (j := 48) hA_9 (by omega) (by omega) (trivial) ?_
                intro A_164 hA_164 A_164_o A_164_s A_164_n
                have VF_8A_164 : VMs F_8 A_164 := VF_8A_9.fr rfl (fun q h1 h2 => A_164_o q (by omega))
                have NF_8A_164 : NVm F_8 A_164 k := NF_8A_9.st48 A_164_o A_164_n (by omega)
                have MF_8A_164 : k = ai A_164 29 (F_8 18).toInt := by rw [ai_fr (A_164_o 29 (by decide))] <;> exact MF_8A_9
                have ZF_8A_164 : ai A_164 50 x1.toInt = 1 := by rw [ai_fr (A_164_o 50 (by decide))]; exact ZF_8A_9
                have XF_8A_164 : ∀ i, 42 ≤ i → ai A_164 48 i = ai A 48 i := fun i hi => (A_164_n i (by omega) (by omega)).trans (XF_8A_9 i hi)
                have SF_8A_164 : ∀ s, SVm F A (ai A 48 (42 + x1.toInt)) s → SVm F_8 A_164 (ai A 48 (42 + x1.toInt)) s := fun s q => (SF_8A_9 s q).fr rfl (A_164_o 19 (by decide)) (A_164_o 22 (by decide))
                refine ok_st (j := 53) hA_164 (by omega) (by omega) (trivial) ?_
                intro A_165 hA_165 A_165_o A_165_s A_165_n
                have VF_8A_165 : VMs F_8 A_165 := VF_8A_164.fr rfl (fun q h1 h2 => A_165_o q (by omega))
                have NF_8A_165 : NVm F_8 A_165 k := NF_8A_164.st53 A_165_o A_165_n (fun _ => by rw [ZF_8A_164]; decide)
                have MF_8A_165 : k = ai A_165 29 (F_8 18).toInt := by rw [ai_fr (A_165_o 29 (by decide))] <;> exact MF_8A_164
                have ZF_8A_165 : ai A_165 50 x1.toInt = 1 := by rw [ai_fr (A_165_o 50 (by decide))]; exact ZF_8A_164
                have XF_8A_165 : ∀ i, 42 ≤ i → ai A_165 48 i = ai A 48 i := by rw [ai_fr (A_165_o 48 (by decide))]; exact XF_8A_164
                have SF_8A_165 : ∀ s, SVm F A (ai A 48 (42 + x1.toInt)) s → SVm F_8 A_165 (ai A 48 (42 + x1.toInt)) s := fun s q => (SF_8A_164 s q).fr rfl (A_165_o 19 (by decide)) (A_165_o 22 (by decide))
                have s2 : SVm F_8 A_165 (ai A_165 48 (42 + x1.toInt)) (ai A_165 53 x1.toInt) := by rw [A_165_s, XF_8A_165 (42 + x1.toInt) (by omega)]; exact SF_8A_165 _ ⟨g1, g2, v_7_p.1, v_7_p.2⟩
                have l_166 : (2 : Int32).toInt = 2 := by decide
                refine ok_st (j := 50) hA_165 (by omega) (by omega) (trivial) ?_
                intro A_167 hA_167 A_167_o A_167_s A_167_n
                have VF_8A_167 : VMs F_8 A_167 := VF_8A_165.fr rfl (fun q h1 h2 => A_167_o q (by omega))
                have NF_8A_167 : NVm F_8 A_167 k := NF_8A_165.st50 A_167_o A_167_s A_167_n (fun _ e => by omega) (fun _ _ => s2)
                have MF_8A_167 : k = ai A_167 29 (F_8 18).toInt := by rw [ai_fr (A_167_o 29 (by decide))] <;> exact MF_8A_165
                have XF_8A_167 : ∀ i, 42 ≤ i → ai A_167 48 i = ai A 48 i := by rw [ai_fr (A_167_o 48 (by decide))]; exact XF_8A_165
                have SF_8A_167 : ∀ s, SVm F A (ai A 48 (42 + x1.toInt)) s → SVm F_8 A_167 (ai A 48 (42 + x1.toInt)) s := fun s q => (SF_8A_165 s q).fr rfl (A_167_o 19 (by decide)) (A_167_o 22 (by decide))
                refine ok_call (s_d_stepAt hF_8 (by omega) (by omega)) ?_
                intro v_168 v_168_p
                have v_168_p : v_168.toInt = 6 * (6 * (F_8 18).toInt + v_3.toInt) + v_7.toInt := v_168_p
                refine ok_ld (j := 23) hA_167 (by omega) (by omega) ?_
                intro v_169 v_169_e v_169_r
                refine ok_st (j := 52) hA_167 (by omega) (by omega) (trivial) ?_
                intro A_170 hA_170 A_170_o A_170_s A_170_n
                have VF_8A_170 : VMs F_8 A_170 := VF_8A_167.fr rfl (fun q h1 h2 => A_170_o q (by omega))
                have NF_8A_170 : NVm F_8 A_170 k := NF_8A_167.sto A_170_o (by decide)
                have MF_8A_170 : k = ai A_170 29 (F_8 18).toInt := by rw [ai_fr (A_170_o 29 (by decide))] <;> exact MF_8A_167
                have XF_8A_170 : ∀ i, 42 ≤ i → ai A_170 48 i = ai A 48 i := by rw [ai_fr (A_170_o 48 (by decide))]; exact XF_8A_167
                have SF_8A_170 : ∀ s, SVm F A (ai A 48 (42 + x1.toInt)) s → SVm F_8 A_170 (ai A 48 (42 + x1.toInt)) s := fun s q => (SF_8A_167 s q).fr rfl (A_170_o 19 (by decide)) (A_170_o 22 (by decide))
                refine ok_some ?_
                refine ⟨hF_8, hA_170, (fun q hq => (F_8_o q hq)), (fun q hq => (((((A_170_o q (fun e => hq (by rw [e]; decide))).trans (A_167_o q (fun e => hq (by rw [e]; decide)))).trans (A_165_o q (fun e => hq (by rw [e]; decide)))).trans (A_164_o q (fun e => hq (by rw [e]; decide)))).trans (A_9_o q (fun e => hq ((by decide : ∀ x, x ∈ ([45, 46] : List Nat) → x ∈ ([45, 46, 48, 50, 52, 53, 56] : List Nat)) q e))))), ?_⟩
                exact NF_8A_170
              · rw [i_neq] at c_162
                refine ok_some ?_
                refine ⟨hF_8, hA_9, (fun q hq => (F_8_o q hq)), (fun q hq => (A_9_o q (fun e => hq ((by decide : ∀ x, x ∈ ([45, 46] : List Nat) → x ∈ ([45, 46, 48, 50, 52, 53, 56] : List Nat)) q e)))), ?_⟩
                exact NF_8A_9
          · rw [i_nne] at c_151
            refine ok_ld (j := 48) hA_9 (by omega) (by omega) ?_
            intro v_171 v_171_e v_171_r
            have l_172 : (6 : Int32).toInt = 6 := by decide
            have e_173 := i_mulL (c := 6) (k := 6) (x := (F_8 18)) (by decide) (by omega) (by omega)
            have e_174 := i_add (x := (6 * (F_8 18))) (y := v_3) (by omega) (by omega)
            refine ok_ld (j := 20) hA_9 (by omega) (by omega) ?_
            intro v_175 v_175_e v_175_r
            have v_175_r : -1 ≤ v_175.toInt ∧ v_175.toInt ≤ 7 := v_175_r
            refine ok_cond (fun c_176 => ?_) (fun c_176 => ?_)
            · rw [i_eq] at c_176
              unfold d_begins1_131
              refine ok_cond (fun c_177 => ?_) (fun c_177 => ?_)
              · rw [i_ne] at c_177
                unfold d_begins1_147
                refine ok_ld (j := 48) hA_9 (by omega) (by omega) ?_
                intro v_178 v_178_e v_178_r
                refine ok_st (j := 48) hA_9 (by omega) (by omega) (trivial) ?_
                intro A_179 hA_179 A_179_o A_179_s A_179_n
                have VF_8A_179 : VMs F_8 A_179 := VF_8A_9.fr rfl (fun q h1 h2 => A_179_o q (by omega))
                have NF_8A_179 : NVm F_8 A_179 k := NF_8A_9.st48 A_179_o A_179_n (by omega)
                have MF_8A_179 : k = ai A_179 29 (F_8 18).toInt := by rw [ai_fr (A_179_o 29 (by decide))] <;> exact MF_8A_9
                have ZF_8A_179 : ai A_179 50 x1.toInt = 1 := by rw [ai_fr (A_179_o 50 (by decide))]; exact ZF_8A_9
                have XF_8A_179 : ∀ i, 42 ≤ i → ai A_179 48 i = ai A 48 i := fun i hi => (A_179_n i (by omega) (by omega)).trans (XF_8A_9 i hi)
                have SF_8A_179 : ∀ s, SVm F A (ai A 48 (42 + x1.toInt)) s → SVm F_8 A_179 (ai A 48 (42 + x1.toInt)) s := fun s q => (SF_8A_9 s q).fr rfl (A_179_o 19 (by decide)) (A_179_o 22 (by decide))
                refine ok_st (j := 53) hA_179 (by omega) (by omega) (trivial) ?_
                intro A_180 hA_180 A_180_o A_180_s A_180_n
                have VF_8A_180 : VMs F_8 A_180 := VF_8A_179.fr rfl (fun q h1 h2 => A_180_o q (by omega))
                have NF_8A_180 : NVm F_8 A_180 k := NF_8A_179.st53 A_180_o A_180_n (fun _ => by rw [ZF_8A_179]; decide)
                have MF_8A_180 : k = ai A_180 29 (F_8 18).toInt := by rw [ai_fr (A_180_o 29 (by decide))] <;> exact MF_8A_179
                have ZF_8A_180 : ai A_180 50 x1.toInt = 1 := by rw [ai_fr (A_180_o 50 (by decide))]; exact ZF_8A_179
                have XF_8A_180 : ∀ i, 42 ≤ i → ai A_180 48 i = ai A 48 i := by rw [ai_fr (A_180_o 48 (by decide))]; exact XF_8A_179
                have SF_8A_180 : ∀ s, SVm F A (ai A 48 (42 + x1.toInt)) s → SVm F_8 A_180 (ai A 48 (42 + x1.toInt)) s := fun s q => (SF_8A_179 s q).fr rfl (A_180_o 19 (by decide)) (A_180_o 22 (by decide))
                have s2 : SVm F_8 A_180 (ai A_180 48 (42 + x1.toInt)) (ai A_180 53 x1.toInt) := by rw [A_180_s, XF_8A_180 (42 + x1.toInt) (by omega)]; exact SF_8A_180 _ ⟨g1, g2, v_7_p.1, v_7_p.2⟩
                have l_181 : (2 : Int32).toInt = 2 := by decide
                refine ok_st (j := 50) hA_180 (by omega) (by omega) (trivial) ?_
                intro A_182 hA_182 A_182_o A_182_s A_182_n
                have VF_8A_182 : VMs F_8 A_182 := VF_8A_180.fr rfl (fun q h1 h2 => A_182_o q (by omega))
                have NF_8A_182 : NVm F_8 A_182 k := NF_8A_180.st50 A_182_o A_182_s A_182_n (fun _ e => by omega) (fun _ _ => s2)
                have MF_8A_182 : k = ai A_182 29 (F_8 18).toInt := by rw [ai_fr (A_182_o 29 (by decide))] <;> exact MF_8A_180
                have XF_8A_182 : ∀ i, 42 ≤ i → ai A_182 48 i = ai A 48 i := by rw [ai_fr (A_182_o 48 (by decide))]; exact XF_8A_180
                have SF_8A_182 : ∀ s, SVm F A (ai A 48 (42 + x1.toInt)) s → SVm F_8 A_182 (ai A 48 (42 + x1.toInt)) s := fun s q => (SF_8A_180 s q).fr rfl (A_182_o 19 (by decide)) (A_182_o 22 (by decide))
                refine ok_call (s_d_stepAt hF_8 (by omega) (by omega)) ?_
                intro v_183 v_183_p
                have v_183_p : v_183.toInt = 6 * (6 * (F_8 18).toInt + v_3.toInt) + v_7.toInt := v_183_p
                refine ok_ld (j := 23) hA_182 (by omega) (by omega) ?_
                intro v_184 v_184_e v_184_r
                refine ok_st (j := 52) hA_182 (by omega) (by omega) (trivial) ?_
                intro A_185 hA_185 A_185_o A_185_s A_185_n
                have VF_8A_185 : VMs F_8 A_185 := VF_8A_182.fr rfl (fun q h1 h2 => A_185_o q (by omega))
                have NF_8A_185 : NVm F_8 A_185 k := NF_8A_182.sto A_185_o (by decide)
                have MF_8A_185 : k = ai A_185 29 (F_8 18).toInt := by rw [ai_fr (A_185_o 29 (by decide))] <;> exact MF_8A_182
                have XF_8A_185 : ∀ i, 42 ≤ i → ai A_185 48 i = ai A 48 i := by rw [ai_fr (A_185_o 48 (by decide))]; exact XF_8A_182
                have SF_8A_185 : ∀ s, SVm F A (ai A 48 (42 + x1.toInt)) s → SVm F_8 A_185 (ai A 48 (42 + x1.toInt)) s := fun s q => (SF_8A_182 s q).fr rfl (A_185_o 19 (by decide)) (A_185_o 22 (by decide))
                refine ok_some ?_
                refine ⟨hF_8, hA_185, (fun q hq => (F_8_o q hq)), (fun q hq => (((((A_185_o q (fun e => hq (by rw [e]; decide))).trans (A_182_o q (fun e => hq (by rw [e]; decide)))).trans (A_180_o q (fun e => hq (by rw [e]; decide)))).trans (A_179_o q (fun e => hq (by rw [e]; decide)))).trans (A_9_o q (fun e => hq ((by decide : ∀ x, x ∈ ([45, 46] : List Nat) → x ∈ ([45, 46, 48, 50, 52, 53, 56] : List Nat)) q e))))), ?_⟩
                exact NF_8A_185
              · rw [i_nne] at c_177
                refine ok_call (s_d_isInUse hF_8 hA_9 (by omega) (by omega) (by assumption) (NF_8A_9)) ?_
                intro v_186 v_186_p
                have v_186_p : v_186.toInt = 0 ∨ v_186.toInt = 1 := v_186_p
                refine ok_cond (fun c_187 => ?_) (fun c_187 => ?_)
                · rw [i_eq] at c_187
                  unfold d_begins1_147
                  refine ok_ld (j := 48) hA_9 (by omega) (by omega) ?_
                  intro v_188 v_188_e v_188_r
                  refine ok_st (j := 48) hA_9 (by omega) (by omega) (trivial) ?_
                  intro A_189 hA_189 A_189_o A_189_s A_189_n
                  have VF_8A_189 : VMs F_8 A_189 := VF_8A_9.fr rfl (fun q h1 h2 => A_189_o q (by omega))
                  have NF_8A_189 : NVm F_8 A_189 k := NF_8A_9.st48 A_189_o A_189_n (by omega)
                  have MF_8A_189 : k = ai A_189 29 (F_8 18).toInt := by rw [ai_fr (A_189_o 29 (by decide))] <;> exact MF_8A_9
                  have ZF_8A_189 : ai A_189 50 x1.toInt = 1 := by rw [ai_fr (A_189_o 50 (by decide))]; exact ZF_8A_9
                  have XF_8A_189 : ∀ i, 42 ≤ i → ai A_189 48 i = ai A 48 i := fun i hi => (A_189_n i (by omega) (by omega)).trans (XF_8A_9 i hi)
                  have SF_8A_189 : ∀ s, SVm F A (ai A 48 (42 + x1.toInt)) s → SVm F_8 A_189 (ai A 48 (42 + x1.toInt)) s := fun s q => (SF_8A_9 s q).fr rfl (A_189_o 19 (by decide)) (A_189_o 22 (by decide))
                  refine ok_st (j := 53) hA_189 (by omega) (by omega) (trivial) ?_
                  intro A_190 hA_190 A_190_o A_190_s A_190_n
                  have VF_8A_190 : VMs F_8 A_190 := VF_8A_189.fr rfl (fun q h1 h2 => A_190_o q (by omega))
                  have NF_8A_190 : NVm F_8 A_190 k := NF_8A_189.st53 A_190_o A_190_n (fun _ => by rw [ZF_8A_189]; decide)
                  have MF_8A_190 : k = ai A_190 29 (F_8 18).toInt := by rw [ai_fr (A_190_o 29 (by decide))] <;> exact MF_8A_189
                  have ZF_8A_190 : ai A_190 50 x1.toInt = 1 := by rw [ai_fr (A_190_o 50 (by decide))]; exact ZF_8A_189
                  have XF_8A_190 : ∀ i, 42 ≤ i → ai A_190 48 i = ai A 48 i := by rw [ai_fr (A_190_o 48 (by decide))]; exact XF_8A_189
                  have SF_8A_190 : ∀ s, SVm F A (ai A 48 (42 + x1.toInt)) s → SVm F_8 A_190 (ai A 48 (42 + x1.toInt)) s := fun s q => (SF_8A_189 s q).fr rfl (A_190_o 19 (by decide)) (A_190_o 22 (by decide))
                  have s2 : SVm F_8 A_190 (ai A_190 48 (42 + x1.toInt)) (ai A_190 53 x1.toInt) := by rw [A_190_s, XF_8A_190 (42 + x1.toInt) (by omega)]; exact SF_8A_190 _ ⟨g1, g2, v_7_p.1, v_7_p.2⟩
                  have l_191 : (2 : Int32).toInt = 2 := by decide
                  refine ok_st (j := 50) hA_190 (by omega) (by omega) (trivial) ?_
                  intro A_192 hA_192 A_192_o A_192_s A_192_n
                  have VF_8A_192 : VMs F_8 A_192 := VF_8A_190.fr rfl (fun q h1 h2 => A_192_o q (by omega))
                  have NF_8A_192 : NVm F_8 A_192 k := NF_8A_190.st50 A_192_o A_192_s A_192_n (fun _ e => by omega) (fun _ _ => s2)
                  have MF_8A_192 : k = ai A_192 29 (F_8 18).toInt := by rw [ai_fr (A_192_o 29 (by decide))] <;> exact MF_8A_190
                  have XF_8A_192 : ∀ i, 42 ≤ i → ai A_192 48 i = ai A 48 i := by rw [ai_fr (A_192_o 48 (by decide))]; exact XF_8A_190
                  have SF_8A_192 : ∀ s, SVm F A (ai A 48 (42 + x1.toInt)) s → SVm F_8 A_192 (ai A 48 (42 + x1.toInt)) s := fun s q => (SF_8A_190 s q).fr rfl (A_192_o 19 (by decide)) (A_192_o 22 (by decide))
                  refine ok_call (s_d_stepAt hF_8 (by omega) (by omega)) ?_
                  intro v_193 v_193_p
                  have v_193_p : v_193.toInt = 6 * (6 * (F_8 18).toInt + v_3.toInt) + v_7.toInt := v_193_p
                  refine ok_ld (j := 23) hA_192 (by omega) (by omega) ?_
                  intro v_194 v_194_e v_194_r
                  refine ok_st (j := 52) hA_192 (by omega) (by omega) (trivial) ?_
                  intro A_195 hA_195 A_195_o A_195_s A_195_n
                  have VF_8A_195 : VMs F_8 A_195 := VF_8A_192.fr rfl (fun q h1 h2 => A_195_o q (by omega))
                  have NF_8A_195 : NVm F_8 A_195 k := NF_8A_192.sto A_195_o (by decide)
                  have MF_8A_195 : k = ai A_195 29 (F_8 18).toInt := by rw [ai_fr (A_195_o 29 (by decide))] <;> exact MF_8A_192
                  have XF_8A_195 : ∀ i, 42 ≤ i → ai A_195 48 i = ai A 48 i := by rw [ai_fr (A_195_o 48 (by decide))]; exact XF_8A_192
                  have SF_8A_195 : ∀ s, SVm F A (ai A 48 (42 + x1.toInt)) s → SVm F_8 A_195 (ai A 48 (42 + x1.toInt)) s := fun s q => (SF_8A_192 s q).fr rfl (A_195_o 19 (by decide)) (A_195_o 22 (by decide))
                  refine ok_some ?_
                  refine ⟨hF_8, hA_195, (fun q hq => (F_8_o q hq)), (fun q hq => (((((A_195_o q (fun e => hq (by rw [e]; decide))).trans (A_192_o q (fun e => hq (by rw [e]; decide)))).trans (A_190_o q (fun e => hq (by rw [e]; decide)))).trans (A_189_o q (fun e => hq (by rw [e]; decide)))).trans (A_9_o q (fun e => hq ((by decide : ∀ x, x ∈ ([45, 46] : List Nat) → x ∈ ([45, 46, 48, 50, 52, 53, 56] : List Nat)) q e))))), ?_⟩
                  exact NF_8A_195
                · rw [i_neq] at c_187
                  refine ok_some ?_
                  refine ⟨hF_8, hA_9, (fun q hq => (F_8_o q hq)), (fun q hq => (A_9_o q (fun e => hq ((by decide : ∀ x, x ∈ ([45, 46] : List Nat) → x ∈ ([45, 46, 48, 50, 52, 53, 56] : List Nat)) q e)))), ?_⟩
                  exact NF_8A_9
            · rw [i_neq] at c_176
              unfold d_begins1_124
              refine ok_call (s_d_lies hF_8 hA_9 (by omega) (NF_8A_9) (by omega)) ?_
              rintro ⟨u_196, F_197, A_198, J_199⟩ ⟨hF_197, hA_198, F_197_o, A_198_o, u_196_p⟩
              dsimp only at hF_197 hA_198 F_197_o A_198_o u_196_p ⊢
              have u_196_p : NVm F_197 A_198 k := u_196_p
              have r_200 : 0 ≤ (F_197 18).toInt ∧ (F_197 18).toInt ≤ 1 := hF_197 18
              have f_201 : (F_197 18).toInt = (F_8 18).toInt := congrArg Int32.toInt (F_197_o 18 (by decide))
              have VF_197A_198 : VMs F_197 A_198 := VF_8A_9.fr (F_197_o 18 (by decide)) (fun q h1 h2 => A_198_o q (by intro e; simp at e <;> omega))
              have NF_197A_198 : NVm F_197 A_198 k := u_196_p
              have MF_197A_198 : k = ai A_198 29 (F_197 18).toInt := by rw [ai_fr (A_198_o 29 (by decide)), F_197_o 18 (by decide)] <;> exact MF_8A_9
              have SF_197A_198 : ∀ s, SVm F A (ai A 48 (42 + x1.toInt)) s → SVm F_197 A_198 (ai A 48 (42 + x1.toInt)) s := fun s q => (SF_8A_9 s q).fr (F_197_o 18 (by decide)) (A_198_o 19 (by decide)) (A_198_o 22 (by decide))
              refine ok_some ?_
              refine ⟨hF_197, hA_198, (fun q hq => ((F_197_o q (fun e => hq ((by decide : ∀ x, x ∈ ([] : List Nat) → x ∈ ([63] : List Nat)) q e))).trans (F_8_o q hq))), (fun q hq => ((A_198_o q (fun e => hq ((by decide : ∀ x, x ∈ ([48, 50] : List Nat) → x ∈ ([45, 46, 48, 50, 52, 53, 56] : List Nat)) q e))).trans (A_9_o q (fun e => hq ((by decide : ∀ x, x ∈ ([45, 46] : List Nat) → x ∈ ([45, 46, 48, 50, 52, 53, 56] : List Nat)) q e))))), ?_⟩
              exact NF_197A_198
  · rw [i_neq] at c_6
    refine ok_st (j := 56) hA (by omega) (by omega) (show 0 ≤ (vp_nar .boolean 1).toInt ∧ (vp_nar .boolean 1).toInt ≤ 1 by decide) ?_
    intro A_202 hA_202 A_202_o A_202_s A_202_n
    have VFA_202 : VMs F A_202 := VFA.fr rfl (fun q h1 h2 => A_202_o q (by omega))
    have NFA_202 : NVm F A_202 k := NFA.sto A_202_o (by decide)
    have MFA_202 : k = ai A_202 29 (F 18).toInt := by rw [ai_fr (A_202_o 29 (by decide))] <;> exact MFA
    have ZFA_202 : ai A_202 50 x1.toInt = 1 := by rw [ai_fr (A_202_o 50 (by decide))]; exact ZFA
    have XFA_202 : ∀ i, 42 ≤ i → ai A_202 48 i = ai A 48 i := by rw [ai_fr (A_202_o 48 (by decide))]; exact XFA
    have SFA_202 : ∀ s, SVm F A (ai A 48 (42 + x1.toInt)) s → SVm F A_202 (ai A 48 (42 + x1.toInt)) s := fun s q => (SFA s q).fr rfl (A_202_o 19 (by decide)) (A_202_o 22 (by decide))
    refine ok_call (s_d_lies hF hA_202 (by omega) (NFA_202) (by omega)) ?_
    rintro ⟨u_203, F_204, A_205, J_206⟩ ⟨hF_204, hA_205, F_204_o, A_205_o, u_203_p⟩
    dsimp only at hF_204 hA_205 F_204_o A_205_o u_203_p ⊢
    have u_203_p : NVm F_204 A_205 k := u_203_p
    have r_207 : 0 ≤ (F_204 18).toInt ∧ (F_204 18).toInt ≤ 1 := hF_204 18
    have r_208 : 0 ≤ (F 18).toInt ∧ (F 18).toInt ≤ 1 := hF 18
    have f_209 : (F_204 18).toInt = (F 18).toInt := congrArg Int32.toInt (F_204_o 18 (by decide))
    have VF_204A_205 : VMs F_204 A_205 := VFA_202.fr (F_204_o 18 (by decide)) (fun q h1 h2 => A_205_o q (by intro e; simp at e <;> omega))
    have NF_204A_205 : NVm F_204 A_205 k := u_203_p
    have MF_204A_205 : k = ai A_205 29 (F_204 18).toInt := by rw [ai_fr (A_205_o 29 (by decide)), F_204_o 18 (by decide)] <;> exact MFA_202
    have SF_204A_205 : ∀ s, SVm F A (ai A 48 (42 + x1.toInt)) s → SVm F_204 A_205 (ai A 48 (42 + x1.toInt)) s := fun s q => (SFA_202 s q).fr (F_204_o 18 (by decide)) (A_205_o 19 (by decide)) (A_205_o 22 (by decide))
    refine ok_some ?_
    refine ⟨hF_204, hA_205, (fun q hq => (F_204_o q (fun e => hq ((by decide : ∀ x, x ∈ ([] : List Nat) → x ∈ ([63] : List Nat)) q e)))), (fun q hq => ((A_205_o q (fun e => hq ((by decide : ∀ x, x ∈ ([48, 50] : List Nat) → x ∈ ([45, 46, 48, 50, 52, 53, 56] : List Nat)) q e))).trans (A_202_o q (fun e => hq (by rw [e]; decide))))), ?_⟩
    exact NF_204A_205
