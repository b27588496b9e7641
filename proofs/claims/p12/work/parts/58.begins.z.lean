section Qz48
set_option maxRecDepth 10000 in
theorem s_d_begins1 {n : Nat} {k : Int} {F : Nat → Int32} {A : Nat → Nat → Int32} {J : Nat → Nat → Int64} {x1 : Int32} {x2 : Int32} (hF : IFm F) (hA : IAm A) (hn : 600 ≤ n) (hk : k ≤ 6) (hx : x1.toInt < k) (VFA : VMs F A) (MFA : k = ai A 29 (F 18).toInt) (NFA : NVm F A k) (h1 : ai A 50 x1.toInt = 1) (rx1 : 0 ≤ x1.toInt ∧ x1.toInt ≤ 5) : ok (d_begins1 n F A J x1 x2) (fun r => IFm r.2.1 ∧ IAm r.2.2.1 ∧ (∀ q, q ∉ ([63] : List Nat) → r.2.1 q = F q) ∧ (∀ q, q ∉ ([45, 46, 48, 50, 52, 53, 56] : List Nat) → r.2.2.1 q = A q) ∧ NVm r.2.1 r.2.2.1 k) := by
  have r18 : 0 ≤ (F 18).toInt ∧ (F 18).toInt ≤ 1 := hF 18
  have ZFA := h1
  have XFA : ∀ i, 42 ≤ i → ai A 48 i = ai A 48 i := fun _ _ => rfl
  have SFA : ∀ s, SVm F A (ai A 48 (42 + x1.toInt)) s → SVm F A (ai A 48 (42 + x1.toInt)) s := fun _ q => q
  have hp := (NFA x1.toInt (by omega) (by omega)).2.1 h1
  have hs := (NFA x1.toInt (by omega) (by omega)).1 hp
  obtain ⟨g1, g2, g3, g4⟩ := id hs
  have t19 : 0 ≤ ai A 19 (F 18).toInt ∧ ai A 19 (F 18).toInt ≤ 6 := hA 19 _ (by omega)
  have t22 : 0 ≤ ai A 22 (6 * (F 18).toInt + ai A 48 (42 + x1.toInt)) ∧ ai A 22 (6 * (F 18).toInt + ai A 48 (42 + x1.toInt)) ≤ 6 := hA 22 _ (by omega)
  unfold d_begins1
  have l_1 : (42 : Int32).toInt = 42 := by decide
  have e_2 := i_add (x := 42) (y := x1) (by omega) (by omega)
  refine ok_ld (j := 48) hA (by omega) (by omega) ?_
  intro v_3 v_3_e v_3_r
  have w1 : v_3.toInt = ai A 48 (42 + x1.toInt) := by rw [v_3_e]; congr 1 <;> omega
  refine ok_call (s_d_isEnded hF hA (by omega) (by omega)) ?_
  intro v_4 v_4_p
  have v_4_p : v_4.toInt = 0 ∨ v_4.toInt = 1 := v_4_p
  have l_5 : (0 : Int32).toInt = 0 := by decide
  refine ok_cond (fun c_6 => ?_) (fun c_6 => ?_)
  · rw [i_eq] at c_6
    refine ok_call (s_d_tells hF hA (by omega) (VFA) (by omega) (by assumption) (by omega)) ?_
    rintro ⟨v_7, F_8, A_9, J_10⟩ ⟨hF_8, hA_9, F_8_o, A_9_o, v_7_p⟩
    dsimp only at hF_8 hA_9 F_8_o A_9_o v_7_p ⊢
    have v_7_p : 0 ≤ v_7.toInt ∧ v_7.toInt < ai A 22 (6 * (F 18).toInt + ai A 48 (42 + x1.toInt)) := v_7_p
    have r_11 : 0 ≤ (F_8 18).toInt ∧ (F_8 18).toInt ≤ 1 := hF_8 18
    have r_12 : 0 ≤ (F 18).toInt ∧ (F 18).toInt ≤ 1 := hF 18
    have f_13 : (F_8 18).toInt = (F 18).toInt := congrArg Int32.toInt (F_8_o 18 (by decide))
    have VF_8A_9 : VMs F_8 A_9 := VFA.fr (F_8_o 18 (by decide)) (fun q h1 h2 => A_9_o q (by intro e; simp at e <;> omega))
    have NF_8A_9 : NVm F_8 A_9 k := NFA.cg (F_8_o 18 (by decide)) (A_9_o 19 (by decide)) (A_9_o 22 (by decide)) (fun m _ _ => by rw [ai_fr (A_9_o 48 (by decide))]) (A_9_o 50 (by decide)) (A_9_o 53 (by decide)) (A_9_o 54 (by decide))
    have MF_8A_9 : k = ai A_9 29 (F_8 18).toInt := by rw [ai_fr (A_9_o 29 (by decide)), F_8_o 18 (by decide)] <;> exact MFA
    have ZF_8A_9 : ai A_9 50 x1.toInt = 1 := by rw [ai_fr (A_9_o 50 (by decide))]; exact ZFA
    have XF_8A_9 : ∀ i, 42 ≤ i → ai A_9 48 i = ai A 48 i := by rw [ai_fr (A_9_o 48 (by decide))]; exact XFA
    have SF_8A_9 : ∀ s, SVm F A (ai A 48 (42 + x1.toInt)) s → SVm F_8 A_9 (ai A 48 (42 + x1.toInt)) s := fun s q => (SFA s q).fr (F_8_o 18 (by decide)) (A_9_o 19 (by decide)) (A_9_o 22 (by decide))
    refine ok_call (s_d_stepAt hF_8 (by omega) (by omega)) ?_
    intro v_14 v_14_p
    have v_14_p : v_14.toInt = 6 * (6 * (F_8 18).toInt + v_3.toInt) + v_7.toInt := v_14_p
    refine ok_ld (j := 27) hA_9 (by omega) (by omega) ?_
    intro v_15 v_15_e v_15_r
    have v_15_r : -1 ≤ v_15.toInt ∧ v_15.toInt ≤ 5 := v_15_r
    refine ok_cond (fun c_16 => ?_) (fun c_16 => ?_)
    · rw [i_lt] at c_16
      unfold d_begins1_76
      unfold d_begins1_81
      refine ok_ld (j := 48) hA_9 (by omega) (by omega) ?_
      intro v_17 v_17_e v_17_r
      refine ok_cond (fun c_18 => ?_) (fun c_18 => ?_)
      · rw [i_eq] at c_18
        unfold d_begins1_124
        refine ok_call (s_d_lies hF_8 hA_9 (by omega) (NF_8A_9) (by omega)) ?_
        rintro ⟨u_19, F_20, A_21, J_22⟩ ⟨hF_20, hA_21, F_20_o, A_21_o, u_19_p⟩
        dsimp only at hF_20 hA_21 F_20_o A_21_o u_19_p ⊢
        have u_19_p : NVm F_20 A_21 k := u_19_p
        have r_23 : 0 ≤ (F_20 18).toInt ∧ (F_20 18).toInt ≤ 1 := hF_20 18
        have f_24 : (F_20 18).toInt = (F_8 18).toInt := congrArg Int32.toInt (F_20_o 18 (by decide))
        have VF_20A_21 : VMs F_20 A_21 := VF_8A_9.fr (F_20_o 18 (by decide)) (fun q h1 h2 => A_21_o q (by intro e; simp at e <;> omega))
        have NF_20A_21 : NVm F_20 A_21 k := u_19_p
        have MF_20A_21 : k = ai A_21 29 (F_20 18).toInt := by rw [ai_fr (A_21_o 29 (by decide)), F_20_o 18 (by decide)] <;> exact MF_8A_9
        have SF_20A_21 : ∀ s, SVm F A (ai A 48 (42 + x1.toInt)) s → SVm F_20 A_21 (ai A 48 (42 + x1.toInt)) s := fun s q => (SF_8A_9 s q).fr (F_20_o 18 (by decide)) (A_21_o 19 (by decide)) (A_21_o 22 (by decide))
        refine ok_some ?_
        refine ⟨hF_20, hA_21, (fun q hq => ((F_20_o q (fun e => hq ((by decide : ∀ x, x ∈ ([] : List Nat) → x ∈ ([63] : List Nat)) q e))).trans (F_8_o q hq))), (fun q hq => ((A_21_o q (fun e => hq ((by decide : ∀ x, x ∈ ([48, 50] : List Nat) → x ∈ ([45, 46, 48, 50, 52, 53, 56] : List Nat)) q e))).trans (A_9_o q (fun e => hq ((by decide : ∀ x, x ∈ ([45, 46] : List Nat) → x ∈ ([45, 46, 48, 50, 52, 53, 56] : List Nat)) q e))))), ?_⟩
        exact NF_20A_21
      · rw [i_neq] at c_18
        have l_25 : (1 : Int32).toInt = 1 := by decide
        refine ok_cond (fun c_26 => ?_) (fun c_26 => ?_)
        · rw [i_ne] at c_26
          unfold d_begins1_131
          refine ok_cond (fun c_27 => ?_) (fun c_27 => ?_)
          · rw [i_ne] at c_27
            unfold d_begins1_147
            refine ok_ld (j := 48) hA_9 (by omega) (by omega) ?_
            intro v_28 v_28_e v_28_r
            refine ok_st (j := 48) hA_9 (by omega) (by omega) (trivial) ?_
            intro A_29 hA_29 A_29_o A_29_s A_29_n
            have VF_8A_29 : VMs F_8 A_29 := VF_8A_9.fr rfl (fun q h1 h2 => A_29_o q (by omega))
            have NF_8A_29 : NVm F_8 A_29 k := NF_8A_9.st48 A_29_o A_29_n (by omega)
            have MF_8A_29 : k = ai A_29 29 (F_8 18).toInt := by rw [ai_fr (A_29_o 29 (by decide))] <;> exact MF_8A_9
            have ZF_8A_29 : ai A_29 50 x1.toInt = 1 := by rw [ai_fr (A_29_o 50 (by decide))]; exact ZF_8A_9
            have XF_8A_29 : ∀ i, 42 ≤ i → ai A_29 48 i = ai A 48 i := fun i hi => (A_29_n i (by omega) (by omega)).trans (XF_8A_9 i hi)
            have SF_8A_29 : ∀ s, SVm F A (ai A 48 (42 + x1.toInt)) s → SVm F_8 A_29 (ai A 48 (42 + x1.toInt)) s := fun s q => (SF_8A_9 s q).fr rfl (A_29_o 19 (by decide)) (A_29_o 22 (by decide))
            refine ok_st (j := 53) hA_29 (by omega) (by omega) (trivial) ?_
            intro A_30 hA_30 A_30_o A_30_s A_30_n
            have VF_8A_30 : VMs F_8 A_30 := VF_8A_29.fr rfl (fun q h1 h2 => A_30_o q (by omega))
            have NF_8A_30 : NVm F_8 A_30 k := NF_8A_29.st53 A_30_o A_30_n (fun _ => by rw [ZF_8A_29]; decide)
            have MF_8A_30 : k = ai A_30 29 (F_8 18).toInt := by rw [ai_fr (A_30_o 29 (by decide))] <;> exact MF_8A_29
            have ZF_8A_30 : ai A_30 50 x1.toInt = 1 := by rw [ai_fr (A_30_o 50 (by decide))]; exact ZF_8A_29
            have XF_8A_30 : ∀ i, 42 ≤ i → ai A_30 48 i = ai A 48 i := by rw [ai_fr (A_30_o 48 (by decide))]; exact XF_8A_29
            have SF_8A_30 : ∀ s, SVm F A (ai A 48 (42 + x1.toInt)) s → SVm F_8 A_30 (ai A 48 (42 + x1.toInt)) s := fun s q => (SF_8A_29 s q).fr rfl (A_30_o 19 (by decide)) (A_30_o 22 (by decide))
            have s2 : SVm F_8 A_30 (ai A_30 48 (42 + x1.toInt)) (ai A_30 53 x1.toInt) := by rw [A_30_s, XF_8A_30 (42 + x1.toInt) (by omega)]; exact SF_8A_30 _ ⟨g1, g2, v_7_p.1, v_7_p.2⟩
            have l_31 : (2 : Int32).toInt = 2 := by decide
            refine ok_st (j := 50) hA_30 (by omega) (by omega) (trivial) ?_
            intro A_32 hA_32 A_32_o A_32_s A_32_n
            have VF_8A_32 : VMs F_8 A_32 := VF_8A_30.fr rfl (fun q h1 h2 => A_32_o q (by omega))
            have NF_8A_32 : NVm F_8 A_32 k := NF_8A_30.st50 A_32_o A_32_s A_32_n (fun _ e => by omega) (fun _ _ => s2)
            have MF_8A_32 : k = ai A_32 29 (F_8 18).toInt := by rw [ai_fr (A_32_o 29 (by decide))] <;> exact MF_8A_30
            have XF_8A_32 : ∀ i, 42 ≤ i → ai A_32 48 i = ai A 48 i := by rw [ai_fr (A_32_o 48 (by decide))]; exact XF_8A_30
            have SF_8A_32 : ∀ s, SVm F A (ai A 48 (42 + x1.toInt)) s → SVm F_8 A_32 (ai A 48 (42 + x1.toInt)) s := fun s q => (SF_8A_30 s q).fr rfl (A_32_o 19 (by decide)) (A_32_o 22 (by decide))
            refine ok_call (s_d_stepAt hF_8 (by omega) (by omega)) ?_
            intro v_33 v_33_p
            have v_33_p : v_33.toInt = 6 * (6 * (F_8 18).toInt + v_3.toInt) + v_7.toInt := v_33_p
            refine ok_ld (j := 23) hA_32 (by omega) (by omega) ?_
            intro v_34 v_34_e v_34_r
            refine ok_st (j := 52) hA_32 (by omega) (by omega) (trivial) ?_
            intro A_35 hA_35 A_35_o A_35_s A_35_n
            have VF_8A_35 : VMs F_8 A_35 := VF_8A_32.fr rfl (fun q h1 h2 => A_35_o q (by omega))
            have NF_8A_35 : NVm F_8 A_35 k := NF_8A_32.sto A_35_o (by decide)
            have MF_8A_35 : k = ai A_35 29 (F_8 18).toInt := by rw [ai_fr (A_35_o 29 (by decide))] <;> exact MF_8A_32
            have XF_8A_35 : ∀ i, 42 ≤ i → ai A_35 48 i = ai A 48 i := by rw [ai_fr (A_35_o 48 (by decide))]; exact XF_8A_32
            have SF_8A_35 : ∀ s, SVm F A (ai A 48 (42 + x1.toInt)) s → SVm F_8 A_35 (ai A 48 (42 + x1.toInt)) s := fun s q => (SF_8A_32 s q).fr rfl (A_35_o 19 (by decide)) (A_35_o 22 (by decide))
            refine ok_some ?_
            refine ⟨hF_8, hA_35, (fun q hq => (F_8_o q hq)), (fun q hq => (((((A_35_o q (fun e => hq (by rw [e]; decide))).trans (A_32_o q (fun e => hq (by rw [e]; decide)))).trans (A_30_o q (fun e => hq (by rw [e]; decide)))).trans (A_29_o q (fun e => hq (by rw [e]; decide)))).trans (A_9_o q (fun e => hq ((by decide : ∀ x, x ∈ ([45, 46] : List Nat) → x ∈ ([45, 46, 48, 50, 52, 53, 56] : List Nat)) q e))))), ?_⟩
            exact NF_8A_35
          · rw [i_nne] at c_27
            refine ok_call (s_d_isInUse hF_8 hA_9 (by omega) (by omega) (by assumption) (NF_8A_9)) ?_
            intro v_36 v_36_p
            have v_36_p : v_36.toInt = 0 ∨ v_36.toInt = 1 := v_36_p
            refine ok_cond (fun c_37 => ?_) (fun c_37 => ?_)
            · rw [i_eq] at c_37
              unfold d_begins1_147
              refine ok_ld (j := 48) hA_9 (by omega) (by omega) ?_
              intro v_38 v_38_e v_38_r
              refine ok_st (j := 48) hA_9 (by omega) (by omega) (trivial) ?_
              intro A_39 hA_39 A_39_o A_39_s A_39_n
              have VF_8A_39 : VMs F_8 A_39 := VF_8A_9.fr rfl (fun q h1 h2 => A_39_o q (by omega))
              have NF_8A_39 : NVm F_8 A_39 k := NF_8A_9.st48 A_39_o A_39_n (by omega)
              have MF_8A_39 : k = ai A_39 29 (F_8 18).toInt := by rw [ai_fr (A_39_o 29 (by decide))] <;> exact MF_8A_9
              have ZF_8A_39 : ai A_39 50 x1.toInt = 1 := by rw [ai_fr (A_39_o 50 (by decide))]; exact ZF_8A_9
              have XF_8A_39 : ∀ i, 42 ≤ i → ai A_39 48 i = ai A 48 i := fun i hi => (A_39_n i (by omega) (by omega)).trans (XF_8A_9 i hi)
              have SF_8A_39 : ∀ s, SVm F A (ai A 48 (42 + x1.toInt)) s → SVm F_8 A_39 (ai A 48 (42 + x1.toInt)) s := fun s q => (SF_8A_9 s q).fr rfl (A_39_o 19 (by decide)) (A_39_o 22 (by decide))
              refine ok_st (j := 53) hA_39 (by omega) (by omega) (trivial) ?_
              intro A_40 hA_40 A_40_o A_40_s A_40_n
              have VF_8A_40 : VMs F_8 A_40 := VF_8A_39.fr rfl (fun q h1 h2 => A_40_o q (by omega))
              have NF_8A_40 : NVm F_8 A_40 k := NF_8A_39.st53 A_40_o A_40_n (fun _ => by rw [ZF_8A_39]; decide)
              have MF_8A_40 : k = ai A_40 29 (F_8 18).toInt := by rw [ai_fr (A_40_o 29 (by decide))] <;> exact MF_8A_39
              have ZF_8A_40 : ai A_40 50 x1.toInt = 1 := by rw [ai_fr (A_40_o 50 (by decide))]; exact ZF_8A_39
              have XF_8A_40 : ∀ i, 42 ≤ i → ai A_40 48 i = ai A 48 i := by rw [ai_fr (A_40_o 48 (by decide))]; exact XF_8A_39
              have SF_8A_40 : ∀ s, SVm F A (ai A 48 (42 + x1.toInt)) s → SVm F_8 A_40 (ai A 48 (42 + x1.toInt)) s := fun s q => (SF_8A_39 s q).fr rfl (A_40_o 19 (by decide)) (A_40_o 22 (by decide))
              have s2 : SVm F_8 A_40 (ai A_40 48 (42 + x1.toInt)) (ai A_40 53 x1.toInt) := by rw [A_40_s, XF_8A_40 (42 + x1.toInt) (by omega)]; exact SF_8A_40 _ ⟨g1, g2, v_7_p.1, v_7_p.2⟩
              have l_41 : (2 : Int32).toInt = 2 := by decide
              refine ok_st (j := 50) hA_40 (by omega) (by omega) (trivial) ?_
              intro A_42 hA_42 A_42_o A_42_s A_42_n
              have VF_8A_42 : VMs F_8 A_42 := VF_8A_40.fr rfl (fun q h1 h2 => A_42_o q (by omega))
              have NF_8A_42 : NVm F_8 A_42 k := NF_8A_40.st50 A_42_o A_42_s A_42_n (fun _ e => by omega) (fun _ _ => s2)
              have MF_8A_42 : k = ai A_42 29 (F_8 18).toInt := by rw [ai_fr (A_42_o 29 (by decide))] <;> exact MF_8A_40
              have XF_8A_42 : ∀ i, 42 ≤ i → ai A_42 48 i = ai A 48 i := by rw [ai_fr (A_42_o 48 (by decide))]; exact XF_8A_40
              have SF_8A_42 : ∀ s, SVm F A (ai A 48 (42 + x1.toInt)) s → SVm F_8 A_42 (ai A 48 (42 + x1.toInt)) s := fun s q => (SF_8A_40 s q).fr rfl (A_42_o 19 (by decide)) (A_42_o 22 (by decide))
              refine ok_call (s_d_stepAt hF_8 (by omega) (by omega)) ?_
              intro v_43 v_43_p
              have v_43_p : v_43.toInt = 6 * (6 * (F_8 18).toInt + v_3.toInt) + v_7.toInt := v_43_p
              refine ok_ld (j := 23) hA_42 (by omega) (by omega) ?_
              intro v_44 v_44_e v_44_r
              refine ok_st (j := 52) hA_42 (by omega) (by omega) (trivial) ?_
              intro A_45 hA_45 A_45_o A_45_s A_45_n
              have VF_8A_45 : VMs F_8 A_45 := VF_8A_42.fr rfl (fun q h1 h2 => A_45_o q (by omega))
              have NF_8A_45 : NVm F_8 A_45 k := NF_8A_42.sto A_45_o (by decide)
              have MF_8A_45 : k = ai A_45 29 (F_8 18).toInt := by rw [ai_fr (A_45_o 29 (by decide))] <;> exact MF_8A_42
              have XF_8A_45 : ∀ i, 42 ≤ i → ai A_45 48 i = ai A 48 i := by rw [ai_fr (A_45_o 48 (by decide))]; exact XF_8A_42
              have SF_8A_45 : ∀ s, SVm F A (ai A 48 (42 + x1.toInt)) s → SVm F_8 A_45 (ai A 48 (42 + x1.toInt)) s := fun s q => (SF_8A_42 s q).fr rfl (A_45_o 19 (by decide)) (A_45_o 22 (by decide))
              refine ok_some ?_
              refine ⟨hF_8, hA_45, (fun q hq => (F_8_o q hq)), (fun q hq => (((((A_45_o q (fun e => hq (by rw [e]; decide))).trans (A_42_o q (fun e => hq (by rw [e]; decide)))).trans (A_40_o q (fun e => hq (by rw [e]; decide)))).trans (A_39_o q (fun e => hq (by rw [e]; decide)))).trans (A_9_o q (fun e => hq ((by decide : ∀ x, x ∈ ([45, 46] : List Nat) → x ∈ ([45, 46, 48, 50, 52, 53, 56] : List Nat)) q e))))), ?_⟩
              exact NF_8A_45
            · rw [i_neq] at c_37
              refine ok_some ?_
              refine ⟨hF_8, hA_9, (fun q hq => (F_8_o q hq)), (fun q hq => (A_9_o q (fun e => hq ((by decide : ∀ x, x ∈ ([45, 46] : List Nat) → x ∈ ([45, 46, 48, 50, 52, 53, 56] : List Nat)) q e)))), ?_⟩
              exact NF_8A_9
        · rw [i_nne] at c_26
          have l_46 : (72 : Int32).toInt = 72 := by decide
          have e_47 := i_add (x := 72) (y := v_15) (by omega) (by omega)
          refine ok_ld (j := 48) hA_9 (by omega) (by omega) ?_
          intro v_48 v_48_e v_48_r
          have l_49 : (6 : Int32).toInt = 6 := by decide
          have e_50 := i_mulL (c := 6) (k := 6) (x := (F_8 18)) (by decide) (by omega) (by omega)
          have e_51 := i_add (x := (6 * (F_8 18))) (y := v_3) (by omega) (by omega)
          refine ok_ld (j := 20) hA_9 (by omega) (by omega) ?_
          intro v_52 v_52_e v_52_r
          have v_52_r : -1 ≤ v_52.toInt ∧ v_52.toInt ≤ 7 := v_52_r
          refine ok_cond (fun c_53 => ?_) (fun c_53 => ?_)
          · rw [i_eq] at c_53
            unfold d_begins1_131
            refine ok_cond (fun c_54 => ?_) (fun c_54 => ?_)
            · rw [i_ne] at c_54
              unfold d_begins1_147
              refine ok_ld (j := 48) hA_9 (by omega) (by omega) ?_
              intro v_55 v_55_e v_55_r
              refine ok_st (j := 48) hA_9 (by omega) (by omega) (trivial) ?_
              intro A_56 hA_56 A_56_o A_56_s A_56_n
              have VF_8A_56 : VMs F_8 A_56 := VF_8A_9.fr rfl (fun q h1 h2 => A_56_o q (by omega))
              have NF_8A_56 : NVm F_8 A_56 k := NF_8A_9.st48 A_56_o A_56_n (by omega)
              have MF_8A_56 : k = ai A_56 29 (F_8 18).toInt := by rw [ai_fr (A_56_o 29 (by decide))] <;> exact MF_8A_9
              have ZF_8A_56 : ai A_56 50 x1.toInt = 1 := by rw [ai_fr (A_56_o 50 (by decide))]; exact ZF_8A_9
              have XF_8A_56 : ∀ i, 42 ≤ i → ai A_56 48 i = ai A 48 i := fun i hi => (A_56_n i (by omega) (by omega)).trans (XF_8A_9 i hi)
              have SF_8A_56 : ∀ s, SVm F A (ai A 48 (42 + x1.toInt)) s → SVm F_8 A_56 (ai A 48 (42 + x1.toInt)) s := fun s q => (SF_8A_9 s q).fr rfl (A_56_o 19 (by decide)) (A_56_o 22 (by decide))
              refine ok_st (j := 53) hA_56 (by omega) (by omega) (trivial) ?_
              intro A_57 hA_57 A_57_o A_57_s A_57_n
              have VF_8A_57 : VMs F_8 A_57 := VF_8A_56.fr rfl (fun q h1 h2 => A_57_o q (by omega))
              have NF_8A_57 : NVm F_8 A_57 k := NF_8A_56.st53 A_57_o A_57_n (fun _ => by rw [ZF_8A_56]; decide)
              have MF_8A_57 : k = ai A_57 29 (F_8 18).toInt := by rw [ai_fr (A_57_o 29 (by decide))] <;> exact MF_8A_56
              have ZF_8A_57 : ai A_57 50 x1.toInt = 1 := by rw [ai_fr (A_57_o 50 (by decide))]; exact ZF_8A_56
              have XF_8A_57 : ∀ i, 42 ≤ i → ai A_57 48 i = ai A 48 i := by rw [ai_fr (A_57_o 48 (by decide))]; exact XF_8A_56
              have SF_8A_57 : ∀ s, SVm F A (ai A 48 (42 + x1.toInt)) s → SVm F_8 A_57 (ai A 48 (42 + x1.toInt)) s := fun s q => (SF_8A_56 s q).fr rfl (A_57_o 19 (by decide)) (A_57_o 22 (by decide))
              have s2 : SVm F_8 A_57 (ai A_57 48 (42 + x1.toInt)) (ai A_57 53 x1.toInt) := by rw [A_57_s, XF_8A_57 (42 + x1.toInt) (by omega)]; exact SF_8A_57 _ ⟨g1, g2, v_7_p.1, v_7_p.2⟩
              have l_58 : (2 : Int32).toInt = 2 := by decide
              refine ok_st (j := 50) hA_57 (by omega) (by omega) (trivial) ?_
              intro A_59 hA_59 A_59_o A_59_s A_59_n
              have VF_8A_59 : VMs F_8 A_59 := VF_8A_57.fr rfl (fun q h1 h2 => A_59_o q (by omega))
              have NF_8A_59 : NVm F_8 A_59 k := NF_8A_57.st50 A_59_o A_59_s A_59_n (fun _ e => by omega) (fun _ _ => s2)
              have MF_8A_59 : k = ai A_59 29 (F_8 18).toInt := by rw [ai_fr (A_59_o 29 (by decide))] <;> exact MF_8A_57
              have XF_8A_59 : ∀ i, 42 ≤ i → ai A_59 48 i = ai A 48 i := by rw [ai_fr (A_59_o 48 (by decide))]; exact XF_8A_57
              have SF_8A_59 : ∀ s, SVm F A (ai A 48 (42 + x1.toInt)) s → SVm F_8 A_59 (ai A 48 (42 + x1.toInt)) s := fun s q => (SF_8A_57 s q).fr rfl (A_59_o 19 (by decide)) (A_59_o 22 (by decide))
              refine ok_call (s_d_stepAt hF_8 (by omega) (by omega)) ?_
              intro v_60 v_60_p
              have v_60_p : v_60.toInt = 6 * (6 * (F_8 18).toInt + v_3.toInt) + v_7.toInt := v_60_p
              refine ok_ld (j := 23) hA_59 (by omega) (by omega) ?_
              intro v_61 v_61_e v_61_r
              refine ok_st (j := 52) hA_59 (by omega) (by omega) (trivial) ?_
              intro A_62 hA_62 A_62_o A_62_s A_62_n
              have VF_8A_62 : VMs F_8 A_62 := VF_8A_59.fr rfl (fun q h1 h2 => A_62_o q (by omega))
              have NF_8A_62 : NVm F_8 A_62 k := NF_8A_59.sto A_62_o (by decide)
              have MF_8A_62 : k = ai A_62 29 (F_8 18).toInt := by rw [ai_fr (A_62_o 29 (by decide))] <;> exact MF_8A_59
              have XF_8A_62 : ∀ i, 42 ≤ i → ai A_62 48 i = ai A 48 i := by rw [ai_fr (A_62_o 48 (by decide))]; exact XF_8A_59
              have SF_8A_62 : ∀ s, SVm F A (ai A 48 (42 + x1.toInt)) s → SVm F_8 A_62 (ai A 48 (42 + x1.toInt)) s := fun s q => (SF_8A_59 s q).fr rfl (A_62_o 19 (by decide)) (A_62_o 22 (by decide))
              refine ok_some ?_
              refine ⟨hF_8, hA_62, (fun q hq => (F_8_o q hq)), (fun q hq => (((((A_62_o q (fun e => hq (by rw [e]; decide))).trans (A_59_o q (fun e => hq (by rw [e]; decide)))).trans (A_57_o q (fun e => hq (by rw [e]; decide)))).trans (A_56_o q (fun e => hq (by rw [e]; decide)))).trans (A_9_o q (fun e => hq ((by decide : ∀ x, x ∈ ([45, 46] : List Nat) → x ∈ ([45, 46, 48, 50, 52, 53, 56] : List Nat)) q e))))), ?_⟩
              exact NF_8A_62
            · rw [i_nne] at c_54
              refine ok_call (s_d_isInUse hF_8 hA_9 (by omega) (by omega) (by assumption) (NF_8A_9)) ?_
              intro v_63 v_63_p
              have v_63_p : v_63.toInt = 0 ∨ v_63.toInt = 1 := v_63_p
              refine ok_cond (fun c_64 => ?_) (fun c_64 => ?_)
              · rw [i_eq] at c_64
                unfold d_begins1_147
                refine ok_ld (j := 48) hA_9 (by omega) (by omega) ?_
                intro v_65 v_65_e v_65_r
                refine ok_st (j := 48) hA_9 (by omega) (by omega) (trivial) ?_
                intro A_66 hA_66 A_66_o A_66_s A_66_n
                have VF_8A_66 : VMs F_8 A_66 := VF_8A_9.fr rfl (fun q h1 h2 => A_66_o q (by omega))
                have NF_8A_66 : NVm F_8 A_66 k := NF_8A_9.st48 A_66_o A_66_n (by omega)
                have MF_8A_66 : k = ai A_66 29 (F_8 18).toInt := by rw [ai_fr (A_66_o 29 (by decide))] <;> exact MF_8A_9
                have ZF_8A_66 : ai A_66 50 x1.toInt = 1 := by rw [ai_fr (A_66_o 50 (by decide))]; exact ZF_8A_9
                have XF_8A_66 : ∀ i, 42 ≤ i → ai A_66 48 i = ai A 48 i := fun i hi => (A_66_n i (by omega) (by omega)).trans (XF_8A_9 i hi)
                have SF_8A_66 : ∀ s, SVm F A (ai A 48 (42 + x1.toInt)) s → SVm F_8 A_66 (ai A 48 (42 + x1.toInt)) s := fun s q => (SF_8A_9 s q).fr rfl (A_66_o 19 (by decide)) (A_66_o 22 (by decide))
                refine ok_st (j := 53) hA_66 (by omega) (by omega) (trivial) ?_
                intro A_67 hA_67 A_67_o A_67_s A_67_n
                have VF_8A_67 : VMs F_8 A_67 := VF_8A_66.fr rfl (fun q h1 h2 => A_67_o q (by omega))
                have NF_8A_67 : NVm F_8 A_67 k := NF_8A_66.st53 A_67_o A_67_n (fun _ => by rw [ZF_8A_66]; decide)
                have MF_8A_67 : k = ai A_67 29 (F_8 18).toInt := by rw [ai_fr (A_67_o 29 (by decide))] <;> exact MF_8A_66
                have ZF_8A_67 : ai A_67 50 x1.toInt = 1 := by rw [ai_fr (A_67_o 50 (by decide))]; exact ZF_8A_66
                have XF_8A_67 : ∀ i, 42 ≤ i → ai A_67 48 i = ai A 48 i := by rw [ai_fr (A_67_o 48 (by decide))]; exact XF_8A_66
                have SF_8A_67 : ∀ s, SVm F A (ai A 48 (42 + x1.toInt)) s → SVm F_8 A_67 (ai A 48 (42 + x1.toInt)) s := fun s q => (SF_8A_66 s q).fr rfl (A_67_o 19 (by decide)) (A_67_o 22 (by decide))
                have s2 : SVm F_8 A_67 (ai A_67 48 (42 + x1.toInt)) (ai A_67 53 x1.toInt) := by rw [A_67_s, XF_8A_67 (42 + x1.toInt) (by omega)]; exact SF_8A_67 _ ⟨g1, g2, v_7_p.1, v_7_p.2⟩
                have l_68 : (2 : Int32).toInt = 2 := by decide
                refine ok_st (j := 50) hA_67 (by omega) (by omega) (trivial) ?_
                intro A_69 hA_69 A_69_o A_69_s A_69_n
                have VF_8A_69 : VMs F_8 A_69 := VF_8A_67.fr rfl (fun q h1 h2 => A_69_o q (by omega))
                have NF_8A_69 : NVm F_8 A_69 k := NF_8A_67.st50 A_69_o A_69_s A_69_n (fun _ e => by omega) (fun _ _ => s2)
                have MF_8A_69 : k = ai A_69 29 (F_8 18).toInt := by rw [ai_fr (A_69_o 29 (by decide))] <;> exact MF_8A_67
                have XF_8A_69 : ∀ i, 42 ≤ i → ai A_69 48 i = ai A 48 i := by rw [ai_fr (A_69_o 48 (by decide))]; exact XF_8A_67
                have SF_8A_69 : ∀ s, SVm F A (ai A 48 (42 + x1.toInt)) s → SVm F_8 A_69 (ai A 48 (42 + x1.toInt)) s := fun s q => (SF_8A_67 s q).fr rfl (A_69_o 19 (by decide)) (A_69_o 22 (by decide))
                refine ok_call (s_d_stepAt hF_8 (by omega) (by omega)) ?_
                intro v_70 v_70_p
                have v_70_p : v_70.toInt = 6 * (6 * (F_8 18).toInt + v_3.toInt) + v_7.toInt := v_70_p
                refine ok_ld (j := 23) hA_69 (by omega) (by omega) ?_
                intro v_71 v_71_e v_71_r
                refine ok_st (j := 52) hA_69 (by omega) (by omega) (trivial) ?_
                intro A_72 hA_72 A_72_o A_72_s A_72_n
                have VF_8A_72 : VMs F_8 A_72 := VF_8A_69.fr rfl (fun q h1 h2 => A_72_o q (by omega))
                have NF_8A_72 : NVm F_8 A_72 k := NF_8A_69.sto A_72_o (by decide)
                have MF_8A_72 : k = ai A_72 29 (F_8 18).toInt := by rw [ai_fr (A_72_o 29 (by decide))] <;> exact MF_8A_69
                have XF_8A_72 : ∀ i, 42 ≤ i → ai A_72 48 i = ai A 48 i := by rw [ai_fr (A_72_o 48 (by decide))]; exact XF_8A_69
                have SF_8A_72 : ∀ s, SVm F A (ai A 48 (42 + x1.toInt)) s → SVm F_8 A_72 (ai A 48 (42 + x1.toInt)) s := fun s q => (SF_8A_69 s q).fr rfl (A_72_o 19 (by decide)) (A_72_o 22 (by decide))
                refine ok_some ?_
                refine ⟨hF_8, hA_72, (fun q hq => (F_8_o q hq)), (fun q hq => (((((A_72_o q (fun e => hq (by rw [e]; decide))).trans (A_69_o q (fun e => hq (by rw [e]; decide)))).trans (A_67_o q (fun e => hq (by rw [e]; decide)))).trans (A_66_o q (fun e => hq (by rw [e]; decide)))).trans (A_9_o q (fun e => hq ((by decide : ∀ x, x ∈ ([45, 46] : List Nat) → x ∈ ([45, 46, 48, 50, 52, 53, 56] : List Nat)) q e))))), ?_⟩
                exact NF_8A_72
              · rw [i_neq] at c_64
                refine ok_some ?_
                refine ⟨hF_8, hA_9, (fun q hq => (F_8_o q hq)), (fun q hq => (A_9_o q (fun e => hq ((by decide : ∀ x, x ∈ ([45, 46] : List Nat) → x ∈ ([45, 46, 48, 50, 52, 53, 56] : List Nat)) q e)))), ?_⟩
                exact NF_8A_9
          · rw [i_neq] at c_53
            unfold d_begins1_124
            refine ok_call (s_d_lies hF_8 hA_9 (by omega) (NF_8A_9) (by omega)) ?_
            rintro ⟨u_73, F_74, A_75, J_76⟩ ⟨hF_74, hA_75, F_74_o, A_75_o, u_73_p⟩
            dsimp only at hF_74 hA_75 F_74_o A_75_o u_73_p ⊢
            have u_73_p : NVm F_74 A_75 k := u_73_p
            have r_77 : 0 ≤ (F_74 18).toInt ∧ (F_74 18).toInt ≤ 1 := hF_74 18
            have f_78 : (F_74 18).toInt = (F_8 18).toInt := congrArg Int32.toInt (F_74_o 18 (by decide))
            have VF_74A_75 : VMs F_74 A_75 := VF_8A_9.fr (F_74_o 18 (by decide)) (fun q h1 h2 => A_75_o q (by intro e; simp at e <;> omega))
            have NF_74A_75 : NVm F_74 A_75 k := u_73_p
            have MF_74A_75 : k = ai A_75 29 (F_74 18).toInt := by rw [ai_fr (A_75_o 29 (by decide)), F_74_o 18 (by decide)] <;> exact MF_8A_9
            have SF_74A_75 : ∀ s, SVm F A (ai A 48 (42 + x1.toInt)) s → SVm F_74 A_75 (ai A 48 (42 + x1.toInt)) s := fun s q => (SF_8A_9 s q).fr (F_74_o 18 (by decide)) (A_75_o 19 (by decide)) (A_75_o 22 (by decide))
            refine ok_some ?_
            refine ⟨hF_74, hA_75, (fun q hq => ((F_74_o q (fun e => hq ((by decide : ∀ x, x ∈ ([] : List Nat) → x ∈ ([63] : List Nat)) q e))).trans (F_8_o q hq))), (fun q hq => ((A_75_o q (fun e => hq ((by decide : ∀ x, x ∈ ([48, 50] : List Nat) → x ∈ ([45, 46, 48, 50, 52, 53, 56] : List Nat)) q e))).trans (A_9_o q (fun e => hq ((by decide : ∀ x, x ∈ ([45, 46] : List Nat) → x ∈ ([45, 46, 48, 50, 52, 53, 56] : List Nat)) q e))))), ?_⟩
            exact NF_74A_75
    · rw [i_nlt] at c_16
      have l_79 : (72 : Int32).toInt = 72 := by decide
      have e_80 := i_add (x := 72) (y := v_15) (by omega) (by omega)
      refine ok_ld (j := 48) hA_9 (by omega) (by omega) ?_
      intro v_81 v_81_e v_81_r
      refine ok_cond (fun c_82 => ?_) (fun c_82 => ?_)
      · rw [i_ne] at c_82
        unfold d_begins1_81
        refine ok_ld (j := 48) hA_9 (by omega) (by omega) ?_
        intro v_83 v_83_e v_83_r
        refine ok_cond (fun c_84 => ?_) (fun c_84 => ?_)
        · rw [i_eq] at c_84
          unfold d_begins1_124
          refine ok_call (s_d_lies hF_8 hA_9 (by omega) (NF_8A_9) (by omega)) ?_
          rintro ⟨u_85, F_86, A_87, J_88⟩ ⟨hF_86, hA_87, F_86_o, A_87_o, u_85_p⟩
          dsimp only at hF_86 hA_87 F_86_o A_87_o u_85_p ⊢
          have u_85_p : NVm F_86 A_87 k := u_85_p
          have r_89 : 0 ≤ (F_86 18).toInt ∧ (F_86 18).toInt ≤ 1 := hF_86 18
          have f_90 : (F_86 18).toInt = (F_8 18).toInt := congrArg Int32.toInt (F_86_o 18 (by decide))
          have VF_86A_87 : VMs F_86 A_87 := VF_8A_9.fr (F_86_o 18 (by decide)) (fun q h1 h2 => A_87_o q (by intro e; simp at e <;> omega))
          have NF_86A_87 : NVm F_86 A_87 k := u_85_p
          have MF_86A_87 : k = ai A_87 29 (F_86 18).toInt := by rw [ai_fr (A_87_o 29 (by decide)), F_86_o 18 (by decide)] <;> exact MF_8A_9
          have SF_86A_87 : ∀ s, SVm F A (ai A 48 (42 + x1.toInt)) s → SVm F_86 A_87 (ai A 48 (42 + x1.toInt)) s := fun s q => (SF_8A_9 s q).fr (F_86_o 18 (by decide)) (A_87_o 19 (by decide)) (A_87_o 22 (by decide))
          refine ok_some ?_
          refine ⟨hF_86, hA_87, (fun q hq => ((F_86_o q (fun e => hq ((by decide : ∀ x, x ∈ ([] : List Nat) → x ∈ ([63] : List Nat)) q e))).trans (F_8_o q hq))), (fun q hq => ((A_87_o q (fun e => hq ((by decide : ∀ x, x ∈ ([48, 50] : List Nat) → x ∈ ([45, 46, 48, 50, 52, 53, 56] : List Nat)) q e))).trans (A_9_o q (fun e => hq ((by decide : ∀ x, x ∈ ([45, 46] : List Nat) → x ∈ ([45, 46, 48, 50, 52, 53, 56] : List Nat)) q e))))), ?_⟩
          exact NF_86A_87
        · rw [i_neq] at c_84
          refine ok_cond (fun c_91 => ?_) (fun c_91 => ?_)
          · rw [i_ne] at c_91
            unfold d_begins1_131
            refine ok_cond (fun c_92 => ?_) (fun c_92 => ?_)
            · rw [i_ne] at c_92
              unfold d_begins1_147
              refine ok_ld (j := 48) hA_9 (by omega) (by omega) ?_
              intro v_93 v_93_e v_93_r
              refine ok_st (j := 48) hA_9 (by omega) (by omega) (trivial) ?_
              intro A_94 hA_94 A_94_o A_94_s A_94_n
              have VF_8A_94 : VMs F_8 A_94 := VF_8A_9.fr rfl (fun q h1 h2 => A_94_o q (by omega))
              have NF_8A_94 : NVm F_8 A_94 k := NF_8A_9.st48 A_94_o A_94_n (by omega)
              have MF_8A_94 : k = ai A_94 29 (F_8 18).toInt := by rw [ai_fr (A_94_o 29 (by decide))] <;> exact MF_8A_9
              have ZF_8A_94 : ai A_94 50 x1.toInt = 1 := by rw [ai_fr (A_94_o 50 (by decide))]; exact ZF_8A_9
              have XF_8A_94 : ∀ i, 42 ≤ i → ai A_94 48 i = ai A 48 i := fun i hi => (A_94_n i (by omega) (by omega)).trans (XF_8A_9 i hi)
              have SF_8A_94 : ∀ s, SVm F A (ai A 48 (42 + x1.toInt)) s → SVm F_8 A_94 (ai A 48 (42 + x1.toInt)) s := fun s q => (SF_8A_9 s q).fr rfl (A_94_o 19 (by decide)) (A_94_o 22 (by decide))
              refine ok_st (j := 53) hA_94 (by omega) (by omega) (trivial) ?_
              intro A_95 hA_95 A_95_o A_95_s A_95_n
              have VF_8A_95 : VMs F_8 A_95 := VF_8A_94.fr rfl (fun q h1 h2 => A_95_o q (by omega))
              have NF_8A_95 : NVm F_8 A_95 k := NF_8A_94.st53 A_95_o A_95_n (fun _ => by rw [ZF_8A_94]; decide)
              have MF_8A_95 : k = ai A_95 29 (F_8 18).toInt := by rw [ai_fr (A_95_o 29 (by decide))] <;> exact MF_8A_94
              have ZF_8A_95 : ai A_95 50 x1.toInt = 1 := by rw [ai_fr (A_95_o 50 (by decide))]; exact ZF_8A_94
              have XF_8A_95 : ∀ i, 42 ≤ i → ai A_95 48 i = ai A 48 i := by rw [ai_fr (A_95_o 48 (by decide))]; exact XF_8A_94
              have SF_8A_95 : ∀ s, SVm F A (ai A 48 (42 + x1.toInt)) s → SVm F_8 A_95 (ai A 48 (42 + x1.toInt)) s := fun s q => (SF_8A_94 s q).fr rfl (A_95_o 19 (by decide)) (A_95_o 22 (by decide))
              have s2 : SVm F_8 A_95 (ai A_95 48 (42 + x1.toInt)) (ai A_95 53 x1.toInt) := by rw [A_95_s, XF_8A_95 (42 + x1.toInt) (by omega)]; exact SF_8A_95 _ ⟨g1, g2, v_7_p.1, v_7_p.2⟩
              have l_96 : (2 : Int32).toInt = 2 := by decide
              refine ok_st (j := 50) hA_95 (by omega) (by omega) (trivial) ?_
              intro A_97 hA_97 A_97_o A_97_s A_97_n
              have VF_8A_97 : VMs F_8 A_97 := VF_8A_95.fr rfl (fun q h1 h2 => A_97_o q (by omega))
              have NF_8A_97 : NVm F_8 A_97 k := NF_8A_95.st50 A_97_o A_97_s A_97_n (fun _ e => by omega) (fun _ _ => s2)
              have MF_8A_97 : k = ai A_97 29 (F_8 18).toInt := by rw [ai_fr (A_97_o 29 (by decide))] <;> exact MF_8A_95
              have XF_8A_97 : ∀ i, 42 ≤ i → ai A_97 48 i = ai A 48 i := by rw [ai_fr (A_97_o 48 (by decide))]; exact XF_8A_95
              have SF_8A_97 : ∀ s, SVm F A (ai A 48 (42 + x1.toInt)) s → SVm F_8 A_97 (ai A 48 (42 + x1.toInt)) s := fun s q => (SF_8A_95 s q).fr rfl (A_97_o 19 (by decide)) (A_97_o 22 (by decide))
              refine ok_call (s_d_stepAt hF_8 (by omega) (by omega)) ?_
              intro v_98 v_98_p
              have v_98_p : v_98.toInt = 6 * (6 * (F_8 18).toInt + v_3.toInt) + v_7.toInt := v_98_p
              refine ok_ld (j := 23) hA_97 (by omega) (by omega) ?_
              intro v_99 v_99_e v_99_r
              refine ok_st (j := 52) hA_97 (by omega) (by omega) (trivial) ?_
              intro A_100 hA_100 A_100_o A_100_s A_100_n
              have VF_8A_100 : VMs F_8 A_100 := VF_8A_97.fr rfl (fun q h1 h2 => A_100_o q (by omega))
              have NF_8A_100 : NVm F_8 A_100 k := NF_8A_97.sto A_100_o (by decide)
              have MF_8A_100 : k = ai A_100 29 (F_8 18).toInt := by rw [ai_fr (A_100_o 29 (by decide))] <;> exact MF_8A_97
              have XF_8A_100 : ∀ i, 42 ≤ i → ai A_100 48 i = ai A 48 i := by rw [ai_fr (A_100_o 48 (by decide))]; exact XF_8A_97
              have SF_8A_100 : ∀ s, SVm F A (ai A 48 (42 + x1.toInt)) s → SVm F_8 A_100 (ai A 48 (42 + x1.toInt)) s := fun s q => (SF_8A_97 s q).fr rfl (A_100_o 19 (by decide)) (A_100_o 22 (by decide))
              refine ok_some ?_
              refine ⟨hF_8, hA_100, (fun q hq => (F_8_o q hq)), (fun q hq => (((((A_100_o q (fun e => hq (by rw [e]; decide))).trans (A_97_o q (fun e => hq (by rw [e]; decide)))).trans (A_95_o q (fun e => hq (by rw [e]; decide)))).trans (A_94_o q (fun e => hq (by rw [e]; decide)))).trans (A_9_o q (fun e => hq ((by decide : ∀ x, x ∈ ([45, 46] : List Nat) → x ∈ ([45, 46, 48, 50, 52, 53, 56] : List Nat)) q e))))), ?_⟩
              exact NF_8A_100
            · rw [i_nne] at c_92
              refine ok_call (s_d_isInUse hF_8 hA_9 (by omega) (by omega) (by assumption) (NF_8A_9)) ?_
              intro v_101 v_101_p
              have v_101_p : v_101.toInt = 0 ∨ v_101.toInt = 1 := v_101_p
              refine ok_cond (fun c_102 => ?_) (fun c_102 => ?_)
              · rw [i_eq] at c_102
                unfold d_begins1_147
                refine ok_ld (j := 48) hA_9 (by omega) (by omega) ?_
                intro v_103 v_103_e v_103_r
                refine ok_st (j := 48) hA_9 (by omega) (by omega) (trivial) ?_
                intro A_104 hA_104 A_104_o A_104_s A_104_n
                have VF_8A_104 : VMs F_8 A_104 := VF_8A_9.fr rfl (fun q h1 h2 => A_104_o q (by omega))
                have NF_8A_104 : NVm F_8 A_104 k := NF_8A_9.st48 A_104_o A_104_n (by omega)
                have MF_8A_104 : k = ai A_104 29 (F_8 18).toInt := by rw [ai_fr (A_104_o 29 (by decide))] <;> exact MF_8A_9
                have ZF_8A_104 : ai A_104 50 x1.toInt = 1 := by rw [ai_fr (A_104_o 50 (by decide))]; exact ZF_8A_9
                have XF_8A_104 : ∀ i, 42 ≤ i → ai A_104 48 i = ai A 48 i := fun i hi => (A_104_n i (by omega) (by omega)).trans (XF_8A_9 i hi)
                have SF_8A_104 : ∀ s, SVm F A (ai A 48 (42 + x1.toInt)) s → SVm F_8 A_104 (ai A 48 (42 + x1.toInt)) s := fun s q => (SF_8A_9 s q).fr rfl (A_104_o 19 (by decide)) (A_104_o 22 (by decide))
                refine ok_st (j := 53) hA_104 (by omega) (by omega) (trivial) ?_
                intro A_105 hA_105 A_105_o A_105_s A_105_n
                have VF_8A_105 : VMs F_8 A_105 := VF_8A_104.fr rfl (fun q h1 h2 => A_105_o q (by omega))
                have NF_8A_105 : NVm F_8 A_105 k := NF_8A_104.st53 A_105_o A_105_n (fun _ => by rw [ZF_8A_104]; decide)
                have MF_8A_105 : k = ai A_105 29 (F_8 18).toInt := by rw [ai_fr (A_105_o 29 (by decide))] <;> exact MF_8A_104
                have ZF_8A_105 : ai A_105 50 x1.toInt = 1 := by rw [ai_fr (A_105_o 50 (by decide))]; exact ZF_8A_104
                have XF_8A_105 : ∀ i, 42 ≤ i → ai A_105 48 i = ai A 48 i := by rw [ai_fr (A_105_o 48 (by decide))]; exact XF_8A_104
                have SF_8A_105 : ∀ s, SVm F A (ai A 48 (42 + x1.toInt)) s → SVm F_8 A_105 (ai A 48 (42 + x1.toInt)) s := fun s q => (SF_8A_104 s q).fr rfl (A_105_o 19 (by decide)) (A_105_o 22 (by decide))
                have s2 : SVm F_8 A_105 (ai A_105 48 (42 + x1.toInt)) (ai A_105 53 x1.toInt) := by rw [A_105_s, XF_8A_105 (42 + x1.toInt) (by omega)]; exact SF_8A_105 _ ⟨g1, g2, v_7_p.1, v_7_p.2⟩
                have l_106 : (2 : Int32).toInt = 2 := by decide
                refine ok_st (j := 50) hA_105 (by omega) (by omega) (trivial) ?_
                intro A_107 hA_107 A_107_o A_107_s A_107_n
                have VF_8A_107 : VMs F_8 A_107 := VF_8A_105.fr rfl (fun q h1 h2 => A_107_o q (by omega))
                have NF_8A_107 : NVm F_8 A_107 k := NF_8A_105.st50 A_107_o A_107_s A_107_n (fun _ e => by omega) (fun _ _ => s2)
                have MF_8A_107 : k = ai A_107 29 (F_8 18).toInt := by rw [ai_fr (A_107_o 29 (by decide))] <;> exact MF_8A_105
                have XF_8A_107 : ∀ i, 42 ≤ i → ai A_107 48 i = ai A 48 i := by rw [ai_fr (A_107_o 48 (by decide))]; exact XF_8A_105
                have SF_8A_107 : ∀ s, SVm F A (ai A 48 (42 + x1.toInt)) s → SVm F_8 A_107 (ai A 48 (42 + x1.toInt)) s := fun s q => (SF_8A_105 s q).fr rfl (A_107_o 19 (by decide)) (A_107_o 22 (by decide))
                refine ok_call (s_d_stepAt hF_8 (by omega) (by omega)) ?_
                intro v_108 v_108_p
                have v_108_p : v_108.toInt = 6 * (6 * (F_8 18).toInt + v_3.toInt) + v_7.toInt := v_108_p
                refine ok_ld (j := 23) hA_107 (by omega) (by omega) ?_
                intro v_109 v_109_e v_109_r
                refine ok_st (j := 52) hA_107 (by omega) (by omega) (trivial) ?_
                intro A_110 hA_110 A_110_o A_110_s A_110_n
                have VF_8A_110 : VMs F_8 A_110 := VF_8A_107.fr rfl (fun q h1 h2 => A_110_o q (by omega))
                have NF_8A_110 : NVm F_8 A_110 k := NF_8A_107.sto A_110_o (by decide)
                have MF_8A_110 : k = ai A_110 29 (F_8 18).toInt := by rw [ai_fr (A_110_o 29 (by decide))] <;> exact MF_8A_107
                have XF_8A_110 : ∀ i, 42 ≤ i → ai A_110 48 i = ai A 48 i := by rw [ai_fr (A_110_o 48 (by decide))]; exact XF_8A_107
                have SF_8A_110 : ∀ s, SVm F A (ai A 48 (42 + x1.toInt)) s → SVm F_8 A_110 (ai A 48 (42 + x1.toInt)) s := fun s q => (SF_8A_107 s q).fr rfl (A_110_o 19 (by decide)) (A_110_o 22 (by decide))
                refine ok_some ?_
                refine ⟨hF_8, hA_110, (fun q hq => (F_8_o q hq)), (fun q hq => (((((A_110_o q (fun e => hq (by rw [e]; decide))).trans (A_107_o q (fun e => hq (by rw [e]; decide)))).trans (A_105_o q (fun e => hq (by rw [e]; decide)))).trans (A_104_o q (fun e => hq (by rw [e]; decide)))).trans (A_9_o q (fun e => hq ((by decide : ∀ x, x ∈ ([45, 46] : List Nat) → x ∈ ([45, 46, 48, 50, 52, 53, 56] : List Nat)) q e))))), ?_⟩
                exact NF_8A_110
              · rw [i_neq] at c_102
                refine ok_some ?_
                refine ⟨hF_8, hA_9, (fun q hq => (F_8_o q hq)), (fun q hq => (A_9_o q (fun e => hq ((by decide : ∀ x, x ∈ ([45, 46] : List Nat) → x ∈ ([45, 46, 48, 50, 52, 53, 56] : List Nat)) q e)))), ?_⟩
                exact NF_8A_9
          · rw [i_nne] at c_91
            refine ok_ld (j := 48) hA_9 (by omega) (by omega) ?_
            intro v_111 v_111_e v_111_r
            have l_112 : (6 : Int32).toInt = 6 := by decide
            have e_113 := i_mulL (c := 6) (k := 6) (x := (F_8 18)) (by decide) (by omega) (by omega)
            have e_114 := i_add (x := (6 * (F_8 18))) (y := v_3) (by omega) (by omega)
            refine ok_ld (j := 20) hA_9 (by omega) (by omega) ?_
            intro v_115 v_115_e v_115_r
            have v_115_r : -1 ≤ v_115.toInt ∧ v_115.toInt ≤ 7 := v_115_r
            refine ok_cond (fun c_116 => ?_) (fun c_116 => ?_)
            · rw [i_eq] at c_116
              unfold d_begins1_131
              refine ok_cond (fun c_117 => ?_) (fun c_117 => ?_)
              · rw [i_ne] at c_117
                unfold d_begins1_147
                refine ok_ld (j := 48) hA_9 (by omega) (by omega) ?_
                intro v_118 v_118_e v_118_r
                refine ok_st (j := 48) hA_9 (by omega) (by omega) (trivial) ?_
                intro A_119 hA_119 A_119_o A_119_s A_119_n
                have VF_8A_119 : VMs F_8 A_119 := VF_8A_9.fr rfl (fun q h1 h2 => A_119_o q (by omega))
                have NF_8A_119 : NVm F_8 A_119 k := NF_8A_9.st48 A_119_o A_119_n (by omega)
                have MF_8A_119 : k = ai A_119 29 (F_8 18).toInt := by rw [ai_fr (A_119_o 29 (by decide))] <;> exact MF_8A_9
                have ZF_8A_119 : ai A_119 50 x1.toInt = 1 := by rw [ai_fr (A_119_o 50 (by decide))]; exact ZF_8A_9
                have XF_8A_119 : ∀ i, 42 ≤ i → ai A_119 48 i = ai A 48 i := fun i hi => (A_119_n i (by omega) (by omega)).trans (XF_8A_9 i hi)
                have SF_8A_119 : ∀ s, SVm F A (ai A 48 (42 + x1.toInt)) s → SVm F_8 A_119 (ai A 48 (42 + x1.toInt)) s := fun s q => (SF_8A_9 s q).fr rfl (A_119_o 19 (by decide)) (A_119_o 22 (by decide))
                refine ok_st (j := 53) hA_119 (by omega) (by omega) (trivial) ?_
                intro A_120 hA_120 A_120_o A_120_s A_120_n
                have VF_8A_120 : VMs F_8 A_120 := VF_8A_119.fr rfl (fun q h1 h2 => A_120_o q (by omega))
                have NF_8A_120 : NVm F_8 A_120 k := NF_8A_119.st53 A_120_o A_120_n (fun _ => by rw [ZF_8A_119]; decide)
                have MF_8A_120 : k = ai A_120 29 (F_8 18).toInt := by rw [ai_fr (A_120_o 29 (by decide))] <;> exact MF_8A_119
                have ZF_8A_120 : ai A_120 50 x1.toInt = 1 := by rw [ai_fr (A_120_o 50 (by decide))]; exact ZF_8A_119
                have XF_8A_120 : ∀ i, 42 ≤ i → ai A_120 48 i = ai A 48 i := by rw [ai_fr (A_120_o 48 (by decide))]; exact XF_8A_119
                have SF_8A_120 : ∀ s, SVm F A (ai A 48 (42 + x1.toInt)) s → SVm F_8 A_120 (ai A 48 (42 + x1.toInt)) s := fun s q => (SF_8A_119 s q).fr rfl (A_120_o 19 (by decide)) (A_120_o 22 (by decide))
                have s2 : SVm F_8 A_120 (ai A_120 48 (42 + x1.toInt)) (ai A_120 53 x1.toInt) := by rw [A_120_s, XF_8A_120 (42 + x1.toInt) (by omega)]; exact SF_8A_120 _ ⟨g1, g2, v_7_p.1, v_7_p.2⟩
                have l_121 : (2 : Int32).toInt = 2 := by decide
                refine ok_st (j := 50) hA_120 (by omega) (by omega) (trivial) ?_
                intro A_122 hA_122 A_122_o A_122_s A_122_n
                have VF_8A_122 : VMs F_8 A_122 := VF_8A_120.fr rfl (fun q h1 h2 => A_122_o q (by omega))
                have NF_8A_122 : NVm F_8 A_122 k := NF_8A_120.st50 A_122_o A_122_s A_122_n (fun _ e => by omega) (fun _ _ => s2)
                have MF_8A_122 : k = ai A_122 29 (F_8 18).toInt := by rw [ai_fr (A_122_o 29 (by decide))] <;> exact MF_8A_120
                have XF_8A_122 : ∀ i, 42 ≤ i → ai A_122 48 i = ai A 48 i := by rw [ai_fr (A_122_o 48 (by decide))]; exact XF_8A_120
                have SF_8A_122 : ∀ s, SVm F A (ai A 48 (42 + x1.toInt)) s → SVm F_8 A_122 (ai A 48 (42 + x1.toInt)) s := fun s q => (SF_8A_120 s q).fr rfl (A_122_o 19 (by decide)) (A_122_o 22 (by decide))
                refine ok_call (s_d_stepAt hF_8 (by omega) (by omega)) ?_
                intro v_123 v_123_p
                have v_123_p : v_123.toInt = 6 * (6 * (F_8 18).toInt + v_3.toInt) + v_7.toInt := v_123_p
                refine ok_ld (j := 23) hA_122 (by omega) (by omega) ?_
                intro v_124 v_124_e v_124_r
                refine ok_st (j := 52) hA_122 (by omega) (by omega) (trivial) ?_
                intro A_125 hA_125 A_125_o A_125_s A_125_n
                have VF_8A_125 : VMs F_8 A_125 := VF_8A_122.fr rfl (fun q h1 h2 => A_125_o q (by omega))
                have NF_8A_125 : NVm F_8 A_125 k := NF_8A_122.sto A_125_o (by decide)
                have MF_8A_125 : k = ai A_125 29 (F_8 18).toInt := by rw [ai_fr (A_125_o 29 (by decide))] <;> exact MF_8A_122
                have XF_8A_125 : ∀ i, 42 ≤ i → ai A_125 48 i = ai A 48 i := by rw [ai_fr (A_125_o 48 (by decide))]; exact XF_8A_122
                have SF_8A_125 : ∀ s, SVm F A (ai A 48 (42 + x1.toInt)) s → SVm F_8 A_125 (ai A 48 (42 + x1.toInt)) s := fun s q => (SF_8A_122 s q).fr rfl (A_125_o 19 (by decide)) (A_125_o 22 (by decide))
                refine ok_some ?_
                refine ⟨hF_8, hA_125, (fun q hq => (F_8_o q hq)), (fun q hq => (((((A_125_o q (fun e => hq (by rw [e]; decide))).trans (A_122_o q (fun e => hq (by rw [e]; decide)))).trans (A_120_o q (fun e => hq (by rw [e]; decide)))).trans (A_119_o q (fun e => hq (by rw [e]; decide)))).trans (A_9_o q (fun e => hq ((by decide : ∀ x, x ∈ ([45, 46] : List Nat) → x ∈ ([45, 46, 48, 50, 52, 53, 56] : List Nat)) q e))))), ?_⟩
                exact NF_8A_125
              · rw [i_nne] at c_117
                refine ok_call (s_d_isInUse hF_8 hA_9 (by omega) (by omega) (by assumption) (NF_8A_9)) ?_
                intro v_126 v_126_p
                have v_126_p : v_126.toInt = 0 ∨ v_126.toInt = 1 := v_126_p
                refine ok_cond (fun c_127 => ?_) (fun c_127 => ?_)
                · rw [i_eq] at c_127
                  unfold d_begins1_147
                  refine ok_ld (j := 48) hA_9 (by omega) (by omega) ?_
                  intro v_128 v_128_e v_128_r
                  refine ok_st (j := 48) hA_9 (by omega) (by omega) (trivial) ?_
                  intro A_129 hA_129 A_129_o A_129_s A_129_n
                  have VF_8A_129 : VMs F_8 A_129 := VF_8A_9.fr rfl (fun q h1 h2 => A_129_o q (by omega))
                  have NF_8A_129 : NVm F_8 A_129 k := NF_8A_9.st48 A_129_o A_129_n (by omega)
                  have MF_8A_129 : k = ai A_129 29 (F_8 18).toInt := by rw [ai_fr (A_129_o 29 (by decide))] <;> exact MF_8A_9
                  have ZF_8A_129 : ai A_129 50 x1.toInt = 1 := by rw [ai_fr (A_129_o 50 (by decide))]; exact ZF_8A_9
                  have XF_8A_129 : ∀ i, 42 ≤ i → ai A_129 48 i = ai A 48 i := fun i hi => (A_129_n i (by omega) (by omega)).trans (XF_8A_9 i hi)
                  have SF_8A_129 : ∀ s, SVm F A (ai A 48 (42 + x1.toInt)) s → SVm F_8 A_129 (ai A 48 (42 + x1.toInt)) s := fun s q => (SF_8A_9 s q).fr rfl (A_129_o 19 (by decide)) (A_129_o 22 (by decide))
                  refine ok_st (j := 53) hA_129 (by omega) (by omega) (trivial) ?_
                  intro A_130 hA_130 A_130_o A_130_s A_130_n
                  have VF_8A_130 : VMs F_8 A_130 := VF_8A_129.fr rfl (fun q h1 h2 => A_130_o q (by omega))
                  have NF_8A_130 : NVm F_8 A_130 k := NF_8A_129.st53 A_130_o A_130_n (fun _ => by rw [ZF_8A_129]; decide)
                  have MF_8A_130 : k = ai A_130 29 (F_8 18).toInt := by rw [ai_fr (A_130_o 29 (by decide))] <;> exact MF_8A_129
                  have ZF_8A_130 : ai A_130 50 x1.toInt = 1 := by rw [ai_fr (A_130_o 50 (by decide))]; exact ZF_8A_129
                  have XF_8A_130 : ∀ i, 42 ≤ i → ai A_130 48 i = ai A 48 i := by rw [ai_fr (A_130_o 48 (by decide))]; exact XF_8A_129
                  have SF_8A_130 : ∀ s, SVm F A (ai A 48 (42 + x1.toInt)) s → SVm F_8 A_130 (ai A 48 (42 + x1.toInt)) s := fun s q => (SF_8A_129 s q).fr rfl (A_130_o 19 (by decide)) (A_130_o 22 (by decide))
                  have s2 : SVm F_8 A_130 (ai A_130 48 (42 + x1.toInt)) (ai A_130 53 x1.toInt) := by rw [A_130_s, XF_8A_130 (42 + x1.toInt) (by omega)]; exact SF_8A_130 _ ⟨g1, g2, v_7_p.1, v_7_p.2⟩
                  have l_131 : (2 : Int32).toInt = 2 := by decide
                  refine ok_st (j := 50) hA_130 (by omega) (by omega) (trivial) ?_
                  intro A_132 hA_132 A_132_o A_132_s A_132_n
                  have VF_8A_132 : VMs F_8 A_132 := VF_8A_130.fr rfl (fun q h1 h2 => A_132_o q (by omega))
                  have NF_8A_132 : NVm F_8 A_132 k := NF_8A_130.st50 A_132_o A_132_s A_132_n (fun _ e => by omega) (fun _ _ => s2)
                  have MF_8A_132 : k = ai A_132 29 (F_8 18).toInt := by rw [ai_fr (A_132_o 29 (by decide))] <;> exact MF_8A_130
                  have XF_8A_132 : ∀ i, 42 ≤ i → ai A_132 48 i = ai A 48 i := by rw [ai_fr (A_132_o 48 (by decide))]; exact XF_8A_130
                  have SF_8A_132 : ∀ s, SVm F A (ai A 48 (42 + x1.toInt)) s → SVm F_8 A_132 (ai A 48 (42 + x1.toInt)) s := fun s q => (SF_8A_130 s q).fr rfl (A_132_o 19 (by decide)) (A_132_o 22 (by decide))
                  refine ok_call (s_d_stepAt hF_8 (by omega) (by omega)) ?_
                  intro v_133 v_133_p
                  have v_133_p : v_133.toInt = 6 * (6 * (F_8 18).toInt + v_3.toInt) + v_7.toInt := v_133_p
                  refine ok_ld (j := 23) hA_132 (by omega) (by omega) ?_
                  intro v_134 v_134_e v_134_r
                  refine ok_st (j := 52) hA_132 (by omega) (by omega) (trivial) ?_
                  intro A_135 hA_135 A_135_o A_135_s A_135_n
                  have VF_8A_135 : VMs F_8 A_135 := VF_8A_132.fr rfl (fun q h1 h2 => A_135_o q (by omega))
                  have NF_8A_135 : NVm F_8 A_135 k := NF_8A_132.sto A_135_o (by decide)
                  have MF_8A_135 : k = ai A_135 29 (F_8 18).toInt := by rw [ai_fr (A_135_o 29 (by decide))] <;> exact MF_8A_132
                  have XF_8A_135 : ∀ i, 42 ≤ i → ai A_135 48 i = ai A 48 i := by rw [ai_fr (A_135_o 48 (by decide))]; exact XF_8A_132
                  have SF_8A_135 : ∀ s, SVm F A (ai A 48 (42 + x1.toInt)) s → SVm F_8 A_135 (ai A 48 (42 + x1.toInt)) s := fun s q => (SF_8A_132 s q).fr rfl (A_135_o 19 (by decide)) (A_135_o 22 (by decide))
                  refine ok_some ?_
                  refine ⟨hF_8, hA_135, (fun q hq => (F_8_o q hq)), (fun q hq => (((((A_135_o q (fun e => hq (by rw [e]; decide))).trans (A_132_o q (fun e => hq (by rw [e]; decide)))).trans (A_130_o q (fun e => hq (by rw [e]; decide)))).trans (A_129_o q (fun e => hq (by rw [e]; decide)))).trans (A_9_o q (fun e => hq ((by decide : ∀ x, x ∈ ([45, 46] : List Nat) → x ∈ ([45, 46, 48, 50, 52, 53, 56] : List Nat)) q e))))), ?_⟩
                  exact NF_8A_135
                · rw [i_neq] at c_127
                  refine ok_some ?_
                  refine ⟨hF_8, hA_9, (fun q hq => (F_8_o q hq)), (fun q hq => (A_9_o q (fun e => hq ((by decide : ∀ x, x ∈ ([45, 46] : List Nat) → x ∈ ([45, 46, 48, 50, 52, 53, 56] : List Nat)) q e)))), ?_⟩
                  exact NF_8A_9
            · rw [i_neq] at c_116
              unfold d_begins1_124
              refine ok_call (s_d_lies hF_8 hA_9 (by omega) (NF_8A_9) (by omega)) ?_
              rintro ⟨u_136, F_137, A_138, J_139⟩ ⟨hF_137, hA_138, F_137_o, A_138_o, u_136_p⟩
              dsimp only at hF_137 hA_138 F_137_o A_138_o u_136_p ⊢
              have u_136_p : NVm F_137 A_138 k := u_136_p
              have r_140 : 0 ≤ (F_137 18).toInt ∧ (F_137 18).toInt ≤ 1 := hF_137 18
              have f_141 : (F_137 18).toInt = (F_8 18).toInt := congrArg Int32.toInt (F_137_o 18 (by decide))
              have VF_137A_138 : VMs F_137 A_138 := VF_8A_9.fr (F_137_o 18 (by decide)) (fun q h1 h2 => A_138_o q (by intro e; simp at e <;> omega))
              have NF_137A_138 : NVm F_137 A_138 k := u_136_p
              have MF_137A_138 : k = ai A_138 29 (F_137 18).toInt := by rw [ai_fr (A_138_o 29 (by decide)), F_137_o 18 (by decide)] <;> exact MF_8A_9
              have SF_137A_138 : ∀ s, SVm F A (ai A 48 (42 + x1.toInt)) s → SVm F_137 A_138 (ai A 48 (42 + x1.toInt)) s := fun s q => (SF_8A_9 s q).fr (F_137_o 18 (by decide)) (A_138_o 19 (by decide)) (A_138_o 22 (by decide))
              refine ok_some ?_
              refine ⟨hF_137, hA_138, (fun q hq => ((F_137_o q (fun e => hq ((by decide : ∀ x, x ∈ ([] : List Nat) → x ∈ ([63] : List Nat)) q e))).trans (F_8_o q hq))), (fun q hq => ((A_138_o q (fun e => hq ((by decide : ∀ x, x ∈ ([48, 50] : List Nat) → x ∈ ([45, 46, 48, 50, 52, 53, 56] : List Nat)) q e))).trans (A_9_o q (fun e => hq ((by decide : ∀ x, x ∈ ([45, 46] : List Nat) → x ∈ ([45, 46, 48, 50, 52, 53, 56] : List Nat)) q e))))), ?_⟩
              exact NF_137A_138
      · rw [i_nne] at c_82
        unfold d_begins1_76
        unfold d_begins1_81
        refine ok_ld (j := 48) hA_9 (by omega) (by omega) ?_
        intro v_142 v_142_e v_142_r
        refine ok_cond (fun c_143 => ?_) (fun c_143 => ?_)
        · rw [i_eq] at c_143
          unfold d_begins1_124
          refine ok_call (s_d_lies hF_8 hA_9 (by omega) (NF_8A_9) (by omega)) ?_
          rintro ⟨u_144, F_145, A_146, J_147⟩ ⟨hF_145, hA_146, F_145_o, A_146_o, u_144_p⟩
          dsimp only at hF_145 hA_146 F_145_o A_146_o u_144_p ⊢
          have u_144_p : NVm F_145 A_146 k := u_144_p
          have r_148 : 0 ≤ (F_145 18).toInt ∧ (F_145 18).toInt ≤ 1 := hF_145 18
          have f_149 : (F_145 18).toInt = (F_8 18).toInt := congrArg Int32.toInt (F_145_o 18 (by decide))
          have VF_145A_146 : VMs F_145 A_146 := VF_8A_9.fr (F_145_o 18 (by decide)) (fun q h1 h2 => A_146_o q (by intro e; simp at e <;> omega))
          have NF_145A_146 : NVm F_145 A_146 k := u_144_p
          have MF_145A_146 : k = ai A_146 29 (F_145 18).toInt := by rw [ai_fr (A_146_o 29 (by decide)), F_145_o 18 (by decide)] <;> exact MF_8A_9
          have SF_145A_146 : ∀ s, SVm F A (ai A 48 (42 + x1.toInt)) s → SVm F_145 A_146 (ai A 48 (42 + x1.toInt)) s := fun s q => (SF_8A_9 s q).fr (F_145_o 18 (by decide)) (A_146_o 19 (by decide)) (A_146_o 22 (by decide))
          refine ok_some ?_
          refine ⟨hF_145, hA_146, (fun q hq => ((F_145_o q (fun e => hq ((by decide : ∀ x, x ∈ ([] : List Nat) → x ∈ ([63] : List Nat)) q e))).trans (F_8_o q hq))), (fun q hq => ((A_146_o q (fun e => hq ((by decide : ∀ x, x ∈ ([48, 50] : List Nat) → x ∈ ([45, 46, 48, 50, 52, 53, 56] : List Nat)) q e))).trans (A_9_o q (fun e => hq ((by decide : ∀ x, x ∈ ([45, 46] : List Nat) → x ∈ ([45, 46, 48, 50, 52, 53, 56] : List Nat)) q e))))), ?_⟩
          exact NF_145A_146
        · rw [i_neq] at c_143
          have l_150 : (1 : Int32).toInt = 1 := by decide
          refine ok_cond (fun c_151 => ?_) (fun c_151 => ?_)
          · rw [i_ne] at c_151
            unfold d_begins1_131
            refine ok_cond (fun c_152 => ?_) (fun c_152 => ?_)
            · rw [i_ne] at c_152
              unfold d_begins1_147
              refine ok_ld (j := 48) hA_9 (by omega) (by omega) ?_
              intro v_153 v_153_e v_153_r
              refine ok_st (j := 48) hA_9 (by omega) (by omega) (trivial) ?_
              intro A_154 hA_154 A_154_o A_154_s A_154_n
              have VF_8A_154 : VMs F_8 A_154 := VF_8A_9.fr rfl (fun q h1 h2 => A_154_o q (by omega))
              have NF_8A_154 : NVm F_8 A_154 k := NF_8A_9.st48 A_154_o A_154_n (by omega)
              have MF_8A_154 : k = ai A_154 29 (F_8 18).toInt := by rw [ai_fr (A_154_o 29 (by decide))] <;> exact MF_8A_9
              have ZF_8A_154 : ai A_154 50 x1.toInt = 1 := by rw [ai_fr (A_154_o 50 (by decide))]; exact ZF_8A_9
              have XF_8A_154 : ∀ i, 42 ≤ i → ai A_154 48 i = ai A 48 i := fun i hi => (A_154_n i (by omega) (by omega)).trans (XF_8A_9 i hi)
              have SF_8A_154 : ∀ s, SVm F A (ai A 48 (42 + x1.toInt)) s → SVm F_8 A_154 (ai A 48 (42 + x1.toInt)) s := fun s q => (SF_8A_9 s q).fr rfl (A_154_o 19 (by decide)) (A_154_o 22 (by decide))
              refine ok_st (j := 53) hA_154 (by omega) (by omega) (trivial) ?_
              intro A_155 hA_155 A_155_o A_155_s A_155_n
              have VF_8A_155 : VMs F_8 A_155 := VF_8A_154.fr rfl (fun q h1 h2 => A_155_o q (by omega))
              have NF_8A_155 : NVm F_8 A_155 k := NF_8A_154.st53 A_155_o A_155_n (fun _ => by rw [ZF_8A_154]; decide)
              have MF_8A_155 : k = ai A_155 29 (F_8 18).toInt := by rw [ai_fr (A_155_o 29 (by decide))] <;> exact MF_8A_154
              have ZF_8A_155 : ai A_155 50 x1.toInt = 1 := by rw [ai_fr (A_155_o 50 (by decide))]; exact ZF_8A_154
              have XF_8A_155 : ∀ i, 42 ≤ i → ai A_155 48 i = ai A 48 i := by rw [ai_fr (A_155_o 48 (by decide))]; exact XF_8A_154
              have SF_8A_155 : ∀ s, SVm F A (ai A 48 (42 + x1.toInt)) s → SVm F_8 A_155 (ai A 48 (42 + x1.toInt)) s := fun s q => (SF_8A_154 s q).fr rfl (A_155_o 19 (by decide)) (A_155_o 22 (by decide))
              have s2 : SVm F_8 A_155 (ai A_155 48 (42 + x1.toInt)) (ai A_155 53 x1.toInt) := by rw [A_155_s, XF_8A_155 (42 + x1.toInt) (by omega)]; exact SF_8A_155 _ ⟨g1, g2, v_7_p.1, v_7_p.2⟩
              have l_156 : (2 : Int32).toInt = 2 := by decide
              refine ok_st (j := 50) hA_155 (by omega) (by omega) (trivial) ?_
              intro A_157 hA_157 A_157_o A_157_s A_157_n
              have VF_8A_157 : VMs F_8 A_157 := VF_8A_155.fr rfl (fun q h1 h2 => A_157_o q (by omega))
              have NF_8A_157 : NVm F_8 A_157 k := NF_8A_155.st50 A_157_o A_157_s A_157_n (fun _ e => by omega) (fun _ _ => s2)
              have MF_8A_157 : k = ai A_157 29 (F_8 18).toInt := by rw [ai_fr (A_157_o 29 (by decide))] <;> exact MF_8A_155
              have XF_8A_157 : ∀ i, 42 ≤ i → ai A_157 48 i = ai A 48 i := by rw [ai_fr (A_157_o 48 (by decide))]; exact XF_8A_155
              have SF_8A_157 : ∀ s, SVm F A (ai A 48 (42 + x1.toInt)) s → SVm F_8 A_157 (ai A 48 (42 + x1.toInt)) s := fun s q => (SF_8A_155 s q).fr rfl (A_157_o 19 (by decide)) (A_157_o 22 (by decide))
              refine ok_call (s_d_stepAt hF_8 (by omega) (by omega)) ?_
              intro v_158 v_158_p
              have v_158_p : v_158.toInt = 6 * (6 * (F_8 18).toInt + v_3.toInt) + v_7.toInt := v_158_p
              refine ok_ld (j := 23) hA_157 (by omega) (by omega) ?_
              intro v_159 v_159_e v_159_r
              refine ok_st (j := 52) hA_157 (by omega) (by omega) (trivial) ?_
              intro A_160 hA_160 A_160_o A_160_s A_160_n
              have VF_8A_160 : VMs F_8 A_160 := VF_8A_157.fr rfl (fun q h1 h2 => A_160_o q (by omega))
              have NF_8A_160 : NVm F_8 A_160 k := NF_8A_157.sto A_160_o (by decide)
              have MF_8A_160 : k = ai A_160 29 (F_8 18).toInt := by rw [ai_fr (A_160_o 29 (by decide))] <;> exact MF_8A_157
              have XF_8A_160 : ∀ i, 42 ≤ i → ai A_160 48 i = ai A 48 i := by rw [ai_fr (A_160_o 48 (by decide))]; exact XF_8A_157
              have SF_8A_160 : ∀ s, SVm F A (ai A 48 (42 + x1.toInt)) s → SVm F_8 A_160 (ai A 48 (42 + x1.toInt)) s := fun s q => (SF_8A_157 s q).fr rfl (A_160_o 19 (by decide)) (A_160_o 22 (by decide))
              refine ok_some ?_
              refine ⟨hF_8, hA_160, (fun q hq => (F_8_o q hq)), (fun q hq => (((((A_160_o q (fun e => hq (by rw [e]; decide))).trans (A_157_o q (fun e => hq (by rw [e]; decide)))).trans (A_155_o q (fun e => hq (by rw [e]; decide)))).trans (A_154_o q (fun e => hq (by rw [e]; decide)))).trans (A_9_o q (fun e => hq ((by decide : ∀ x, x ∈ ([45, 46] : List Nat) → x ∈ ([45, 46, 48, 50, 52, 53, 56] : List Nat)) q e))))), ?_⟩
              exact NF_8A_160
            · rw [i_nne] at c_152
              refine ok_call (s_d_isInUse hF_8 hA_9 (by omega) (by omega) (by assumption) (NF_8A_9)) ?_
              intro v_161 v_161_p
              have v_161_p : v_161.toInt = 0 ∨ v_161.toInt = 1 := v_161_p
              refine ok_cond (fun c_162 => ?_) (fun c_162 => ?_)
              · rw [i_eq] at c_162
                unfold d_begins1_147
                refine ok_ld (j := 48) hA_9 (by omega) (by omega) ?_
                intro v_163 v_163_e v_163_r
                refine ok_st (j := 48) hA_9 (by omega) (by omega) (trivial) ?_
                intro A_164 hA_164 A_164_o A_164_s A_164_n
                have VF_8A_164 : VMs F_8 A_164 := VF_8A_9.fr rfl (fun q h1 h2 => A_164_o q (by omega))
                have NF_8A_164 : NVm F_8 A_164 k := NF_8A_9.st48 A_164_o A_164_n (by omega)
                have MF_8A_164 : k = ai A_164 29 (F_8 18).toInt := by rw [ai_fr (A_164_o 29 (by decide))] <;> exact MF_8A_9
                have ZF_8A_164 : ai A_164 50 x1.toInt = 1 := by rw [ai_fr (A_164_o 50 (by decide))]; exact ZF_8A_9
                have XF_8A_164 : ∀ i, 42 ≤ i → ai A_164 48 i = ai A 48 i := fun i hi => (A_164_n i (by omega) (by omega)).trans (XF_8A_9 i hi)
                have SF_8A_164 : ∀ s, SVm F A (ai A 48 (42 + x1.toInt)) s → SVm F_8 A_164 (ai A 48 (42 + x1.toInt)) s := fun s q => (SF_8A_9 s q).fr rfl (A_164_o 19 (by decide)) (A_164_o 22 (by decide))
                refine ok_st (j := 53) hA_164 (by omega) (by omega) (trivial) ?_
                intro A_165 hA_165 A_165_o A_165_s A_165_n
                have VF_8A_165 : VMs F_8 A_165 := VF_8A_164.fr rfl (fun q h1 h2 => A_165_o q (by omega))
                have NF_8A_165 : NVm F_8 A_165 k := NF_8A_164.st53 A_165_o A_165_n (fun _ => by rw [ZF_8A_164]; decide)
                have MF_8A_165 : k = ai A_165 29 (F_8 18).toInt := by rw [ai_fr (A_165_o 29 (by decide))] <;> exact MF_8A_164
                have ZF_8A_165 : ai A_165 50 x1.toInt = 1 := by rw [ai_fr (A_165_o 50 (by decide))]; exact ZF_8A_164
                have XF_8A_165 : ∀ i, 42 ≤ i → ai A_165 48 i = ai A 48 i := by rw [ai_fr (A_165_o 48 (by decide))]; exact XF_8A_164
                have SF_8A_165 : ∀ s, SVm F A (ai A 48 (42 + x1.toInt)) s → SVm F_8 A_165 (ai A 48 (42 + x1.toInt)) s := fun s q => (SF_8A_164 s q).fr rfl (A_165_o 19 (by decide)) (A_165_o 22 (by decide))
                have s2 : SVm F_8 A_165 (ai A_165 48 (42 + x1.toInt)) (ai A_165 53 x1.toInt) := by rw [A_165_s, XF_8A_165 (42 + x1.toInt) (by omega)]; exact SF_8A_165 _ ⟨g1, g2, v_7_p.1, v_7_p.2⟩
                have l_166 : (2 : Int32).toInt = 2 := by decide
                refine ok_st (j := 50) hA_165 (by omega) (by omega) (trivial) ?_
                intro A_167 hA_167 A_167_o A_167_s A_167_n
                have VF_8A_167 : VMs F_8 A_167 := VF_8A_165.fr rfl (fun q h1 h2 => A_167_o q (by omega))
                have NF_8A_167 : NVm F_8 A_167 k := NF_8A_165.st50 A_167_o A_167_s A_167_n (fun _ e => by omega) (fun _ _ => s2)
                have MF_8A_167 : k = ai A_167 29 (F_8 18).toInt := by rw [ai_fr (A_167_o 29 (by decide))] <;> exact MF_8A_165
                have XF_8A_167 : ∀ i, 42 ≤ i → ai A_167 48 i = ai A 48 i := by rw [ai_fr (A_167_o 48 (by decide))]; exact XF_8A_165
                have SF_8A_167 : ∀ s, SVm F A (ai A 48 (42 + x1.toInt)) s → SVm F_8 A_167 (ai A 48 (42 + x1.toInt)) s := fun s q => (SF_8A_165 s q).fr rfl (A_167_o 19 (by decide)) (A_167_o 22 (by decide))
                refine ok_call (s_d_stepAt hF_8 (by omega) (by omega)) ?_
                intro v_168 v_168_p
                have v_168_p : v_168.toInt = 6 * (6 * (F_8 18).toInt + v_3.toInt) + v_7.toInt := v_168_p
                refine ok_ld (j := 23) hA_167 (by omega) (by omega) ?_
                intro v_169 v_169_e v_169_r
                refine ok_st (j := 52) hA_167 (by omega) (by omega) (trivial) ?_
                intro A_170 hA_170 A_170_o A_170_s A_170_n
                have VF_8A_170 : VMs F_8 A_170 := VF_8A_167.fr rfl (fun q h1 h2 => A_170_o q (by omega))
                have NF_8A_170 : NVm F_8 A_170 k := NF_8A_167.sto A_170_o (by decide)
                have MF_8A_170 : k = ai A_170 29 (F_8 18).toInt := by rw [ai_fr (A_170_o 29 (by decide))] <;> exact MF_8A_167
                have XF_8A_170 : ∀ i, 42 ≤ i → ai A_170 48 i = ai A 48 i := by rw [ai_fr (A_170_o 48 (by decide))]; exact XF_8A_167
                have SF_8A_170 : ∀ s, SVm F A (ai A 48 (42 + x1.toInt)) s → SVm F_8 A_170 (ai A 48 (42 + x1.toInt)) s := fun s q => (SF_8A_167 s q).fr rfl (A_170_o 19 (by decide)) (A_170_o 22 (by decide))
                refine ok_some ?_
                refine ⟨hF_8, hA_170, (fun q hq => (F_8_o q hq)), (fun q hq => (((((A_170_o q (fun e => hq (by rw [e]; decide))).trans (A_167_o q (fun e => hq (by rw [e]; decide)))).trans (A_165_o q (fun e => hq (by rw [e]; decide)))).trans (A_164_o q (fun e => hq (by rw [e]; decide)))).trans (A_9_o q (fun e => hq ((by decide : ∀ x, x ∈ ([45, 46] : List Nat) → x ∈ ([45, 46, 48, 50, 52, 53, 56] : List Nat)) q e))))), ?_⟩
                exact NF_8A_170
              · rw [i_neq] at c_162
                refine ok_some ?_
                refine ⟨hF_8, hA_9, (fun q hq => (F_8_o q hq)), (fun q hq => (A_9_o q (fun e => hq ((by decide : ∀ x, x ∈ ([45, 46] : List Nat) → x ∈ ([45, 46, 48, 50, 52, 53, 56] : List Nat)) q e)))), ?_⟩
                exact NF_8A_9
          · rw [i_nne] at c_151
            refine ok_ld (j := 48) hA_9 (by omega) (by omega) ?_
            intro v_171 v_171_e v_171_r
            have l_172 : (6 : Int32).toInt = 6 := by decide
            have e_173 := i_mulL (c := 6) (k := 6) (x := (F_8 18)) (by decide) (by omega) (by omega)
            have e_174 := i_add (x := (6 * (F_8 18))) (y := v_3) (by omega) (by omega)
            refine ok_ld (j := 20) hA_9 (by omega) (by omega) ?_
            intro v_175 v_175_e v_175_r
            have v_175_r : -1 ≤ v_175.toInt ∧ v_175.toInt ≤ 7 := v_175_r
            refine ok_cond (fun c_176 => ?_) (fun c_176 => ?_)
            · rw [i_eq] at c_176
              unfold d_begins1_131
              refine ok_cond (fun c_177 => ?_) (fun c_177 => ?_)
              · rw [i_ne] at c_177
                unfold d_begins1_147
                refine ok_ld (j := 48) hA_9 (by omega) (by omega) ?_
                intro v_178 v_178_e v_178_r
                refine ok_st (j := 48) hA_9 (by omega) (by omega) (trivial) ?_
                intro A_179 hA_179 A_179_o A_179_s A_179_n
                have VF_8A_179 : VMs F_8 A_179 := VF_8A_9.fr rfl (fun q h1 h2 => A_179_o q (by omega))
                have NF_8A_179 : NVm F_8 A_179 k := NF_8A_9.st48 A_179_o A_179_n (by omega)
                have MF_8A_179 : k = ai A_179 29 (F_8 18).toInt := by rw [ai_fr (A_179_o 29 (by decide))] <;> exact MF_8A_9
                have ZF_8A_179 : ai A_179 50 x1.toInt = 1 := by rw [ai_fr (A_179_o 50 (by decide))]; exact ZF_8A_9
                have XF_8A_179 : ∀ i, 42 ≤ i → ai A_179 48 i = ai A 48 i := fun i hi => (A_179_n i (by omega) (by omega)).trans (XF_8A_9 i hi)
                have SF_8A_179 : ∀ s, SVm F A (ai A 48 (42 + x1.toInt)) s → SVm F_8 A_179 (ai A 48 (42 + x1.toInt)) s := fun s q => (SF_8A_9 s q).fr rfl (A_179_o 19 (by decide)) (A_179_o 22 (by decide))
                refine ok_st (j := 53) hA_179 (by omega) (by omega) (trivial) ?_
                intro A_180 hA_180 A_180_o A_180_s A_180_n
                have VF_8A_180 : VMs F_8 A_180 := VF_8A_179.fr rfl (fun q h1 h2 => A_180_o q (by omega))
                have NF_8A_180 : NVm F_8 A_180 k := NF_8A_179.st53 A_180_o A_180_n (fun _ => by rw [ZF_8A_179]; decide)
                have MF_8A_180 : k = ai A_180 29 (F_8 18).toInt := by rw [ai_fr (A_180_o 29 (by decide))] <;> exact MF_8A_179
                have ZF_8A_180 : ai A_180 50 x1.toInt = 1 := by rw [ai_fr (A_180_o 50 (by decide))]; exact ZF_8A_179
                have XF_8A_180 : ∀ i, 42 ≤ i → ai A_180 48 i = ai A 48 i := by rw [ai_fr (A_180_o 48 (by decide))]; exact XF_8A_179
                have SF_8A_180 : ∀ s, SVm F A (ai A 48 (42 + x1.toInt)) s → SVm F_8 A_180 (ai A 48 (42 + x1.toInt)) s := fun s q => (SF_8A_179 s q).fr rfl (A_180_o 19 (by decide)) (A_180_o 22 (by decide))
                have s2 : SVm F_8 A_180 (ai A_180 48 (42 + x1.toInt)) (ai A_180 53 x1.toInt) := by rw [A_180_s, XF_8A_180 (42 + x1.toInt) (by omega)]; exact SF_8A_180 _ ⟨g1, g2, v_7_p.1, v_7_p.2⟩
                have l_181 : (2 : Int32).toInt = 2 := by decide
                refine ok_st (j := 50) hA_180 (by omega) (by omega) (trivial) ?_
                intro A_182 hA_182 A_182_o A_182_s A_182_n
                have VF_8A_182 : VMs F_8 A_182 := VF_8A_180.fr rfl (fun q h1 h2 => A_182_o q (by omega))
                have NF_8A_182 : NVm F_8 A_182 k := NF_8A_180.st50 A_182_o A_182_s A_182_n (fun _ e => by omega) (fun _ _ => s2)
                have MF_8A_182 : k = ai A_182 29 (F_8 18).toInt := by rw [ai_fr (A_182_o 29 (by decide))] <;> exact MF_8A_180
                have XF_8A_182 : ∀ i, 42 ≤ i → ai A_182 48 i = ai A 48 i := by rw [ai_fr (A_182_o 48 (by decide))]; exact XF_8A_180
                have SF_8A_182 : ∀ s, SVm F A (ai A 48 (42 + x1.toInt)) s → SVm F_8 A_182 (ai A 48 (42 + x1.toInt)) s := fun s q => (SF_8A_180 s q).fr rfl (A_182_o 19 (by decide)) (A_182_o 22 (by decide))
                refine ok_call (s_d_stepAt hF_8 (by omega) (by omega)) ?_
                intro v_183 v_183_p
                have v_183_p : v_183.toInt = 6 * (6 * (F_8 18).toInt + v_3.toInt) + v_7.toInt := v_183_p
                refine ok_ld (j := 23) hA_182 (by omega) (by omega) ?_
                intro v_184 v_184_e v_184_r
                refine ok_st (j := 52) hA_182 (by omega) (by omega) (trivial) ?_
                intro A_185 hA_185 A_185_o A_185_s A_185_n
                have VF_8A_185 : VMs F_8 A_185 := VF_8A_182.fr rfl (fun q h1 h2 => A_185_o q (by omega))
                have NF_8A_185 : NVm F_8 A_185 k := NF_8A_182.sto A_185_o (by decide)
                have MF_8A_185 : k = ai A_185 29 (F_8 18).toInt := by rw [ai_fr (A_185_o 29 (by decide))] <;> exact MF_8A_182
                have XF_8A_185 : ∀ i, 42 ≤ i → ai A_185 48 i = ai A 48 i := by rw [ai_fr (A_185_o 48 (by decide))]; exact XF_8A_182
                have SF_8A_185 : ∀ s, SVm F A (ai A 48 (42 + x1.toInt)) s → SVm F_8 A_185 (ai A 48 (42 + x1.toInt)) s := fun s q => (SF_8A_182 s q).fr rfl (A_185_o 19 (by decide)) (A_185_o 22 (by decide))
                refine ok_some ?_
                refine ⟨hF_8, hA_185, (fun q hq => (F_8_o q hq)), (fun q hq => (((((A_185_o q (fun e => hq (by rw [e]; decide))).trans (A_182_o q (fun e => hq (by rw [e]; decide)))).trans (A_180_o q (fun e => hq (by rw [e]; decide)))).trans (A_179_o q (fun e => hq (by rw [e]; decide)))).trans (A_9_o q (fun e => hq ((by decide : ∀ x, x ∈ ([45, 46] : List Nat) → x ∈ ([45, 46, 48, 50, 52, 53, 56] : List Nat)) q e))))), ?_⟩
                exact NF_8A_185
              · rw [i_nne] at c_177
                refine ok_call (s_d_isInUse hF_8 hA_9 (by omega) (by omega) (by assumption) (NF_8A_9)) ?_
                intro v_186 v_186_p
                have v_186_p : v_186.toInt = 0 ∨ v_186.toInt = 1 := v_186_p
                refine ok_cond (fun c_187 => ?_) (fun c_187 => ?_)
                · rw [i_eq] at c_187
                  unfold d_begins1_147
                  refine ok_ld (j := 48) hA_9 (by omega) (by omega) ?_
                  intro v_188 v_188_e v_188_r
                  refine ok_st (j := 48) hA_9 (by omega) (by omega) (trivial) ?_
                  intro A_189 hA_189 A_189_o A_189_s A_189_n
                  have VF_8A_189 : VMs F_8 A_189 := VF_8A_9.fr rfl (fun q h1 h2 => A_189_o q (by omega))
                  have NF_8A_189 : NVm F_8 A_189 k := NF_8A_9.st48 A_189_o A_189_n (by omega)
                  have MF_8A_189 : k = ai A_189 29 (F_8 18).toInt := by rw [ai_fr (A_189_o 29 (by decide))] <;> exact MF_8A_9
                  have ZF_8A_189 : ai A_189 50 x1.toInt = 1 := by rw [ai_fr (A_189_o 50 (by decide))]; exact ZF_8A_9
                  have XF_8A_189 : ∀ i, 42 ≤ i → ai A_189 48 i = ai A 48 i := fun i hi => (A_189_n i (by omega) (by omega)).trans (XF_8A_9 i hi)
                  have SF_8A_189 : ∀ s, SVm F A (ai A 48 (42 + x1.toInt)) s → SVm F_8 A_189 (ai A 48 (42 + x1.toInt)) s := fun s q => (SF_8A_9 s q).fr rfl (A_189_o 19 (by decide)) (A_189_o 22 (by decide))
                  refine ok_st (j := 53) hA_189 (by omega) (by omega) (trivial) ?_
                  intro A_190 hA_190 A_190_o A_190_s A_190_n
                  have VF_8A_190 : VMs F_8 A_190 := VF_8A_189.fr rfl (fun q h1 h2 => A_190_o q (by omega))
                  have NF_8A_190 : NVm F_8 A_190 k := NF_8A_189.st53 A_190_o A_190_n (fun _ => by rw [ZF_8A_189]; decide)
                  have MF_8A_190 : k = ai A_190 29 (F_8 18).toInt := by rw [ai_fr (A_190_o 29 (by decide))] <;> exact MF_8A_189
                  have ZF_8A_190 : ai A_190 50 x1.toInt = 1 := by rw [ai_fr (A_190_o 50 (by decide))]; exact ZF_8A_189
                  have XF_8A_190 : ∀ i, 42 ≤ i → ai A_190 48 i = ai A 48 i := by rw [ai_fr (A_190_o 48 (by decide))]; exact XF_8A_189
                  have SF_8A_190 : ∀ s, SVm F A (ai A 48 (42 + x1.toInt)) s → SVm F_8 A_190 (ai A 48 (42 + x1.toInt)) s := fun s q => (SF_8A_189 s q).fr rfl (A_190_o 19 (by decide)) (A_190_o 22 (by decide))
                  have s2 : SVm F_8 A_190 (ai A_190 48 (42 + x1.toInt)) (ai A_190 53 x1.toInt) := by rw [A_190_s, XF_8A_190 (42 + x1.toInt) (by omega)]; exact SF_8A_190 _ ⟨g1, g2, v_7_p.1, v_7_p.2⟩
                  have l_191 : (2 : Int32).toInt = 2 := by decide
                  refine ok_st (j := 50) hA_190 (by omega) (by omega) (trivial) ?_
                  intro A_192 hA_192 A_192_o A_192_s A_192_n
                  have VF_8A_192 : VMs F_8 A_192 := VF_8A_190.fr rfl (fun q h1 h2 => A_192_o q (by omega))
                  have NF_8A_192 : NVm F_8 A_192 k := NF_8A_190.st50 A_192_o A_192_s A_192_n (fun _ e => by omega) (fun _ _ => s2)
                  have MF_8A_192 : k = ai A_192 29 (F_8 18).toInt := by rw [ai_fr (A_192_o 29 (by decide))] <;> exact MF_8A_190
                  have XF_8A_192 : ∀ i, 42 ≤ i → ai A_192 48 i = ai A 48 i := by rw [ai_fr (A_192_o 48 (by decide))]; exact XF_8A_190
                  have SF_8A_192 : ∀ s, SVm F A (ai A 48 (42 + x1.toInt)) s → SVm F_8 A_192 (ai A 48 (42 + x1.toInt)) s := fun s q => (SF_8A_190 s q).fr rfl (A_192_o 19 (by decide)) (A_192_o 22 (by decide))
                  refine ok_call (s_d_stepAt hF_8 (by omega) (by omega)) ?_
                  intro v_193 v_193_p
                  have v_193_p : v_193.toInt = 6 * (6 * (F_8 18).toInt + v_3.toInt) + v_7.toInt := v_193_p
                  refine ok_ld (j := 23) hA_192 (by omega) (by omega) ?_
                  intro v_194 v_194_e v_194_r
                  refine ok_st (j := 52) hA_192 (by omega) (by omega) (trivial) ?_
                  intro A_195 hA_195 A_195_o A_195_s A_195_n
                  have VF_8A_195 : VMs F_8 A_195 := VF_8A_192.fr rfl (fun q h1 h2 => A_195_o q (by omega))
                  have NF_8A_195 : NVm F_8 A_195 k := NF_8A_192.sto A_195_o (by decide)
                  have MF_8A_195 : k = ai A_195 29 (F_8 18).toInt := by rw [ai_fr (A_195_o 29 (by decide))] <;> exact MF_8A_192
                  have XF_8A_195 : ∀ i, 42 ≤ i → ai A_195 48 i = ai A 48 i := by rw [ai_fr (A_195_o 48 (by decide))]; exact XF_8A_192
                  have SF_8A_195 : ∀ s, SVm F A (ai A 48 (42 + x1.toInt)) s → SVm F_8 A_195 (ai A 48 (42 + x1.toInt)) s := fun s q => (SF_8A_192 s q).fr rfl (A_195_o 19 (by decide)) (A_195_o 22 (by decide))
                  refine ok_some ?_
                  refine ⟨hF_8, hA_195, (fun q hq => (F_8_o q hq)), (fun q hq => (((((A_195_o q (fun e => hq (by rw [e]; decide))).trans (A_192_o q (fun e => hq (by rw [e]; decide)))).trans (A_190_o q (fun e => hq (by rw [e]; decide)))).trans (A_189_o q (fun e => hq (by rw [e]; decide)))).trans (A_9_o q (fun e => hq ((by decide : ∀ x, x ∈ ([45, 46] : List Nat) → x ∈ ([45, 46, 48, 50, 52, 53, 56] : List Nat)) q e))))), ?_⟩
                  exact NF_8A_195
                · rw [i_neq] at c_187
                  refine ok_some ?_
                  refine ⟨hF_8, hA_9, (fun q hq => (F_8_o q hq)), (fun q hq => (A_9_o q (fun e => hq ((by decide : ∀ x, x ∈ ([45, 46] : List Nat) → x ∈ ([45, 46, 48, 50, 52, 53, 56] : List Nat)) q e)))), ?_⟩
                  exact NF_8A_9
            · rw [i_neq] at c_176
              unfold d_begins1_124
              refine ok_call (s_d_lies hF_8 hA_9 (by omega) (NF_8A_9) (by omega)) ?_
              rintro ⟨u_196, F_197, A_198, J_199⟩ ⟨hF_197, hA_198, F_197_o, A_198_o, u_196_p⟩
              dsimp only at hF_197 hA_198 F_197_o A_198_o u_196_p ⊢
              have u_196_p : NVm F_197 A_198 k := u_196_p
              have r_200 : 0 ≤ (F_197 18).toInt ∧ (F_197 18).toInt ≤ 1 := hF_197 18
              have f_201 : (F_197 18).toInt = (F_8 18).toInt := congrArg Int32.toInt (F_197_o 18 (by decide))
              have VF_197A_198 : VMs F_197 A_198 := VF_8A_9.fr (F_197_o 18 (by decide)) (fun q h1 h2 => A_198_o q (by intro e; simp at e <;> omega))
              have NF_197A_198 : NVm F_197 A_198 k := u_196_p
              have MF_197A_198 : k = ai A_198 29 (F_197 18).toInt := by rw [ai_fr (A_198_o 29 (by decide)), F_197_o 18 (by decide)] <;> exact MF_8A_9
              have SF_197A_198 : ∀ s, SVm F A (ai A 48 (42 + x1.toInt)) s → SVm F_197 A_198 (ai A 48 (42 + x1.toInt)) s := fun s q => (SF_8A_9 s q).fr (F_197_o 18 (by decide)) (A_198_o 19 (by decide)) (A_198_o 22 (by decide))
              refine ok_some ?_
              refine ⟨hF_197, hA_198, (fun q hq => ((F_197_o q (fun e => hq ((by decide : ∀ x, x ∈ ([] : List Nat) → x ∈ ([63] : List Nat)) q e))).trans (F_8_o q hq))), (fun q hq => ((A_198_o q (fun e => hq ((by decide : ∀ x, x ∈ ([48, 50] : List Nat) → x ∈ ([45, 46, 48, 50, 52, 53, 56] : List Nat)) q e))).trans (A_9_o q (fun e => hq ((by decide : ∀ x, x ∈ ([45, 46] : List Nat) → x ∈ ([45, 46, 48, 50, 52, 53, 56] : List Nat)) q e))))), ?_⟩
              exact NF_197A_198
  · rw [i_neq] at c_6
    refine ok_st (j := 56) hA (by omega) (by omega) (show 0 ≤ (vp_nar .boolean 1).toInt ∧ (vp_nar .boolean 1).toInt ≤ 1 by decide) ?_
    intro A_202 hA_202 A_202_o A_202_s A_202_n
    have VFA_202 : VMs F A_202 := VFA.fr rfl (fun q h1 h2 => A_202_o q (by omega))
    have NFA_202 : NVm F A_202 k := NFA.sto A_202_o (by decide)
    have MFA_202 : k = ai A_202 29 (F 18).toInt := by rw [ai_fr (A_202_o 29 (by decide))] <;> exact MFA
    have ZFA_202 : ai A_202 50 x1.toInt = 1 := by rw [ai_fr (A_202_o 50 (by decide))]; exact ZFA
    have XFA_202 : ∀ i, 42 ≤ i → ai A_202 48 i = ai A 48 i := by rw [ai_fr (A_202_o 48 (by decide))]; exact XFA
    have SFA_202 : ∀ s, SVm F A (ai A 48 (42 + x1.toInt)) s → SVm F A_202 (ai A 48 (42 + x1.toInt)) s := fun s q => (SFA s q).fr rfl (A_202_o 19 (by decide)) (A_202_o 22 (by decide))
    refine ok_call (s_d_lies hF hA_202 (by omega) (NFA_202) (by omega)) ?_
    rintro ⟨u_203, F_204, A_205, J_206⟩ ⟨hF_204, hA_205, F_204_o, A_205_o, u_203_p⟩
    dsimp only at hF_204 hA_205 F_204_o A_205_o u_203_p ⊢
    have u_203_p : NVm F_204 A_205 k := u_203_p
    have r_207 : 0 ≤ (F_204 18).toInt ∧ (F_204 18).toInt ≤ 1 := hF_204 18
    have r_208 : 0 ≤ (F 18).toInt ∧ (F 18).toInt ≤ 1 := hF 18
    have f_209 : (F_204 18).toInt = (F 18).toInt := congrArg Int32.toInt (F_204_o 18 (by decide))
    have VF_204A_205 : VMs F_204 A_205 := VFA_202.fr (F_204_o 18 (by decide)) (fun q h1 h2 => A_205_o q (by intro e; simp at e <;> omega))
    have NF_204A_205 : NVm F_204 A_205 k := u_203_p
    have MF_204A_205 : k = ai A_205 29 (F_204 18).toInt := by rw [ai_fr (A_205_o 29 (by decide)), F_204_o 18 (by decide)] <;> exact MFA_202
    have SF_204A_205 : ∀ s, SVm F A (ai A 48 (42 + x1.toInt)) s → SVm F_204 A_205 (ai A 48 (42 + x1.toInt)) s := fun s q => (SFA_202 s q).fr (F_204_o 18 (by decide)) (A_205_o 19 (by decide)) (A_205_o 22 (by decide))
    refine ok_some ?_
    refine ⟨hF_204, hA_205, (fun q hq => (F_204_o q (fun e => hq ((by decide : ∀ x, x ∈ ([] : List Nat) → x ∈ ([63] : List Nat)) q e)))), (fun q hq => ((A_205_o q (fun e => hq ((by decide : ∀ x, x ∈ ([48, 50] : List Nat) → x ∈ ([45, 46, 48, 50, 52, 53, 56] : List Nat)) q e))).trans (A_202_o q (fun e => hq (by rw [e]; decide))))), ?_⟩
    exact NF_204A_205
end Qz48
section Qz49
set_option maxRecDepth 10000 in
theorem s_d_goesTill_75 {K27 : (Nat → Int32) → (Nat → Nat → Int32) → (Nat → Nat → Int64) → Int32 → Int32 → Option (Unit × (Nat → Int32) × (Nat → Nat → Int32) × (Nat → Nat → Int64))} {Q : Unit × (Nat → Int32) × (Nat → Nat → Int32) × (Nat → Nat → Int64) → Prop} {n : Nat} {F0 : Nat → Int32} {A0 : Nat → Nat → Int32} {k : Int} {F : Nat → Int32} {A : Nat → Nat → Int32} {J : Nat → Nat → Int64} {x1 : Int32} {x2 : Int32} {x3 : Int32} (hF : IFm F) (hA : IAm A) (bF : ∀ q, q ∉ ([63] : List Nat) → F q = F0 q) (bA : ∀ q, q ∉ ([45, 46, 48, 49, 50, 51, 52, 53, 54, 55, 56] : List Nat) → A q = A0 q) (hk : k ≤ 6) (hV : VMs F0 A0) (hM : k = ai A0 29 (F0 18).toInt) (NFA : NVm F A k) (rx1 : 0 ≤ x1.toInt ∧ x1.toInt ≤ 9999) (rx2 : 0 ≤ x2.toInt ∧ x2.toInt ≤ 9999) (rx3 : 0 ≤ x3.toInt ∧ x3.toInt ≤ 6) (hK27 : ∀ F A J, IFm F → IAm A → (∀ q, q ∉ ([63] : List Nat) → F q = F0 q) → (∀ q, q ∉ ([45, 46, 48, 49, 50, 51, 52, 53, 54, 55, 56] : List Nat) → A q = A0 q) → NVm F A k → ok (K27 F A J x1 (x2 + 1)) Q) (hn : 607 - x3.toInt < (n : Int)) : ok (d_goesTill_75 K27 n F A J x1 x2 x3) (Q) := by
  induction n generalizing F A J x3 with
  | zero => exact absurd hn (by omega)
  | succ n ih =>
    have r18 : 0 ≤ (F 18).toInt ∧ (F 18).toInt ≤ 1 := hF 18
    have VFA : VMs F A := hV.fr (bF 18 (by decide)) (fun q h1 h2 => bA q (by intro e; simp at e <;> omega))
    have MFA : k = ai A 29 (F 18).toInt := by rw [ai_fr (bA 29 (by decide)), bF 18 (by decide)]; exact hM
    unfold d_goesTill_75
    refine ok_call (s_d_menNow hF hA) ?_
    intro v_1 v_1_p
    have v_1_p : v_1.toInt = ai A 29 (F 18).toInt ∧ 0 ≤ v_1.toInt ∧ v_1.toInt ≤ 6 := v_1_p
    refine ok_cond (fun c_2 => ?_) (fun c_2 => ?_)
    · rw [i_ge] at c_2
      unfold d_goesTill_128
      exact hK27 _ _ _ hF hA (fun q hq => (bF q hq)) (fun q hq => (bA q hq)) (NFA)
    · rw [i_nge] at c_2
      have r_3 : 0 ≤ (F 18).toInt ∧ (F 18).toInt ≤ 1 := hF 18
      refine ok_ld (j := 41) hA (by omega) (by omega) ?_
      intro v_4 v_4_e v_4_r
      have v_4_r : 0 ≤ v_4.toInt ∧ v_4.toInt ≤ 9999 := v_4_r
      refine ok_cond (fun c_5 => ?_) (fun c_5 => ?_)
      · rw [i_ge] at c_5
        unfold d_goesTill_128
        exact hK27 _ _ _ hF hA (fun q hq => (bF q hq)) (fun q hq => (bA q hq)) (NFA)
      · rw [i_nge] at c_5
        refine ok_ld (j := 50) hA (by omega) (by omega) ?_
        intro v_6 v_6_e v_6_r
        have l_7 : (1 : Int32).toInt = 1 := by decide
        refine ok_cond (fun c_8 => ?_) (fun c_8 => ?_)
        · rw [i_ne] at c_8
          unfold d_goesTill_122
          have e_9 := i_add (x := x3) (y := 1) (by omega) (by omega)
          exact ih hF hA (fun q hq => (bF q hq)) (fun q hq => (bA q hq)) (NFA) (by omega) (by omega)
        · rw [i_nne] at c_8
          refine ok_ld (j := 51) hA (by omega) (by omega) ?_
          intro v_10 v_10_e v_10_r
          refine ok_cond (fun c_11 => ?_) (fun c_11 => ?_)
          · rw [i_gt] at c_11
            unfold d_goesTill_122
            have e_12 := i_add (x := x3) (y := 1) (by omega) (by omega)
            exact ih hF hA (fun q hq => (bF q hq)) (fun q hq => (bA q hq)) (NFA) (by omega) (by omega)
          · rw [i_ngt] at c_11
            refine ok_call (s_d_begins1 hF hA (by omega) (by omega) (by omega) (VFA) (MFA) (NFA) (by omega) (by omega)) ?_
            rintro ⟨u_13, F_14, A_15, J_16⟩ ⟨hF_14, hA_15, F_14_o, A_15_o, u_13_p⟩
            dsimp only at hF_14 hA_15 F_14_o A_15_o u_13_p ⊢
            have u_13_p : NVm F_14 A_15 k := u_13_p
            have r_17 : 0 ≤ (F_14 18).toInt ∧ (F_14 18).toInt ≤ 1 := hF_14 18
            have f_18 : (F_14 18).toInt = (F 18).toInt := congrArg Int32.toInt (F_14_o 18 (by decide))
            have VF_14A_15 : VMs F_14 A_15 := VFA.fr (F_14_o 18 (by decide)) (fun q h1 h2 => A_15_o q (by intro e; simp at e <;> omega))
            have MF_14A_15 : k = ai A_15 29 (F_14 18).toInt := by rw [ai_fr (A_15_o 29 (by decide)), F_14_o 18 (by decide)] <;> exact MFA
            have NF_14A_15 : NVm F_14 A_15 k := u_13_p
            have e_19 := i_add (x := x3) (y := 1) (by omega) (by omega)
            exact ih hF_14 hA_15 (fun q hq => ((F_14_o q hq).trans (bF q hq))) (fun q hq => ((A_15_o q (fun e => hq ((by decide : ∀ x, x ∈ ([45, 46, 48, 50, 52, 53, 56] : List Nat) → x ∈ ([45, 46, 48, 49, 50, 51, 52, 53, 54, 55, 56] : List Nat)) q e))).trans (bA q hq))) (NF_14A_15) (by omega) (by omega)
set_option maxRecDepth 10000 in
theorem s_d_goesTill_34 {K27 : (Nat → Int32) → (Nat → Nat → Int32) → (Nat → Nat → Int64) → Int32 → Int32 → Option (Unit × (Nat → Int32) × (Nat → Nat → Int32) × (Nat → Nat → Int64))} {Q : Unit × (Nat → Int32) × (Nat → Nat → Int32) × (Nat → Nat → Int64) → Prop} {n : Nat} {F0 : Nat → Int32} {A0 : Nat → Nat → Int32} {k : Int} {F : Nat → Int32} {A : Nat → Nat → Int32} {J : Nat → Nat → Int64} {x1 : Int32} {x2 : Int32} {x3 : Int32} (hF : IFm F) (hA : IAm A) (bF : ∀ q, q ∉ ([63] : List Nat) → F q = F0 q) (bA : ∀ q, q ∉ ([45, 46, 48, 49, 50, 51, 52, 53, 54, 55, 56] : List Nat) → A q = A0 q) (hk : k ≤ 6) (hV : VMs F0 A0) (hM : k = ai A0 29 (F0 18).toInt) (NFA : NVm F A k) (rx1 : 0 ≤ x1.toInt ∧ x1.toInt ≤ 9999) (rx2 : 0 ≤ x2.toInt ∧ x2.toInt ≤ 9999) (rx3 : 0 ≤ x3.toInt ∧ x3.toInt ≤ 6) (hK27 : ∀ F A J, IFm F → IAm A → (∀ q, q ∉ ([63] : List Nat) → F q = F0 q) → (∀ q, q ∉ ([45, 46, 48, 49, 50, 51, 52, 53, 54, 55, 56] : List Nat) → A q = A0 q) → NVm F A k → ok (K27 F A J x1 (x2 + 1)) Q) (hn : 615 - x3.toInt < (n : Int)) : ok (d_goesTill_34 K27 n F A J x1 x2 x3) (Q) := by
  induction n generalizing F A J x3 with
  | zero => exact absurd hn (by omega)
  | succ n ih =>
    have r18 : 0 ≤ (F 18).toInt ∧ (F 18).toInt ≤ 1 := hF 18
    have VFA : VMs F A := hV.fr (bF 18 (by decide)) (fun q h1 h2 => bA q (by intro e; simp at e <;> omega))
    have MFA : k = ai A 29 (F 18).toInt := by rw [ai_fr (bA 29 (by decide)), bF 18 (by decide)]; exact hM
    unfold d_goesTill_34
    refine ok_call (s_d_menNow hF hA) ?_
    intro v_1 v_1_p
    have v_1_p : v_1.toInt = ai A 29 (F 18).toInt ∧ 0 ≤ v_1.toInt ∧ v_1.toInt ≤ 6 := v_1_p
    refine ok_cond (fun c_2 => ?_) (fun c_2 => ?_)
    · rw [i_ge] at c_2
      have l_3 : (0 : Int32).toInt = 0 := by decide
      have l_4 : (1 : Int32).toInt = 1 := by decide
      have e_5 := i_add (x := x2) (y := 1) (by omega) (by omega)
      exact s_d_goesTill_75 (K27 := K27) hF hA (fun q hq => (bF q hq)) (fun q hq => (bA q hq)) (by omega) (hV) (hM) (NFA) (by omega) (by omega) (by omega) (fun F A J hF hA bF bA hN => hK27 _ _ _ hF hA bF bA hN) (by omega)
    · rw [i_nge] at c_2
      refine ok_ld (j := 50) hA (by omega) (by omega) ?_
      intro v_6 v_6_e v_6_r
      have l_7 : (2 : Int32).toInt = 2 := by decide
      refine ok_cond (fun c_8 => ?_) (fun c_8 => ?_)
      · rw [i_ne] at c_8
        unfold d_goesTill_67
        have l_9 : (1 : Int32).toInt = 1 := by decide
        have e_10 := i_add (x := x3) (y := 1) (by omega) (by omega)
        exact ih hF hA (fun q hq => (bF q hq)) (fun q hq => (bA q hq)) (NFA) (by omega) (by omega)
      · rw [i_nne] at c_8
        refine ok_ld (j := 52) hA (by omega) (by omega) ?_
        intro v_11 v_11_e v_11_r
        refine ok_cond (fun c_12 => ?_) (fun c_12 => ?_)
        · rw [i_ne] at c_12
          unfold d_goesTill_67
          have l_13 : (1 : Int32).toInt = 1 := by decide
          have e_14 := i_add (x := x3) (y := 1) (by omega) (by omega)
          exact ih hF hA (fun q hq => (bF q hq)) (fun q hq => (bA q hq)) (NFA) (by omega) (by omega)
        · rw [i_nne] at c_12
          refine ok_call (s_d_isOver hF hA (by omega) (by omega) (VFA) (NFA) (by omega) (by omega)) ?_
          rintro ⟨u_15, F_16, A_17, J_18⟩ ⟨hF_16, hA_17, F_16_o, A_17_o, u_15_p⟩
          dsimp only at hF_16 hA_17 F_16_o A_17_o u_15_p ⊢
          have u_15_p : NVm F_16 A_17 k := u_15_p
          have r_19 : 0 ≤ (F_16 18).toInt ∧ (F_16 18).toInt ≤ 1 := hF_16 18
          have r_20 : 0 ≤ (F 18).toInt ∧ (F 18).toInt ≤ 1 := hF 18
          have f_21 : (F_16 18).toInt = (F 18).toInt := congrArg Int32.toInt (F_16_o 18 (by decide))
          have VF_16A_17 : VMs F_16 A_17 := VFA.fr (F_16_o 18 (by decide)) (fun q h1 h2 => A_17_o q (by intro e; simp at e <;> omega))
          have MF_16A_17 : k = ai A_17 29 (F_16 18).toInt := by rw [ai_fr (A_17_o 29 (by decide)), F_16_o 18 (by decide)] <;> exact MFA
          have NF_16A_17 : NVm F_16 A_17 k := u_15_p
          have l_22 : (1 : Int32).toInt = 1 := by decide
          have e_23 := i_add (x := x3) (y := 1) (by omega) (by omega)
          exact ih hF_16 hA_17 (fun q hq => ((F_16_o q (fun e => hq ((by decide : ∀ x, x ∈ ([] : List Nat) → x ∈ ([63] : List Nat)) q e))).trans (bF q hq))) (fun q hq => ((A_17_o q (fun e => hq ((by decide : ∀ x, x ∈ ([48, 50, 54, 55] : List Nat) → x ∈ ([45, 46, 48, 49, 50, 51, 52, 53, 54, 55, 56] : List Nat)) q e))).trans (bA q hq))) (NF_16A_17) (by omega) (by omega)
set_option maxRecDepth 10000 in
theorem s_d_goesTill_27  {n : Nat} {F0 : Nat → Int32} {A0 : Nat → Nat → Int32} {k : Int} {F : Nat → Int32} {A : Nat → Nat → Int32} {J : Nat → Nat → Int64} {x1 : Int32} {x2 : Int32} (hF : IFm F) (hA : IAm A) (bF : ∀ q, q ∉ ([63] : List Nat) → F q = F0 q) (bA : ∀ q, q ∉ ([45, 46, 48, 49, 50, 51, 52, 53, 54, 55, 56] : List Nat) → A q = A0 q) (hk : k ≤ 6) (hV : VMs F0 A0) (hM : k = ai A0 29 (F0 18).toInt) (hx12 : x2.toInt ≤ x1.toInt + 1) (NFA : NVm F A k) (rx1 : 0 ≤ x1.toInt ∧ x1.toInt ≤ 9999) (rx2 : 0 ≤ x2.toInt ∧ x2.toInt ≤ 10000) (hn : x1.toInt - x2.toInt + 620 < (n : Int)) : ok (d_goesTill_27 n F A J x1 x2) (fun r => IFm r.2.1 ∧ IAm r.2.2.1 ∧ (∀ q, q ∉ ([63] : List Nat) → r.2.1 q = F0 q) ∧ (∀ q, q ∉ ([45, 46, 48, 49, 50, 51, 52, 53, 54, 55, 56] : List Nat) → r.2.2.1 q = A0 q) ∧ NVm r.2.1 r.2.2.1 k) := by
  induction n generalizing F A J x2 with
  | zero => exact absurd hn (by omega)
  | succ n ih =>
    have r18 : 0 ≤ (F 18).toInt ∧ (F 18).toInt ≤ 1 := hF 18
    have VFA : VMs F A := hV.fr (bF 18 (by decide)) (fun q h1 h2 => bA q (by intro e; simp at e <;> omega))
    have MFA : k = ai A 29 (F 18).toInt := by rw [ai_fr (bA 29 (by decide)), bF 18 (by decide)]; exact hM
    unfold d_goesTill_27
    refine ok_cond (fun c_1 => ?_) (fun c_1 => ?_)
    · rw [i_gt] at c_1
      refine ok_some ?_
      refine ⟨hF, hA, (fun q hq => (bF q hq)), (fun q hq => (bA q hq)), ?_⟩
      exact NFA
    · rw [i_ngt] at c_1
      have l_2 : (0 : Int32).toInt = 0 := by decide
      have l_3 : (1 : Int32).toInt = 1 := by decide
      have e_4 := i_add (x := x2) (y := 1) (by omega) (by omega)
      exact s_d_goesTill_34 (K27 := (d_goesTill_27 n)) hF hA (fun q hq => (bF q hq)) (fun q hq => (bA q hq)) (by omega) (hV) (hM) (NFA) (by omega) (by omega) (by omega) (fun F A J hF hA bF bA hN => ih hF hA bF bA (by omega) (hN) (by omega) (by omega)) (by omega)
set_option maxRecDepth 10000 in
theorem s_d_goesTill_6  {n : Nat} {F0 : Nat → Int32} {A0 : Nat → Nat → Int32} {k : Int} {F : Nat → Int32} {A : Nat → Nat → Int32} {J : Nat → Nat → Int64} {x1 : Int32} {x2 : Int32} (hF : IFm F) (hA : IAm A) (bF : ∀ q, q ∉ ([63] : List Nat) → F q = F0 q) (bA : ∀ q, q ∉ ([45, 46, 48, 49, 50, 51, 52, 53, 54, 55, 56] : List Nat) → A q = A0 q) (hk : k ≤ 6) (hV : VMs F0 A0) (hM : k = ai A0 29 (F0 18).toInt) (hx2 : x2.toInt ≤ k) (RFA : RVm F A 48 k) (NFA : NVm F A x2.toInt) (rx1 : 0 ≤ x1.toInt ∧ x1.toInt ≤ 9999) (rx2 : 0 ≤ x2.toInt ∧ x2.toInt ≤ 6) (hn : 10630 - x2.toInt < (n : Int)) : ok (d_goesTill_6 n F A J x1 x2) (fun r => IFm r.2.1 ∧ IAm r.2.2.1 ∧ (∀ q, q ∉ ([63] : List Nat) → r.2.1 q = F0 q) ∧ (∀ q, q ∉ ([45, 46, 48, 49, 50, 51, 52, 53, 54, 55, 56] : List Nat) → r.2.2.1 q = A0 q) ∧ NVm r.2.1 r.2.2.1 k) := by
  induction n generalizing F A J x2 with
  | zero => exact absurd hn (by omega)
  | succ n ih =>
    have r18 : 0 ≤ (F 18).toInt ∧ (F 18).toInt ≤ 1 := hF 18
    have VFA : VMs F A := hV.fr (bF 18 (by decide)) (fun q h1 h2 => bA q (by intro e; simp at e <;> omega))
    have MFA : k = ai A 29 (F 18).toInt := by rw [ai_fr (bA 29 (by decide)), bF 18 (by decide)]; exact hM
    unfold d_goesTill_6
    refine ok_call (s_d_menNow hF hA) ?_
    intro v_1 v_1_p
    have v_1_p : v_1.toInt = ai A 29 (F 18).toInt ∧ 0 ≤ v_1.toInt ∧ v_1.toInt ≤ 6 := v_1_p
    refine ok_cond (fun c_2 => ?_) (fun c_2 => ?_)
    · rw [i_ge] at c_2
      have l_3 : (0 : Int32).toInt = 0 := by decide
      exact s_d_goesTill_27 hF hA (fun q hq => (bF q hq)) (fun q hq => (bA q hq)) (by omega) (hV) (hM) (by omega) (NFA.mono (by omega)) (by omega) (by omega) (by omega)
    · rw [i_nge] at c_2
      refine ok_call (s_d_getsUp hF hA (by omega) (by omega) (VFA) (MFA) (RFA) (NFA) (by omega)) ?_
      rintro ⟨u_4, F_5, A_6, J_7⟩ ⟨hF_5, hA_6, F_5_o, A_6_o, u_4_p⟩
      dsimp only at hF_5 hA_6 F_5_o A_6_o u_4_p ⊢
      have u_4_p : NVm F_5 A_6 (x2.toInt + 1) ∧ RVm F_5 A_6 48 k := u_4_p
      have r_8 : 0 ≤ (F_5 18).toInt ∧ (F_5 18).toInt ≤ 1 := hF_5 18
      have r_9 : 0 ≤ (F 18).toInt ∧ (F 18).toInt ≤ 1 := hF 18
      have f_10 : (F_5 18).toInt = (F 18).toInt := congrArg Int32.toInt (F_5_o 18 (by decide))
      have VF_5A_6 : VMs F_5 A_6 := VFA.fr (F_5_o 18 (by decide)) (fun q h1 h2 => A_6_o q (by intro e; simp at e <;> omega))
      have MF_5A_6 : k = ai A_6 29 (F_5 18).toInt := by rw [ai_fr (A_6_o 29 (by decide)), F_5_o 18 (by decide)] <;> exact MFA
      have N1 : NVm F_5 A_6 (x2.toInt + 1) := u_4_p.1
      have R1 : RVm F_5 A_6 48 k := u_4_p.2
      have l_11 : (1 : Int32).toInt = 1 := by decide
      have e_12 := i_add (x := x2) (y := 1) (by omega) (by omega)
      exact ih hF_5 hA_6 (fun q hq => ((F_5_o q (fun e => hq ((by decide : ∀ x, x ∈ ([] : List Nat) → x ∈ ([63] : List Nat)) q e))).trans (bF q hq))) (fun q hq => ((A_6_o q (fun e => hq ((by decide : ∀ x, x ∈ ([48, 50, 51, 54, 55, 56] : List Nat) → x ∈ ([45, 46, 48, 49, 50, 51, 52, 53, 54, 55, 56] : List Nat)) q e))).trans (bA q hq))) (by omega) (R1) (by rw [show (x2 + 1).toInt = x2.toInt + 1 by omega]; exact N1) (by omega) (by omega)
set_option maxRecDepth 10000 in
theorem s_d_goesTill {n : Nat} {k : Int} {F : Nat → Int32} {A : Nat → Nat → Int32} {J : Nat → Nat → Int64} {x1 : Int32} (hF : IFm F) (hA : IAm A) (hn : 10640 ≤ n) (hk : k ≤ 6) (hk0 : 0 ≤ k) (VFA : VMs F A) (MFA : k = ai A 29 (F 18).toInt) (RFA : RVm F A 48 k) (rx1 : 0 ≤ x1.toInt ∧ x1.toInt ≤ 9999) : ok (d_goesTill n F A J x1) (fun r => IFm r.2.1 ∧ IAm r.2.2.1 ∧ (∀ q, q ∉ ([63] : List Nat) → r.2.1 q = F q) ∧ (∀ q, q ∉ ([45, 46, 48, 49, 50, 51, 52, 53, 54, 55, 56] : List Nat) → r.2.2.1 q = A q) ∧ NVm r.2.1 r.2.2.1 k) := by
  have r18 : 0 ≤ (F 18).toInt ∧ (F 18).toInt ≤ 1 := hF 18
  unfold d_goesTill
  refine ok_call (s_d_fillsWays hF hA (by omega) (VFA)) ?_
  rintro ⟨u_1, F_2, A_3, J_4⟩ ⟨hF_2, hA_3, F_2_o, A_3_o, u_1_p⟩
  dsimp only at hF_2 hA_3 F_2_o A_3_o u_1_p ⊢
  have r_5 : 0 ≤ (F_2 18).toInt ∧ (F_2 18).toInt ≤ 1 := hF_2 18
  have r_6 : 0 ≤ (F 18).toInt ∧ (F 18).toInt ≤ 1 := hF 18
  have f_7 : (F_2 18).toInt = (F 18).toInt := congrArg Int32.toInt (F_2_o 18 (by decide))
  have VF_2A_3 : VMs F_2 A_3 := VFA.fr (F_2_o 18 (by decide)) (fun q h1 h2 => A_3_o q (by intro e; simp at e <;> omega))
  have MF_2A_3 : k = ai A_3 29 (F_2 18).toInt := by rw [ai_fr (A_3_o 29 (by decide)), F_2_o 18 (by decide)] <;> exact MFA
  have RF_2A_3 : RVm F_2 A_3 48 k := RFA.cg (F_2_o 18 (by decide)) (A_3_o 19 (by decide)) (A_3_o 22 (by decide)) (fun m _ _ => by rw [ai_fr (A_3_o 48 (by decide))]; exact ⟨rfl, rfl⟩)
  have l_8 : (0 : Int32).toInt = 0 := by decide
  refine ok_mono (s_d_goesTill_6 hF_2 hA_3 (fun q hq => (F_2_o q (fun e => hq ((by decide : ∀ x, x ∈ ([] : List Nat) → x ∈ ([63] : List Nat)) q e)))) (fun q hq => (A_3_o q (fun e => hq ((by decide : ∀ x, x ∈ ([49] : List Nat) → x ∈ ([45, 46, 48, 49, 50, 51, 52, 53, 54, 55, 56] : List Nat)) q e)))) (by omega) (VFA) (MFA) (by omega) (RF_2A_3) (fun m h0 h1 => absurd h1 (by omega)) (by omega) (by omega) (by omega)) ?_
  rintro ⟨v_9, F_10, A_11, J_12⟩ ⟨hF_10, hA_11, F_10_o, A_11_o, v_9_p⟩
  dsimp only at hF_10 hA_11 F_10_o A_11_o v_9_p ⊢
  have v_9_p : NVm F_10 A_11 k := v_9_p
  refine ⟨hF_10, hA_11, (fun q hq => (F_10_o q hq)), (fun q hq => (A_11_o q hq)), ?_⟩
  exact v_9_p
end Qz49
section Qz50
set_option maxRecDepth 10000 in
theorem s_d_wholeNight_20  {n : Nat} {k : Int} {F : Nat → Int32} {A : Nat → Nat → Int32} {J : Nat → Nat → Int64} {x1 : Int32} {x2 : Int32} (hF : IFm F) (hA : IAm A) (hk : k ≤ 6) (MFA : k = ai A 29 (F 18).toInt) (hx2 : x2.toInt ≤ k) (WFA : WVm F A k) (RFA : RVm F A 48 x2.toInt) (rx2 : 0 ≤ x2.toInt ∧ x2.toInt ≤ 6) (hn : 30 - x2.toInt < (n : Int)) : ok (d_wholeNight_20 n F A J x1 x2) (fun r => IFm r.2.1 ∧ IAm r.2.2.1 ∧ (∀ q, q ∉ ([] : List Nat) → r.2.1 q = F q) ∧ (∀ q, q ∉ ([48] : List Nat) → r.2.2.1 q = A q) ∧ RVm r.2.1 r.2.2.1 48 k) := by
  induction n generalizing F A J x2 with
  | zero => exact absurd hn (by omega)
  | succ n ih =>
    have r18 : 0 ≤ (F 18).toInt ∧ (F 18).toInt ≤ 1 := hF 18
    unfold d_wholeNight_20
    refine ok_call (s_d_menNow hF hA) ?_
    intro v_1 v_1_p
    have v_1_p : v_1.toInt = ai A 29 (F 18).toInt ∧ 0 ≤ v_1.toInt ∧ v_1.toInt ≤ 6 := v_1_p
    refine ok_cond (fun c_2 => ?_) (fun c_2 => ?_)
    · rw [i_ge] at c_2
      have l_3 : (79 : Int32).toInt = 79 := by decide
      refine ok_ld (j := 48) hA (by omega) (by omega) ?_
      intro v_4 v_4_e v_4_r
      refine ok_st (j := 48) hA (by omega) (by omega) (trivial) ?_
      intro A_5 hA_5 A_5_o A_5_s A_5_n
      have MFA_5 : k = ai A_5 29 (F 18).toInt := by rw [ai_fr (A_5_o 29 (by decide))] <;> exact MFA
      have WFA_5 : WVm F A_5 k := WFA.st48 A_5_o A_5_n (by omega)
      have RFA_5 : RVm F A_5 48 x2.toInt := RFA.stx (by decide) A_5_o A_5_n (fun m h0 h1 => ⟨by omega, by omega⟩)
      refine ok_call (s_d_worthNow hF hA_5 (by omega)) ?_
      intro v_6 v_6_p
      refine ok_some ?_
      refine ⟨hF, hA_5, (fun q hq => rfl), (fun q hq => (A_5_o q (fun e => hq (by rw [e]; decide)))), ?_⟩
      exact (RFA_5).mono (by omega)
    · rw [i_nge] at c_2
      refine ok_ld (j := 55) hA (by omega) (by omega) ?_
      intro v_7 v_7_e v_7_r
      have l_8 : (54 : Int32).toInt = 54 := by decide
      have e_9 := i_add (x := 54) (y := x2) (by omega) (by omega)
      refine ok_st (j := 48) hA (by omega) (by omega) (trivial) ?_
      intro A_10 hA_10 A_10_o A_10_s A_10_n
      have MFA_10 : k = ai A_10 29 (F 18).toInt := by rw [ai_fr (A_10_o 29 (by decide))] <;> exact MFA
      have WFA_10 : WVm F A_10 k := WFA.st48 A_10_o A_10_n (by omega)
      have RFA_10 : RVm F A_10 48 x2.toInt := RFA.stx (by decide) A_10_o A_10_n (fun m h0 h1 => ⟨by omega, by omega⟩)
      have l_11 : (60 : Int32).toInt = 60 := by decide
      have e_12 := i_add (x := 60) (y := x2) (by omega) (by omega)
      refine ok_ld (j := 48) hA_10 (by omega) (by omega) ?_
      intro v_13 v_13_e v_13_r
      refine ok_ld (j := 55) hA_10 (by omega) (by omega) ?_
      intro v_14 v_14_e v_14_r
      refine ok_st (j := 48) hA_10 (by omega) (by omega) (trivial) ?_
      intro A_15 hA_15 A_15_o A_15_s A_15_n
      have MFA_15 : k = ai A_15 29 (F 18).toInt := by rw [ai_fr (A_15_o 29 (by decide))] <;> exact MFA_10
      have WFA_15 : WVm F A_15 k := WFA_10.st48 A_15_o A_15_n (by omega)
      have RFA_15 : RVm F A_15 48 x2.toInt := RFA_10.stx (by decide) A_15_o A_15_n (fun m h0 h1 => ⟨by omega, by omega⟩)
      refine ok_ld (j := 54) hA_15 (by omega) (by omega) ?_
      intro v_16 v_16_e v_16_r
      have l_17 : (48 : Int32).toInt = 48 := by decide
      have e_18 := i_add (x := 48) (y := x2) (by omega) (by omega)
      refine ok_st (j := 48) hA_15 (by omega) (by omega) (trivial) ?_
      intro A_19 hA_19 A_19_o A_19_s A_19_n
      have MFA_19 : k = ai A_19 29 (F 18).toInt := by rw [ai_fr (A_19_o 29 (by decide))] <;> exact MFA_15
      have WFA_19 : WVm F A_19 k := WFA_15.st48 A_19_o A_19_n (by omega)
      have RFA_19 : RVm F A_19 48 x2.toInt := RFA_15.stx (by decide) A_19_o A_19_n (fun m h0 h1 => ⟨by omega, by omega⟩)
      have yy : 0 ≤ ai A_19 48 (42 + x2.toInt) → SVm F A_19 (ai A_19 48 (42 + x2.toInt)) (ai A_19 48 (48 + x2.toInt)) := fun q => by rw [show ai A_19 48 (48 + x2.toInt) = ai A_19 54 x2.toInt by rw [ai_fr (A_19_o 54 (by decide)), ← v_16_e, ← A_19_s]; congr 1 <;> omega]; exact WFA_19 x2.toInt (by omega) (by omega) q
      refine ok_ld (j := 56) hA_19 (by omega) (by omega) ?_
      intro v_20 v_20_e v_20_r
      have v_20_r : 0 ≤ v_20.toInt ∧ v_20.toInt ≤ 1 := v_20_r
      have l_21 : (0 : Int32).toInt = 0 := by decide
      refine ok_cond (fun c_22 => ?_) (fun c_22 => ?_)
      · rw [i_ne] at c_22
        have l_23 : (42 : Int32).toInt = 42 := by decide
        have e_24 := i_add (x := 42) (y := x2) (by omega) (by omega)
        have l21 : (-1 : Int32).toInt = -1 := by decide
        refine ok_st (j := 48) hA_19 (by omega) (by omega) (trivial) ?_
        intro A_25 hA_25 A_25_o A_25_s A_25_n
        have MFA_25 : k = ai A_25 29 (F 18).toInt := by rw [ai_fr (A_25_o 29 (by decide))] <;> exact MFA_19
        have WFA_25 : WVm F A_25 k := WFA_19.neg A_25_o A_25_s A_25_n (by omega)
        have RFA_25 : RVm F A_25 48 x2.toInt := RFA_19.stx (by decide) A_25_o A_25_n (fun m h0 h1 => ⟨by omega, by omega⟩)
        have z21 : ai A_25 48 (42 + x2.toInt) = -1 := by rw [show 42 + x2.toInt = (42 + x2).toInt by omega, A_25_s]; decide
        refine ok_st (j := 48) hA_25 (by omega) (by omega) (trivial) ?_
        intro A_26 hA_26 A_26_o A_26_s A_26_n
        have MFA_26 : k = ai A_26 29 (F 18).toInt := by rw [ai_fr (A_26_o 29 (by decide))] <;> exact MFA_25
        have WFA_26 : WVm F A_26 k := WFA_25.st48 A_26_o A_26_n (by omega)
        have RFA_26 : RVm F A_26 48 x2.toInt := RFA_25.stx (by decide) A_26_o A_26_n (fun m h0 h1 => ⟨by omega, by omega⟩)
        have yy : 0 ≤ ai A_26 48 (42 + x2.toInt) → SVm F A_26 (ai A_26 48 (42 + x2.toInt)) (ai A_26 48 (48 + x2.toInt)) := fun q => absurd q (by rw [A_26_n (42 + x2.toInt) (by omega) (by omega), z21]; decide)
        have l_27 : (1 : Int32).toInt = 1 := by decide
        have e_28 := i_add (x := x2) (y := 1) (by omega) (by omega)
        refine ok_mono (ih hF hA_26 (MFA_26) (by omega) (WFA_26) (by rw [show (x2 + 1).toInt = x2.toInt + 1 by omega]; exact RFA_26.ext yy) (by omega) (by omega)) ?_
        rintro ⟨v_29, F_30, A_31, J_32⟩ ⟨hF_30, hA_31, F_30_o, A_31_o, v_29_p⟩
        dsimp only at hF_30 hA_31 F_30_o A_31_o v_29_p ⊢
        have v_29_p : RVm F_30 A_31 48 k := v_29_p
        have MF_30A_31 : k = ai A_31 29 (F_30 18).toInt := by rw [ai_fr (A_31_o 29 (by decide)), F_30_o 18 (by decide)] <;> exact MFA_26
        refine ⟨hF_30, hA_31, (fun q hq => (F_30_o q hq)), (fun q hq => ((((((A_31_o q hq).trans (A_26_o q (fun e => hq (by rw [e]; decide)))).trans (A_25_o q (fun e => hq (by rw [e]; decide)))).trans (A_19_o q (fun e => hq (by rw [e]; decide)))).trans (A_15_o q (fun e => hq (by rw [e]; decide)))).trans (A_10_o q (fun e => hq (by rw [e]; decide))))), ?_⟩
        exact v_29_p
      · rw [i_nne] at c_22
        unfold d_wholeNight_108
        have l_33 : (1 : Int32).toInt = 1 := by decide
        have e_34 := i_add (x := x2) (y := 1) (by omega) (by omega)
        refine ok_mono (ih hF hA_19 (MFA_19) (by omega) (WFA_19) (by rw [show (x2 + 1).toInt = x2.toInt + 1 by omega]; exact RFA_19.ext yy) (by omega) (by omega)) ?_
        rintro ⟨v_35, F_36, A_37, J_38⟩ ⟨hF_36, hA_37, F_36_o, A_37_o, v_35_p⟩
        dsimp only at hF_36 hA_37 F_36_o A_37_o v_35_p ⊢
        have v_35_p : RVm F_36 A_37 48 k := v_35_p
        have MF_36A_37 : k = ai A_37 29 (F_36 18).toInt := by rw [ai_fr (A_37_o 29 (by decide)), F_36_o 18 (by decide)] <;> exact MFA_19
        refine ⟨hF_36, hA_37, (fun q hq => (F_36_o q hq)), (fun q hq => ((((A_37_o q hq).trans (A_19_o q (fun e => hq (by rw [e]; decide)))).trans (A_15_o q (fun e => hq (by rw [e]; decide)))).trans (A_10_o q (fun e => hq (by rw [e]; decide))))), ?_⟩
        exact v_35_p
set_option maxRecDepth 10000 in
theorem s_d_wholeNight {n : Nat} {k : Int} {F : Nat → Int32} {A : Nat → Nat → Int32} {J : Nat → Nat → Int64}  (hF : IFm F) (hA : IAm A) (hn : 10700 ≤ n) (hk : k ≤ 6) (hk0 : 0 ≤ k) (VFA : VMs F A) (MFA : k = ai A 29 (F 18).toInt) (RFA : RVm F A 48 k) : ok (d_wholeNight n F A J) (fun r => IFm r.2.1 ∧ IAm r.2.2.1 ∧ (∀ q, q ∉ ([63] : List Nat) → r.2.1 q = F q) ∧ (∀ q, q ∉ ([45, 46, 48, 49, 50, 51, 52, 53, 54, 55, 56] : List Nat) → r.2.2.1 q = A q) ∧ RVm r.2.1 r.2.2.1 48 k) := by
  have r18 : 0 ≤ (F 18).toInt ∧ (F 18).toInt ≤ 1 := hF 18
  unfold d_wholeNight
  refine ok_call (s_d_worthNow hF hA (by omega)) ?_
  intro v_1 v_1_p
  have r_2 : 0 ≤ (F 18).toInt ∧ (F 18).toInt ≤ 1 := hF 18
  refine ok_ld (j := 41) hA (by omega) (by omega) ?_
  intro v_3 v_3_e v_3_r
  have v_3_r : 0 ≤ v_3.toInt ∧ v_3.toInt ≤ 9999 := v_3_r
  refine ok_call (s_d_goesTill hF hA (by omega) (by omega) (by omega) (VFA) (MFA) (RFA) (by omega)) ?_
  rintro ⟨u_4, F_5, A_6, J_7⟩ ⟨hF_5, hA_6, F_5_o, A_6_o, u_4_p⟩
  dsimp only at hF_5 hA_6 F_5_o A_6_o u_4_p ⊢
  have u_4_p : NVm F_5 A_6 k := u_4_p
  have r_8 : 0 ≤ (F_5 18).toInt ∧ (F_5 18).toInt ≤ 1 := hF_5 18
  have f_9 : (F_5 18).toInt = (F 18).toInt := congrArg Int32.toInt (F_5_o 18 (by decide))
  have VF_5A_6 : VMs F_5 A_6 := VFA.fr (F_5_o 18 (by decide)) (fun q h1 h2 => A_6_o q (by intro e; simp at e <;> omega))
  have MF_5A_6 : k = ai A_6 29 (F_5 18).toInt := by rw [ai_fr (A_6_o 29 (by decide)), F_5_o 18 (by decide)] <;> exact MFA
  have W1 : WVm F_5 A_6 k := NVm.toW u_4_p
  have l_10 : (0 : Int32).toInt = 0 := by decide
  refine ok_mono (s_d_wholeNight_20 hF_5 hA_6 (by omega) (MF_5A_6) (by omega) (W1) (fun m h0 h1 => absurd h1 (by omega)) (by omega) (by omega)) ?_
  rintro ⟨v_11, F_12, A_13, J_14⟩ ⟨hF_12, hA_13, F_12_o, A_13_o, v_11_p⟩
  dsimp only at hF_12 hA_13 F_12_o A_13_o v_11_p ⊢
  have v_11_p : RVm F_12 A_13 48 k := v_11_p
  have VF_12A_13 : VMs F_12 A_13 := VF_5A_6.fr (F_12_o 18 (by decide)) (fun q h1 h2 => A_13_o q (by intro e; simp at e <;> omega))
  have MF_12A_13 : k = ai A_13 29 (F_12 18).toInt := by rw [ai_fr (A_13_o 29 (by decide)), F_12_o 18 (by decide)] <;> exact MF_5A_6
  refine ⟨hF_12, hA_13, (fun q hq => ((F_12_o q (fun e => hq ((by decide : ∀ x, x ∈ ([] : List Nat) → x ∈ ([63] : List Nat)) q e))).trans (F_5_o q hq))), (fun q hq => ((A_13_o q (fun e => hq ((by decide : ∀ x, x ∈ ([48] : List Nat) → x ∈ ([45, 46, 48, 49, 50, 51, 52, 53, 54, 55, 56] : List Nat)) q e))).trans (A_6_o q hq))), ?_⟩
  exact v_11_p
end Qz50
section Qz51
/-! rows of a hundred, copied -/
def RHm (F : Nat → Int32) (A : Nat → Nat → Int32) (j : Nat) (o k : Int) : Prop := ∀ m, 0 ≤ m → m < k → 0 ≤ ai A j (o + (42 + m)) → SVm F A (ai A j (o + (42 + m))) (ai A j (o + (48 + m)))
def HIm (F : Nat → Int32) (A : Nat → Nat → Int32) (k : Int) : Prop := ∀ u, 0 ≤ u → u < (F 74).toInt → RHm F A 57 (100 * u) k
def HEm (F : Nat → Int32) (A : Nat → Nat → Int32) (k : Int) : Prop := ∀ s, 0 ≤ s → s < 3 → ai A 61 s = 1 → RHm F A 62 (100 * s) k
section CP
variable {F F' : Nat → Int32} {A A' A1 : Nat → Nat → Int32} {k i x y : Int} {j j' : Nat}
theorem RVm.toH (h : RVm F A j k) : RHm F A j 0 k := fun m h0 h1 => by
  rw [Int.zero_add, Int.zero_add]
  exact h m h0 h1
theorem RHm.toV (h : RHm F A j 0 k) : RVm F A j k := fun m h0 h1 => by
  have e := h m h0 h1
  rw [Int.zero_add, Int.zero_add] at e
  exact e
theorem RHm.cp {o o' : Int} (h : RHm F A j' o' k) (hk : k ≤ 6) (e : ∀ t, 0 ≤ t → t < 100 → ai A j (o + t) = ai A j' (o' + t)) : RHm F A j o k := fun m h0 h1 => by
  rw [e (42 + m) (by omega) (by omega), e (48 + m) (by omega) (by omega)]
  exact h m h0 h1
theorem RHm.cg {o : Int} (h : RHm F A j o k) (hF : F' 18 = F 18) (h19 : A' 19 = A 19) (h22 : A' 22 = A 22) (e : ∀ m, 0 ≤ m → m < k → ai A' j (o + (42 + m)) = ai A j (o + (42 + m)) ∧ ai A' j (o + (48 + m)) = ai A j (o + (48 + m))) : RHm F' A' j o k := fun m h0 h1 => by
  rw [(e m h0 h1).1, (e m h0 h1).2]
  exact fun q => (h m h0 h1 q).fr hF h19 h22
theorem RHm.fr {o : Int} (h : RHm F A j o k) (hF : F' 18 = F 18) (h19 : A' 19 = A 19) (h22 : A' 22 = A 22) (hj : A' j = A j) : RHm F' A' j o k :=
  h.cg hF h19 h22 (fun m _ _ => by rw [ai_fr hj]; exact ⟨rfl, rfl⟩)
theorem HIm.fr (h : HIm F A k) (hF : F' 18 = F 18) (hU : F' 74 = F 74) (h19 : A' 19 = A 19) (h22 : A' 22 = A 22) (hj : A' 57 = A 57) : HIm F' A' k := fun u h0 h1 =>
  (h u h0 (by rw [hU] at h1; exact h1)).fr hF h19 h22 hj
theorem HEm.fr (h : HEm F A k) (hF : F' 18 = F 18) (h19 : A' 19 = A 19) (h22 : A' 22 = A 22) (h61 : A' 61 = A 61) (h62 : A' 62 = A 62) : HEm F' A' k := fun s h0 h1 h2 =>
  (h s h0 h1 (by rw [ai_fr h61] at h2; exact h2)).fr hF h19 h22 h62
/-- a copy of one more -/
theorem cp_st {o o' v i' : Int} (o1 : ∀ q, q ≠ j → A' q = A q) (s : ai A' j i = v) (n : ∀ q, 0 ≤ q → q ≠ i → ai A' j q = ai A j q) (hv : v = ai A j' i') (hjj : j' ≠ j) (C : ∀ t, 0 ≤ t → t < x → ai A j (o + t) = ai A j' (o' + t)) (hi : i = o + x) (hi' : i' = o' + x) (h0 : 0 ≤ o) : ∀ t, 0 ≤ t → t < x + 1 → ai A' j (o + t) = ai A' j' (o' + t) := by
  intro t t0 t1
  rw [ai_fr (o1 j' hjj)]
  by_cases e : t = x
  · subst e
    rw [← hi, s, hv, hi']
  · rw [n _ (by omega) (by omega)]
    exact C t t0 (by omega)
/-- a task and a step are put for a man -/
theorem RVm.lv {i1 i2 : Int} (h : RVm F A j k) (hj : 19 ≠ j ∧ 22 ≠ j) (o1 : ∀ q, q ≠ j → A1 q = A q) (s1 : ai A1 j i1 = x) (n1 : ∀ q, 0 ≤ q → q ≠ i1 → ai A1 j q = ai A j q) (o2 : ∀ q, q ≠ j → A' q = A1 q) (s2 : ai A' j i2 = y) (n2 : ∀ q, 0 ≤ q → q ≠ i2 → ai A' j q = ai A1 j q) (e1 : i1 = 42 + i) (e2 : i2 = 48 + i) (hi : 0 ≤ i ∧ i ≤ 5) (hk : k ≤ 6) (hx : 0 ≤ x → SVm F A x y) : RVm F A' j k := by
  intro m m0 m1
  have fr : ∀ {t s : Int}, SVm F A t s → SVm F A' t s := fun w => w.fr rfl ((o2 19 hj.1).trans (o1 19 hj.1)) ((o2 22 hj.2).trans (o1 22 hj.2))
  by_cases e : m = i
  · subst e
    rw [← e1, ← e2, s2, n2 i1 (by omega) (by omega), s1]
    exact fun q => fr (hx q)
  · rw [n2 (42 + m) (by omega) (by omega), n1 (42 + m) (by omega) (by omega), n2 (48 + m) (by omega) (by omega), n1 (48 + m) (by omega) (by omega)]
    exact fun q => fr (h m m0 m1 q)
end CP
section HI
variable {F F' : Nat → Int32} {A A' B : Nat → Nat → Int32} {k i x : Int}
theorem HIm.st (h : HIm F A k) (o1 : ∀ q, q ≠ 57 → A' q = A q) (n : ∀ q, 0 ≤ q → q ≠ i → ai A' 57 q = ai A 57 q) (hi : 100 * (F 74).toInt ≤ i) (hk : k ≤ 6) : HIm F A' k := fun u h0 h1 =>
  (h u h0 h1).cg rfl (o1 19 (by decide)) (o1 22 (by decide)) (fun m m0 m1 => ⟨n _ (by omega) (by omega), n _ (by omega) (by omega)⟩)
theorem HIm.up (h : HIm F A k) (P : RVm F A 47 k) (C : ∀ t, 0 ≤ t → t < 100 → ai A 57 (100 * (F 74).toInt + t) = ai A 47 (0 + t)) (hF : F' 18 = F 18) (hU : (F' 74).toInt = (F 74).toInt + 1) (hk : k ≤ 6) : HIm F' A k := fun u h0 h1 => by
  by_cases e : u = (F 74).toInt
  · subst e
    exact (P.toH.cp hk C).fr hF rfl rfl rfl
  · exact (h u h0 (by omega)).fr hF rfl rfl rfl
theorem HIm.dn (h : HIm F A k) (hF : F' 18 = F 18) (hU : (F' 74).toInt ≤ (F 74).toInt) : HIm F' A k := fun u h0 h1 =>
  (h u h0 (by omega)).fr hF rfl rfl rfl
theorem HIm.sh (h : HIm F B k) (h19 : A 19 = B 19) (h22 : A 22 = B 22) (hS : ∀ i, 0 ≤ i → i < 1900 → ai A 57 i = ai B 57 (i + 100)) (hF : F' 18 = F 18) (hU : (F 74).toInt = 20) (hU' : (F' 74).toInt ≤ 19) (hk : k ≤ 6) : HIm F' A k := fun u h0 h1 m m0 m1 => by
  have w := h (u + 1) (by omega) (by omega) m m0 m1
  rw [hS _ (by omega) (by omega), hS _ (by omega) (by omega)]
  rw [show 100 * u + (42 + m) + 100 = 100 * (u + 1) + (42 + m) by omega, show 100 * u + (48 + m) + 100 = 100 * (u + 1) + (48 + m) by omega]
  exact fun q => (w q).fr hF h19 h22
/-- what is held, but for one -/
def HEx (F : Nat → Int32) (A : Nat → Nat → Int32) (x k : Int) : Prop := ∀ s, 0 ≤ s → s < 3 → s ≠ x → ai A 61 s = 1 → RHm F A 62 (100 * s) k
theorem HEx.st (h : HEx F A x k) (o1 : ∀ q, q ≠ 62 → A' q = A q) (n : ∀ q, 0 ≤ q → q ≠ i → ai A' 62 q = ai A 62 q) (hi : 100 * x ≤ i) (hi' : i < 100 * x + 100) (hk : k ≤ 6) : HEx F A' x k := fun s h0 h1 h2 h3 =>
  (h s h0 h1 h2 (by rw [ai_fr (o1 61 (by decide))] at h3; exact h3)).cg rfl (o1 19 (by decide)) (o1 22 (by decide)) (fun m m0 m1 => ⟨n _ (by omega) (by omega), n _ (by omega) (by omega)⟩)
theorem HEx.fin (h : HEx F A x k) (r : RHm F A 62 (100 * x) k) : HEm F A k := fun s h0 h1 h2 => by
  by_cases e : s = x
  · subst e; exact r
  · exact h s h0 h1 e h2
theorem HEm.at (h : HEm F A k) (o1 : ∀ q, q ≠ 61 → A' q = A q) (n : ∀ q, 0 ≤ q → q ≠ x → ai A' 61 q = ai A 61 q) : HEx F A' x k := fun s h0 h1 h2 h3 =>
  (h s h0 h1 (by rw [n s h0 h2] at h3; exact h3)).fr rfl (o1 19 (by decide)) (o1 22 (by decide)) (o1 62 (by decide))
theorem i_shl12 {v : Int32} (h0 : 0 ≤ v.toInt) (h1 : v.toInt ≤ 12) : 1 ≤ (1 <<< (v &&& 31) : Int32).toInt ∧ (1 <<< (v &&& 31) : Int32).toInt ≤ 4096 := by
  have e : v = Int32.ofInt v.toInt := i_ext (by rw [Int32.toInt_ofInt_of_le (by omega) (by omega)])
  have d : ∀ i : Fin 13, 1 ≤ (1 <<< (Int32.ofInt (i.val : Int) &&& 31) : Int32).toInt ∧ (1 <<< (Int32.ofInt (i.val : Int) &&& 31) : Int32).toInt ≤ 4096 := by decide
  have w := d ⟨v.toInt.toNat, by omega⟩
  rw [show ((⟨v.toInt.toNat, by omega⟩ : Fin 13).val : Int) = v.toInt by show ((v.toInt.toNat : Nat) : Int) = v.toInt; omega, ← e] at w
  exact w
end HI
theorem i_m8 {x : Int32} (h : 0 ≤ x.toInt) : (x + -8).toInt = x.toInt - 8 := by
  have lm : (-8 : Int32).toInt = -8 := by decide
  have r := i_rng x
  exact (i_add (by rw [lm]; omega) (by rw [lm]; omega)).trans (by rw [lm]; rfl)
end Qz51
section Qz52
set_option maxRecDepth 10000 in
theorem s_d_isTask {F : Nat → Int32} {A : Nat → Nat → Int32} {J : Nat → Nat → Int64} {x1 : Int32} (hF : IFm F) (hA : IAm A) : ok (d_isTask F A J x1) (fun v => (v.toInt = 0 ∨ (v.toInt = 1 ∧ 0 ≤ x1.toInt ∧ x1.toInt < ai A 19 (F 18).toInt ∧ x1.toInt < 6))) := by
  have r18 : 0 ≤ (F 18).toInt ∧ (F 18).toInt ≤ 1 := hF 18
  unfold d_isTask
  refine ok_call (s_d_tasksNow hF hA) ?_
  intro v_1 v_1_p
  have v_1_p : v_1.toInt = ai A 19 (F 18).toInt ∧ 0 ≤ v_1.toInt ∧ v_1.toInt ≤ 6 := v_1_p
  have l_2 : (0 : Int32).toInt = 0 := by decide
  have l_3 : (1 : Int32).toInt = 1 := by decide
  have e_4 := i_sub (x := v_1) (y := 1) (by omega) (by omega)
  refine ok_call (s_d_in ) ?_
  intro v_5 v_5_p
  have v_5_p : v_5.toInt = (if (0 : Int32).toInt ≤ x1.toInt ∧ x1.toInt ≤ (v_1 - 1).toInt then 1 else 0) := v_5_p
  refine ok_zr0 (by omega) ?_
  refine ok_some ?_
  (first | trivial | omega | exact ⟨by omega, by omega⟩ | assumption)
set_option maxRecDepth 10000 in
theorem s_d_isMan {F : Nat → Int32} {A : Nat → Nat → Int32} {J : Nat → Nat → Int64} {x1 : Int32} (hF : IFm F) (hA : IAm A) : ok (d_isMan F A J x1) (fun v => (v.toInt = 0 ∨ (v.toInt = 1 ∧ 0 ≤ x1.toInt ∧ x1.toInt < ai A 29 (F 18).toInt ∧ x1.toInt < 6))) := by
  have r18 : 0 ≤ (F 18).toInt ∧ (F 18).toInt ≤ 1 := hF 18
  unfold d_isMan
  refine ok_call (s_d_menNow hF hA) ?_
  intro v_1 v_1_p
  have v_1_p : v_1.toInt = ai A 29 (F 18).toInt ∧ 0 ≤ v_1.toInt ∧ v_1.toInt ≤ 6 := v_1_p
  have l_2 : (0 : Int32).toInt = 0 := by decide
  have l_3 : (1 : Int32).toInt = 1 := by decide
  have e_4 := i_sub (x := v_1) (y := 1) (by omega) (by omega)
  refine ok_call (s_d_in ) ?_
  intro v_5 v_5_p
  have v_5_p : v_5.toInt = (if (0 : Int32).toInt ≤ x1.toInt ∧ x1.toInt ≤ (v_1 - 1).toInt then 1 else 0) := v_5_p
  refine ok_zr0 (by omega) ?_
  refine ok_some ?_
  (first | trivial | omega | exact ⟨by omega, by omega⟩ | assumption)
set_option maxRecDepth 10000 in
theorem s_d_isRoom {F : Nat → Int32} {A : Nat → Nat → Int32} {J : Nat → Nat → Int64} {x1 : Int32} (hF : IFm F) (hA : IAm A) : ok (d_isRoom F A J x1) (fun v => (v.toInt = 0 ∨ (v.toInt = 1 ∧ 0 ≤ x1.toInt ∧ x1.toInt < ai A 11 (F 18).toInt ∧ x1.toInt < 8))) := by
  have r18 : 0 ≤ (F 18).toInt ∧ (F 18).toInt ≤ 1 := hF 18
  unfold d_isRoom
  have r_1 : 0 ≤ (F 18).toInt ∧ (F 18).toInt ≤ 1 := hF 18
  refine ok_ld (j := 11) hA (by omega) (by omega) ?_
  intro v_2 v_2_e v_2_r
  have v_2_r : 0 ≤ v_2.toInt ∧ v_2.toInt ≤ 8 := v_2_r
  have l_3 : (0 : Int32).toInt = 0 := by decide
  have l_4 : (1 : Int32).toInt = 1 := by decide
  have e_5 := i_sub (x := v_2) (y := 1) (by omega) (by omega)
  refine ok_call (s_d_in ) ?_
  intro v_6 v_6_p
  have v_6_p : v_6.toInt = (if (0 : Int32).toInt ≤ x1.toInt ∧ x1.toInt ≤ (v_2 - 1).toInt then 1 else 0) := v_6_p
  refine ok_zr0 (by omega) ?_
  refine ok_some ?_
  (first | trivial | omega | exact ⟨by omega, by omega⟩ | assumption)
set_option maxRecDepth 10000 in
theorem s_d_isTool {F : Nat → Int32} {A : Nat → Nat → Int32} {J : Nat → Nat → Int64} {x1 : Int32} (hF : IFm F) (hA : IAm A) : ok (d_isTool F A J x1) (fun v => (v.toInt = 0 ∨ (v.toInt = 1 ∧ 0 ≤ x1.toInt ∧ x1.toInt < ai A 17 (F 18).toInt ∧ x1.toInt < 6))) := by
  have r18 : 0 ≤ (F 18).toInt ∧ (F 18).toInt ≤ 1 := hF 18
  unfold d_isTool
  have r_1 : 0 ≤ (F 18).toInt ∧ (F 18).toInt ≤ 1 := hF 18
  refine ok_ld (j := 17) hA (by omega) (by omega) ?_
  intro v_2 v_2_e v_2_r
  have v_2_r : 0 ≤ v_2.toInt ∧ v_2.toInt ≤ 6 := v_2_r
  have l_3 : (0 : Int32).toInt = 0 := by decide
  have l_4 : (1 : Int32).toInt = 1 := by decide
  have e_5 := i_sub (x := v_2) (y := 1) (by omega) (by omega)
  refine ok_call (s_d_in ) ?_
  intro v_6 v_6_p
  have v_6_p : v_6.toInt = (if (0 : Int32).toInt ≤ x1.toInt ∧ x1.toInt ≤ (v_2 - 1).toInt then 1 else 0) := v_6_p
  refine ok_zr0 (by omega) ?_
  refine ok_some ?_
  (first | trivial | omega | exact ⟨by omega, by omega⟩ | assumption)
set_option maxRecDepth 10000 in
theorem s_d_isStep {F : Nat → Int32} {A : Nat → Nat → Int32} {J : Nat → Nat → Int64} {x1 : Int32} {x2 : Int32} (hF : IFm F) (hA : IAm A) : ok (d_isStep F A J x1 x2) (fun v => (v.toInt = 0 ∨ (v.toInt = 1 ∧ 0 ≤ x1.toInt ∧ x1.toInt < ai A 19 (F 18).toInt ∧ x1.toInt < 6 ∧ 0 ≤ x2.toInt ∧ x2.toInt < ai A 22 (6 * (F 18).toInt + x1.toInt) ∧ x2.toInt < 6))) := by
  have r18 : 0 ≤ (F 18).toInt ∧ (F 18).toInt ≤ 1 := hF 18
  unfold d_isStep
  refine ok_call (s_d_isTask hF hA) ?_
  intro v_1 v_1_p
  have v_1_p : (v_1.toInt = 0 ∨ (v_1.toInt = 1 ∧ 0 ≤ x1.toInt ∧ x1.toInt < ai A 19 (F 18).toInt ∧ x1.toInt < 6)) := v_1_p
  have l_2 : (0 : Int32).toInt = 0 := by decide
  refine ok_cond (fun c_3 => ?_) (fun c_3 => ?_)
  · rw [i_eq] at c_3
    refine ok_some ?_
    (first | trivial | omega | exact ⟨by omega, by omega⟩ | assumption)
  · rw [i_neq] at c_3
    refine ok_call (s_d_stepsOf hF hA (by omega)) ?_
    intro v_4 v_4_p
    have v_4_p : v_4.toInt = ai A 22 (6 * (F 18).toInt + x1.toInt) ∧ 0 ≤ v_4.toInt ∧ v_4.toInt ≤ 6 := v_4_p
    have l_5 : (1 : Int32).toInt = 1 := by decide
    have e_6 := i_sub (x := v_4) (y := 1) (by omega) (by omega)
    refine ok_call (s_d_in ) ?_
    intro v_7 v_7_p
    have v_7_p : v_7.toInt = (if (0 : Int32).toInt ≤ x2.toInt ∧ x2.toInt ≤ (v_4 - 1).toInt then 1 else 0) := v_7_p
    refine ok_cond (fun c_8 => ?_) (fun c_8 => ?_)
    · rw [i_eq] at c_8
      refine ok_some ?_
      (first | trivial | omega | exact ⟨by omega, by omega⟩ | assumption)
    · rw [i_neq] at c_8
      refine ok_some ?_
      (first | trivial | omega | exact ⟨by omega, by omega⟩ | assumption)
set_option maxRecDepth 10000 in
theorem s_d_isLeft {F : Nat → Int32} {A : Nat → Nat → Int32} {J : Nat → Nat → Int64} {x1 : Int32} {x2 : Int32} (hF : IFm F) (hA : IAm A) : ok (d_isLeft F A J x1 x2) (fun v => (v.toInt = 0 ∨ (v.toInt = 1 ∧ ((x1.toInt = -1 ∧ x2.toInt = -1) ∨ (0 ≤ x1.toInt ∧ x1.toInt < ai A 19 (F 18).toInt ∧ x1.toInt < 6 ∧ 0 ≤ x2.toInt ∧ x2.toInt < ai A 22 (6 * (F 18).toInt + x1.toInt) ∧ x2.toInt < 6))))) := by
  have r18 : 0 ≤ (F 18).toInt ∧ (F 18).toInt ≤ 1 := hF 18
  unfold d_isLeft
  have l_1 : (-1 : Int32).toInt = -1 := by decide
  refine ok_cond (fun c_2 => ?_) (fun c_2 => ?_)
  · rw [i_ne] at c_2
    unfold d_isLeft_10
    refine ok_call (s_d_isStep hF hA) ?_
    intro v_3 v_3_p
    have v_3_p : (v_3.toInt = 0 ∨ (v_3.toInt = 1 ∧ 0 ≤ x1.toInt ∧ x1.toInt < ai A 19 (F 18).toInt ∧ x1.toInt < 6 ∧ 0 ≤ x2.toInt ∧ x2.toInt < ai A 22 (6 * (F 18).toInt + x1.toInt) ∧ x2.toInt < 6)) := v_3_p
    have l_4 : (0 : Int32).toInt = 0 := by decide
    refine ok_cond (fun c_5 => ?_) (fun c_5 => ?_)
    · rw [i_eq] at c_5
      refine ok_some ?_
      (first | trivial | omega | exact ⟨by omega, by omega⟩ | assumption)
    · rw [i_neq] at c_5
      refine ok_some ?_
      have l_6 : (1 : Int32).toInt = 1 := by decide
      (first | trivial | omega | exact ⟨by omega, by omega⟩ | assumption)
  · rw [i_nne] at c_2
    refine ok_cond (fun c_7 => ?_) (fun c_7 => ?_)
    · rw [i_eq] at c_7
      refine ok_some ?_
      have l_8 : (1 : Int32).toInt = 1 := by decide
      (first | trivial | omega | exact ⟨by omega, by omega⟩ | assumption)
    · rw [i_neq] at c_7
      unfold d_isLeft_10
      refine ok_call (s_d_isStep hF hA) ?_
      intro v_9 v_9_p
      have v_9_p : (v_9.toInt = 0 ∨ (v_9.toInt = 1 ∧ 0 ≤ x1.toInt ∧ x1.toInt < ai A 19 (F 18).toInt ∧ x1.toInt < 6 ∧ 0 ≤ x2.toInt ∧ x2.toInt < ai A 22 (6 * (F 18).toInt + x1.toInt) ∧ x2.toInt < 6)) := v_9_p
      have l_10 : (0 : Int32).toInt = 0 := by decide
      refine ok_cond (fun c_11 => ?_) (fun c_11 => ?_)
      · rw [i_eq] at c_11
        refine ok_some ?_
        (first | trivial | omega | exact ⟨by omega, by omega⟩ | assumption)
      · rw [i_neq] at c_11
        refine ok_some ?_
        have l_12 : (1 : Int32).toInt = 1 := by decide
        (first | trivial | omega | exact ⟨by omega, by omega⟩ | assumption)
set_option maxRecDepth 10000 in
theorem s_d_orNone  {x0 : Int32}  : ok (d_orNone x0) (fun v => True) := by
  unfold d_orNone
  have l_1 : (0 : Int32).toInt = 0 := by decide
  refine ok_cond (fun c_2 => ?_) (fun c_2 => ?_)
  · rw [i_ge] at c_2
    refine ok_some ?_
    (first | trivial | omega | exact ⟨by omega, by omega⟩ | assumption)
  · rw [i_nge] at c_2
    refine ok_some ?_
    have l_3 : (-2 : Int32).toInt = -2 := by decide
    (first | trivial | omega | exact ⟨by omega, by omega⟩ | assumption)
set_option maxRecDepth 10000 in
theorem s_d_step {F : Nat → Int32} {A : Nat → Nat → Int32} {J : Nat → Nat → Int64} {x1 : Int32} {x2 : Int32} {x3 : Int32} (hF : IFm F) (hA : IAm A) : ok (d_step F A J x1 x2 x3) (fun v => True) := by
  have r18 : 0 ≤ (F 18).toInt ∧ (F 18).toInt ≤ 1 := hF 18
  unfold d_step
  refine ok_call (s_d_isStep hF hA) ?_
  intro v_1 v_1_p
  have v_1_p : (v_1.toInt = 0 ∨ (v_1.toInt = 1 ∧ 0 ≤ x1.toInt ∧ x1.toInt < ai A 19 (F 18).toInt ∧ x1.toInt < 6 ∧ 0 ≤ x2.toInt ∧ x2.toInt < ai A 22 (6 * (F 18).toInt + x1.toInt) ∧ x2.toInt < 6)) := v_1_p
  have l_2 : (0 : Int32).toInt = 0 := by decide
  refine ok_cond (fun c_3 => ?_) (fun c_3 => ?_)
  · rw [i_ne] at c_3
    refine ok_call (s_d_stepAt hF (by omega) (by omega)) ?_
    intro v_4 v_4_p
    have v_4_p : v_4.toInt = 6 * (6 * (F 18).toInt + x1.toInt) + x2.toInt := v_4_p
    refine ok_cond (fun c_5 => ?_) (fun c_5 => ?_)
    · rw [i_dec] at c_5
      have l_6 : (6 : Int32).toInt = 6 := by decide
      have e_7 := i_mulL (c := 6) (k := 6) (x := x1) (by decide) (by omega) (by omega)
      have e_8 := i_add (x := 6) (y := (6 * x1)) (by omega) (by omega)
      have e_9 := i_add (x := (6 + (6 * x1))) (y := x2) (by omega) (by omega)
      refine ok_ld (j := 47) hA (by omega) (by omega) ?_
      intro v_10 v_10_e v_10_r
      refine ok_some ?_
      (first | trivial | omega | exact ⟨by omega, by omega⟩ | assumption)
    · rw [i_ndec] at c_5
      have l_11 : (1 : Int32).toInt = 1 := by decide
      refine ok_cond (fun c_12 => ?_) (fun c_12 => ?_)
      · rw [i_dec] at c_12
        refine ok_ld (j := 23) hA (by omega) (by omega) ?_
        intro v_13 v_13_e v_13_r
        refine ok_some ?_
        (first | trivial | omega | exact ⟨by omega, by omega⟩ | assumption)
      · rw [i_ndec] at c_12
        have l_14 : (2 : Int32).toInt = 2 := by decide
        refine ok_cond (fun c_15 => ?_) (fun c_15 => ?_)
        · rw [i_dec] at c_15
          refine ok_ld (j := 24) hA (by omega) (by omega) ?_
          intro v_16 v_16_e v_16_r
          refine ok_some ?_
          (first | trivial | omega | exact ⟨by omega, by omega⟩ | assumption)
        · rw [i_ndec] at c_15
          have l_17 : (3 : Int32).toInt = 3 := by decide
          refine ok_cond (fun c_18 => ?_) (fun c_18 => ?_)
          · rw [i_dec] at c_18
            refine ok_ld (j := 25) hA (by omega) (by omega) ?_
            intro v_19 v_19_e v_19_r
            refine ok_some ?_
            (first | trivial | omega | exact ⟨by omega, by omega⟩ | assumption)
          · rw [i_ndec] at c_18
            have l_20 : (4 : Int32).toInt = 4 := by decide
            refine ok_cond (fun c_21 => ?_) (fun c_21 => ?_)
            · rw [i_dec] at c_21
              refine ok_ld (j := 26) hA (by omega) (by omega) ?_
              intro v_22 v_22_e v_22_r
              refine ok_some ?_
              (first | trivial | omega | exact ⟨by omega, by omega⟩ | assumption)
            · rw [i_ndec] at c_21
              have l_23 : (5 : Int32).toInt = 5 := by decide
              refine ok_cond (fun c_24 => ?_) (fun c_24 => ?_)
              · rw [i_dec] at c_24
                refine ok_ld (j := 27) hA (by omega) (by omega) ?_
                intro v_25 v_25_e v_25_r
                have v_25_r : -1 ≤ v_25.toInt ∧ v_25.toInt ≤ 5 := v_25_r
                refine ok_call (s_d_orNone ) ?_
                intro v_26 v_26_p
                refine ok_some ?_
                (first | trivial | omega | exact ⟨by omega, by omega⟩ | assumption)
              · rw [i_ndec] at c_24
                have l_27 : (6 : Int32).toInt = 6 := by decide
                refine ok_cond (fun c_28 => ?_) (fun c_28 => ?_)
                · rw [i_dec] at c_28
                  refine ok_ld (j := 28) hA (by omega) (by omega) ?_
                  intro v_29 v_29_e v_29_r
                  refine ok_call (s_d_orNone ) ?_
                  intro v_30 v_30_p
                  refine ok_some ?_
                  (first | trivial | omega | exact ⟨by omega, by omega⟩ | assumption)
                · rw [i_ndec] at c_28
                  refine ok_some ?_
                  have l_31 : (-1 : Int32).toInt = -1 := by decide
                  (first | trivial | omega | exact ⟨by omega, by omega⟩ | assumption)
  · rw [i_nne] at c_3
    refine ok_some ?_
    have l_32 : (-1 : Int32).toInt = -1 := by decide
    (first | trivial | omega | exact ⟨by omega, by omega⟩ | assumption)
set_option maxRecDepth 10000 in
theorem s_d_man {F : Nat → Int32} {A : Nat → Nat → Int32} {J : Nat → Nat → Int64} {x1 : Int32} {x2 : Int32} (hF : IFm F) (hA : IAm A) : ok (d_man F A J x1 x2) (fun v => True) := by
  have r18 : 0 ≤ (F 18).toInt ∧ (F 18).toInt ≤ 1 := hF 18
  unfold d_man
  refine ok_call (s_d_isMan hF hA) ?_
  intro v_1 v_1_p
  have v_1_p : (v_1.toInt = 0 ∨ (v_1.toInt = 1 ∧ 0 ≤ x1.toInt ∧ x1.toInt < ai A 29 (F 18).toInt ∧ x1.toInt < 6)) := v_1_p
  have l_2 : (0 : Int32).toInt = 0 := by decide
  refine ok_cond (fun c_3 => ?_) (fun c_3 => ?_)
  · rw [i_ne] at c_3
    refine ok_cond (fun c_4 => ?_) (fun c_4 => ?_)
    · rw [i_dec] at c_4
      have l_5 : (6 : Int32).toInt = 6 := by decide
      have r_6 : 0 ≤ (F 18).toInt ∧ (F 18).toInt ≤ 1 := hF 18
      have e_7 := i_mulL (c := 6) (k := 6) (x := (F 18)) (by decide) (by omega) (by omega)
      have e_8 := i_add (x := (6 * (F 18))) (y := x1) (by omega) (by omega)
      refine ok_ld (j := 30) hA (by omega) (by omega) ?_
      intro v_9 v_9_e v_9_r
      have v_9_r : -1 ≤ v_9.toInt ∧ v_9.toInt ≤ 7 := v_9_r
      refine ok_some ?_
      (first | trivial | omega | exact ⟨by omega, by omega⟩ | assumption)
    · rw [i_ndec] at c_4
      have l_10 : (1 : Int32).toInt = 1 := by decide
      refine ok_cond (fun c_11 => ?_) (fun c_11 => ?_)
      · rw [i_dec] at c_11
        have l_12 : (42 : Int32).toInt = 42 := by decide
        have e_13 := i_add (x := 42) (y := x1) (by omega) (by omega)
        refine ok_ld (j := 47) hA (by omega) (by omega) ?_
        intro v_14 v_14_e v_14_r
        refine ok_call (s_d_orNone ) ?_
        intro v_15 v_15_p
        refine ok_some ?_
        (first | trivial | omega | exact ⟨by omega, by omega⟩ | assumption)
      · rw [i_ndec] at c_11
        have l_16 : (2 : Int32).toInt = 2 := by decide
        refine ok_cond (fun c_17 => ?_) (fun c_17 => ?_)
        · rw [i_dec] at c_17
          have l_18 : (48 : Int32).toInt = 48 := by decide
          have e_19 := i_add (x := 48) (y := x1) (by omega) (by omega)
          refine ok_ld (j := 47) hA (by omega) (by omega) ?_
          intro v_20 v_20_e v_20_r
          refine ok_call (s_d_orNone ) ?_
          intro v_21 v_21_p
          refine ok_some ?_
          (first | trivial | omega | exact ⟨by omega, by omega⟩ | assumption)
        · rw [i_ndec] at c_17
          have l_22 : (3 : Int32).toInt = 3 := by decide
          refine ok_cond (fun c_23 => ?_) (fun c_23 => ?_)
          · rw [i_dec] at c_23
            have l_24 : (54 : Int32).toInt = 54 := by decide
            have e_25 := i_add (x := 54) (y := x1) (by omega) (by omega)
            refine ok_ld (j := 47) hA (by omega) (by omega) ?_
            intro v_26 v_26_e v_26_r
            refine ok_some ?_
            (first | trivial | omega | exact ⟨by omega, by omega⟩ | assumption)
          · rw [i_ndec] at c_23
            have l_27 : (4 : Int32).toInt = 4 := by decide
            refine ok_cond (fun c_28 => ?_) (fun c_28 => ?_)
            · rw [i_dec] at c_28
              have l_29 : (60 : Int32).toInt = 60 := by decide
              have e_30 := i_add (x := 60) (y := x1) (by omega) (by omega)
              refine ok_ld (j := 47) hA (by omega) (by omega) ?_
              intro v_31 v_31_e v_31_r
              refine ok_some ?_
              (first | trivial | omega | exact ⟨by omega, by omega⟩ | assumption)
            · rw [i_ndec] at c_28
              have l_32 : (5 : Int32).toInt = 5 := by decide
              refine ok_cond (fun c_33 => ?_) (fun c_33 => ?_)
              · rw [i_dec] at c_33
                have l_34 : (66 : Int32).toInt = 66 := by decide
                have e_35 := i_add (x := 66) (y := x1) (by omega) (by omega)
                refine ok_ld (j := 47) hA (by omega) (by omega) ?_
                intro v_36 v_36_e v_36_r
                refine ok_some ?_
                (first | trivial | omega | exact ⟨by omega, by omega⟩ | assumption)
              · rw [i_ndec] at c_33
                refine ok_some ?_
                have l_37 : (-1 : Int32).toInt = -1 := by decide
                (first | trivial | omega | exact ⟨by omega, by omega⟩ | assumption)
  · rw [i_nne] at c_3
    refine ok_some ?_
    have l_38 : (-1 : Int32).toInt = -1 := by decide
    (first | trivial | omega | exact ⟨by omega, by omega⟩ | assumption)
set_option maxRecDepth 10000 in
theorem s_d_tool {F : Nat → Int32} {A : Nat → Nat → Int32} {J : Nat → Nat → Int64} {x1 : Int32} (hF : IFm F) (hA : IAm A) : ok (d_tool F A J x1) (fun v => True) := by
  have r18 : 0 ≤ (F 18).toInt ∧ (F 18).toInt ≤ 1 := hF 18
  unfold d_tool
  refine ok_call (s_d_isTool hF hA) ?_
  intro v_1 v_1_p
  have v_1_p : (v_1.toInt = 0 ∨ (v_1.toInt = 1 ∧ 0 ≤ x1.toInt ∧ x1.toInt < ai A 17 (F 18).toInt ∧ x1.toInt < 6)) := v_1_p
  have l_2 : (0 : Int32).toInt = 0 := by decide
  refine ok_cond (fun c_3 => ?_) (fun c_3 => ?_)
  · rw [i_eq] at c_3
    refine ok_some ?_
    have l_4 : (-1 : Int32).toInt = -1 := by decide
    (first | trivial | omega | exact ⟨by omega, by omega⟩ | assumption)
  · rw [i_neq] at c_3
    have l_5 : (72 : Int32).toInt = 72 := by decide
    have e_6 := i_add (x := 72) (y := x1) (by omega) (by omega)
    refine ok_ld (j := 47) hA (by omega) (by omega) ?_
    intro v_7 v_7_e v_7_r
    refine ok_some ?_
    (first | trivial | omega | exact ⟨by omega, by omega⟩ | assumption)
set_option maxRecDepth 10000 in
theorem s_d_place {F : Nat → Int32} {A : Nat → Nat → Int32} {J : Nat → Nat → Int64}  (hF : IFm F) (hA : IAm A) : ok (d_place F A J) (fun v => True) := by
  have r18 : 0 ≤ (F 18).toInt ∧ (F 18).toInt ≤ 1 := hF 18
  unfold d_place
  refine ok_some ?_
  (first | trivial | omega | exact ⟨by omega, by omega⟩ | assumption)
set_option maxRecDepth 10000 in
theorem s2_d_takes_2  {n : Nat} {k : Int} {F : Nat → Int32} {A : Nat → Nat → Int32} {J : Nat → Nat → Int64} {x1 : Int32} (hF : IFm F) (hA : IAm A) (hk : k ≤ 6) (PFA : RVm F A 47 k) (CFA : ∀ t, 0 ≤ t → t < x1.toInt → ai A 48 (0 + t) = ai A 47 (0 + t)) (rx1 : 0 ≤ x1.toInt ∧ x1.toInt ≤ 100) (hn : 100 - x1.toInt < (n : Int)) : ok (d_takes_2 n F A J x1) (fun r => IFm r.2.1 ∧ IAm r.2.2.1 ∧ (∀ q, q ∉ ([] : List Nat) → r.2.1 q = F q) ∧ (∀ q, q ∉ ([48] : List Nat) → r.2.2.1 q = A q) ∧ RVm r.2.1 r.2.2.1 48 k) := by
  induction n generalizing F A J x1 with
  | zero => exact absurd hn (by omega)
  | succ n ih =>
    have r18 : 0 ≤ (F 18).toInt ∧ (F 18).toInt ≤ 1 := hF 18
    unfold d_takes_2
    have l_1 : (100 : Int32).toInt = 100 := by decide
    refine ok_cond (fun c_2 => ?_) (fun c_2 => ?_)
    · rw [i_ge] at c_2
      refine ok_some ?_
      refine ⟨hF, hA, (fun q hq => rfl), (fun q hq => rfl), ?_⟩
      exact (PFA.toH.cp hk (fun t h0 h1 => CFA t h0 (by omega))).toV
    · rw [i_nge] at c_2
      refine ok_ld (j := 47) hA (by omega) (by omega) ?_
      intro v_3 v_3_e v_3_r
      refine ok_st (j := 48) hA (by omega) (by omega) (trivial) ?_
      intro A_4 hA_4 A_4_o A_4_s A_4_n
      have PFA_4 : RVm F A_4 47 k := PFA.sto A_4_o (by decide) (by decide)
      have C1 : ∀ t, 0 ≤ t → t < x1.toInt + 1 → ai A_4 48 (0 + t) = ai A_4 47 (0 + t) := cp_st A_4_o A_4_s A_4_n v_3_e (by decide) CFA (by omega) (by omega) (by omega)
      have l_5 : (1 : Int32).toInt = 1 := by decide
      have e_6 := i_add (x := x1) (y := 1) (by omega) (by omega)
      refine ok_mono (ih hF hA_4 (PFA_4) (fun t h0 h1 => C1 t h0 (by omega)) (by omega) (by omega)) ?_
      rintro ⟨v_7, F_8, A_9, J_10⟩ ⟨hF_8, hA_9, F_8_o, A_9_o, v_7_p⟩
      dsimp only at hF_8 hA_9 F_8_o A_9_o v_7_p ⊢
      have v_7_p : RVm F_8 A_9 48 k := v_7_p
      have PF_8A_9 : RVm F_8 A_9 47 k := PFA_4.cg (F_8_o 18 (by decide)) (A_9_o 19 (by decide)) (A_9_o 22 (by decide)) (fun m _ _ => by rw [ai_fr (A_9_o 47 (by decide))]; exact ⟨rfl, rfl⟩)
      refine ⟨hF_8, hA_9, (fun q hq => (F_8_o q hq)), (fun q hq => ((A_9_o q hq).trans (A_4_o q (fun e => hq (by rw [e]; decide))))), ?_⟩
      exact v_7_p
set_option maxRecDepth 10000 in
theorem s2_d_takes {n : Nat} {k : Int} {F : Nat → Int32} {A : Nat → Nat → Int32} {J : Nat → Nat → Int64}  (hF : IFm F) (hA : IAm A) (hn : 110 ≤ n) (hk : k ≤ 6) (PFA : RVm F A 47 k) : ok (d_takes n F A J) (fun r => IFm r.2.1 ∧ IAm r.2.2.1 ∧ (∀ q, q ∉ ([] : List Nat) → r.2.1 q = F q) ∧ (∀ q, q ∉ ([48] : List Nat) → r.2.2.1 q = A q) ∧ RVm r.2.1 r.2.2.1 48 k) := by
  have r18 : 0 ≤ (F 18).toInt ∧ (F 18).toInt ≤ 1 := hF 18
  unfold d_takes
  have l_1 : (0 : Int32).toInt = 0 := by decide
  refine ok_mono (s2_d_takes_2 hF hA (by omega) (PFA) (fun t h0 h1 => absurd h1 (by omega)) (by omega) (by omega)) ?_
  rintro ⟨v_2, F_3, A_4, J_5⟩ ⟨hF_3, hA_4, F_3_o, A_4_o, v_2_p⟩
  dsimp only at hF_3 hA_4 F_3_o A_4_o v_2_p ⊢
  have v_2_p : RVm F_3 A_4 48 k := v_2_p
  refine ⟨hF_3, hA_4, (fun q hq => (F_3_o q hq)), (fun q hq => (A_4_o q hq)), ?_⟩
  exact v_2_p
set_option maxRecDepth 10000 in
theorem s_d_work_42  {n : Nat} {k : Int} {F : Nat → Int32} {A : Nat → Nat → Int32} {J : Nat → Nat → Int64} {x3 : Int32} (hF : IFm F) (hA : IAm A) (hk : k ≤ 6) (RFA : RVm F A 48 k) (CFA : ∀ t, 0 ≤ t → t < x3.toInt → ai A 47 (0 + t) = ai A 48 (0 + t)) (rx3 : 0 ≤ x3.toInt ∧ x3.toInt ≤ 100) (hn : 100 - x3.toInt < (n : Int)) : ok (d_work_42 n F A J x3) (fun r => IFm r.2.1 ∧ IAm r.2.2.1 ∧ (∀ q, q ∉ ([] : List Nat) → r.2.1 q = F q) ∧ (∀ q, q ∉ ([47] : List Nat) → r.2.2.1 q = A q) ∧ RVm r.2.1 r.2.2.1 47 k) := by
  induction n generalizing F A J x3 with
  | zero => exact absurd hn (by omega)
  | succ n ih =>
    have r18 : 0 ≤ (F 18).toInt ∧ (F 18).toInt ≤ 1 := hF 18
    unfold d_work_42
    have l_1 : (100 : Int32).toInt = 100 := by decide
    refine ok_cond (fun c_2 => ?_) (fun c_2 => ?_)
    · rw [i_ge] at c_2
      refine ok_some ?_
      have l_3 : (1 : Int32).toInt = 1 := by decide
      refine ⟨hF, hA, (fun q hq => rfl), (fun q hq => rfl), ?_⟩
      exact (RFA.toH.cp hk (fun t h0 h1 => CFA t h0 (by omega))).toV
    · rw [i_nge] at c_2
      refine ok_ld (j := 48) hA (by omega) (by omega) ?_
      intro v_4 v_4_e v_4_r
      refine ok_st (j := 47) hA (by omega) (by omega) (trivial) ?_
      intro A_5 hA_5 A_5_o A_5_s A_5_n
      have RFA_5 : RVm F A_5 48 k := RFA.sto A_5_o (by decide) (by decide)
      have C1 : ∀ t, 0 ≤ t → t < x3.toInt + 1 → ai A_5 47 (0 + t) = ai A_5 48 (0 + t) := cp_st A_5_o A_5_s A_5_n v_4_e (by decide) CFA (by omega) (by omega) (by omega)
      have l_6 : (1 : Int32).toInt = 1 := by decide
      have e_7 := i_add (x := x3) (y := 1) (by omega) (by omega)
      refine ok_mono (ih hF hA_5 (RFA_5) (fun t h0 h1 => C1 t h0 (by omega)) (by omega) (by omega)) ?_
      rintro ⟨v_8, F_9, A_10, J_11⟩ ⟨hF_9, hA_10, F_9_o, A_10_o, v_8_p⟩
      dsimp only at hF_9 hA_10 F_9_o A_10_o v_8_p ⊢
      have v_8_p : RVm F_9 A_10 47 k := v_8_p
      refine ⟨hF_9, hA_10, (fun q hq => (F_9_o q hq)), (fun q hq => ((A_10_o q hq).trans (A_5_o q (fun e => hq (by rw [e]; decide))))), ?_⟩
      exact v_8_p
set_option maxRecDepth 10000 in
theorem s_d_night_104  {n : Nat} {k : Int} {F : Nat → Int32} {A : Nat → Nat → Int32} {J : Nat → Nat → Int64} {x1 : Int32} {x2 : Int32} (hF : IFm F) (hA : IAm A) (hk : k ≤ 6) (RFA : RVm F A 48 k) (CFA : ∀ t, 0 ≤ t → t < x2.toInt → ai A 47 (0 + t) = ai A 48 (0 + t)) (rx2 : 0 ≤ x2.toInt ∧ x2.toInt ≤ 100) (hn : 100 - x2.toInt < (n : Int)) : ok (d_night_104 n F A J x1 x2) (fun r => IFm r.2.1 ∧ IAm r.2.2.1 ∧ (∀ q, q ∉ ([] : List Nat) → r.2.1 q = F q) ∧ (∀ q, q ∉ ([47] : List Nat) → r.2.2.1 q = A q) ∧ RVm r.2.1 r.2.2.1 47 k) := by
  induction n generalizing F A J x2 with
  | zero => exact absurd hn (by omega)
  | succ n ih =>
    have r18 : 0 ≤ (F 18).toInt ∧ (F 18).toInt ≤ 1 := hF 18
    unfold d_night_104
    have l_1 : (100 : Int32).toInt = 100 := by decide
    refine ok_cond (fun c_2 => ?_) (fun c_2 => ?_)
    · rw [i_ge] at c_2
      refine ok_some ?_
      refine ⟨hF, hA, (fun q hq => rfl), (fun q hq => rfl), ?_⟩
      exact (RFA.toH.cp hk (fun t h0 h1 => CFA t h0 (by omega))).toV
    · rw [i_nge] at c_2
      refine ok_ld (j := 48) hA (by omega) (by omega) ?_
      intro v_3 v_3_e v_3_r
      refine ok_st (j := 47) hA (by omega) (by omega) (trivial) ?_
      intro A_4 hA_4 A_4_o A_4_s A_4_n
      have RFA_4 : RVm F A_4 48 k := RFA.sto A_4_o (by decide) (by decide)
      have C1 : ∀ t, 0 ≤ t → t < x2.toInt + 1 → ai A_4 47 (0 + t) = ai A_4 48 (0 + t) := cp_st A_4_o A_4_s A_4_n v_3_e (by decide) CFA (by omega) (by omega) (by omega)
      have l_5 : (1 : Int32).toInt = 1 := by decide
      have e_6 := i_add (x := x2) (y := 1) (by omega) (by omega)
      refine ok_mono (ih hF hA_4 (RFA_4) (fun t h0 h1 => C1 t h0 (by omega)) (by omega) (by omega)) ?_
      rintro ⟨v_7, F_8, A_9, J_10⟩ ⟨hF_8, hA_9, F_8_o, A_9_o, v_7_p⟩
      dsimp only at hF_8 hA_9 F_8_o A_9_o v_7_p ⊢
      have v_7_p : RVm F_8 A_9 47 k := v_7_p
      refine ⟨hF_8, hA_9, (fun q hq => (F_8_o q hq)), (fun q hq => ((A_9_o q hq).trans (A_4_o q (fun e => hq (by rw [e]; decide))))), ?_⟩
      exact v_7_p
set_option maxRecDepth 10000 in
theorem s_d_options_4  {n : Nat} {F : Nat → Int32} {A : Nat → Nat → Int32} {J : Nat → Nat → Int64} {x1 : Int32} {x2 : Int32} (hF : IFm F) (hA : IAm A) (hb : 1 ≤ x1.toInt ∧ x1.toInt ≤ 1 + 6 * x2.toInt) (rx2 : 0 ≤ x2.toInt ∧ x2.toInt ≤ 6) (hn : 6 - x2.toInt < (n : Int)) : ok (d_options_4 n F A J x1 x2) (fun v => 1 ≤ v.toInt ∧ v.toInt ≤ 37) := by
  induction n generalizing F A J x1 x2 with
  | zero => exact absurd hn (by omega)
  | succ n ih =>
    have r18 : 0 ≤ (F 18).toInt ∧ (F 18).toInt ≤ 1 := hF 18
    unfold d_options_4
    refine ok_call (s_d_tasksNow hF hA) ?_
    intro v_1 v_1_p
    have v_1_p : v_1.toInt = ai A 19 (F 18).toInt ∧ 0 ≤ v_1.toInt ∧ v_1.toInt ≤ 6 := v_1_p
    refine ok_cond (fun c_2 => ?_) (fun c_2 => ?_)
    · rw [i_ge] at c_2
      refine ok_some ?_
      (first | trivial | omega | exact ⟨by omega, by omega⟩ | assumption)
    · rw [i_nge] at c_2
      refine ok_call (s_d_stepsOf hF hA (by omega)) ?_
      intro v_3 v_3_p
      have v_3_p : v_3.toInt = ai A 22 (6 * (F 18).toInt + x2.toInt) ∧ 0 ≤ v_3.toInt ∧ v_3.toInt ≤ 6 := v_3_p
      have e_4 := i_add (x := x1) (y := v_3) (by omega) (by omega)
      have l_5 : (1 : Int32).toInt = 1 := by decide
      have e_6 := i_add (x := x2) (y := 1) (by omega) (by omega)
      refine ok_mono (ih hF hA (by omega) (by omega) (by omega)) ?_
      intro v_7 v_7_p
      have v_7_p : 1 ≤ v_7.toInt ∧ v_7.toInt ≤ 37 := v_7_p
      (first | trivial | omega | exact ⟨by omega, by omega⟩ | assumption)
set_option maxRecDepth 10000 in
theorem s_d_options {n : Nat} {F : Nat → Int32} {A : Nat → Nat → Int32} {J : Nat → Nat → Int64}  (hF : IFm F) (hA : IAm A) (hn : 10 ≤ n) : ok (d_options n F A J) (fun v => 1 ≤ v.toInt ∧ v.toInt ≤ 37) := by
  have r18 : 0 ≤ (F 18).toInt ∧ (F 18).toInt ≤ 1 := hF 18
  unfold d_options
  have l_1 : (1 : Int32).toInt = 1 := by decide
  have l_2 : (0 : Int32).toInt = 0 := by decide
  refine ok_mono (s_d_options_4 hF hA (by omega) (by omega) (by omega)) ?_
  intro v_3 v_3_p
  have v_3_p : 1 ≤ v_3.toInt ∧ v_3.toInt ≤ 37 := v_3_p
  (first | trivial | omega | exact ⟨by omega, by omega⟩ | assumption)
set_option maxRecDepth 10000 in
theorem s_d_leaves_7  {n : Nat} {k : Int} {F : Nat → Int32} {A : Nat → Nat → Int32} {J : Nat → Nat → Int64} {x1 : Int32} {x3 : Int32} {x4 : Int32} (hF : IFm F) (hA : IAm A) (hk : k ≤ 6) (hx1 : 0 ≤ x1.toInt ∧ x1.toInt < k) (hx4 : x4.toInt ≤ ai A 19 (F 18).toInt) (rx4 : 0 ≤ x4.toInt ∧ x4.toInt ≤ 6) (hn : 6 - x4.toInt < (n : Int)) : ok (d_leaves_7 n F A J x1 x3 x4) (fun r => IFm r.2.1 ∧ IAm r.2.2.1 ∧ (∀ q, q ∉ ([] : List Nat) → r.2.1 q = F q) ∧ (∀ q, q ∉ ([48] : List Nat) → r.2.2.1 q = A q) ∧ (RVm F A 48 k → RVm r.2.1 r.2.2.1 48 k)) := by
  induction n generalizing F A J x3 x4 with
  | zero => exact absurd hn (by omega)
  | succ n ih =>
    have r18 : 0 ≤ (F 18).toInt ∧ (F 18).toInt ≤ 1 := hF 18
    have t19 : 0 ≤ ai A 19 (F 18).toInt ∧ ai A 19 (F 18).toInt ≤ 6 := hA 19 _ (by omega)
    have RFA : RVm F A 48 k → RVm F A 48 k := id
    unfold d_leaves_7
    have l_1 : (0 : Int32).toInt = 0 := by decide
    refine ok_cond (fun c_2 => ?_) (fun c_2 => ?_)
    · rw [i_lt] at c_2
      unfold d_leaves_45
      refine ok_call (s_d_tasksNow hF hA) ?_
      intro v_3 v_3_p
      have v_3_p : v_3.toInt = ai A 19 (F 18).toInt ∧ 0 ≤ v_3.toInt ∧ v_3.toInt ≤ 6 := v_3_p
      refine ok_cond (fun c_4 => ?_) (fun c_4 => ?_)
      · rw [i_ne] at c_4
        unfold d_leaves_60
        refine ok_cond (fun c_5 => ?_) (fun c_5 => ?_)
        · rw [i_ge] at c_5
          unfold d_leaves_78
          have l_6 : (42 : Int32).toInt = 42 := by decide
          have e_7 := i_add (x := 42) (y := x1) (by omega) (by omega)
          refine ok_st (j := 48) hA (by omega) (by omega) (trivial) ?_
          intro A_8 hA_8 A_8_o A_8_s A_8_n
          refine ok_cond (fun c_9 => ?_) (fun c_9 => ?_)
          · rw [i_ge] at c_9
            unfold d_leaves_96
            have l_10 : (48 : Int32).toInt = 48 := by decide
            have e_11 := i_add (x := 48) (y := x1) (by omega) (by omega)
            have l1x : (-1 : Int32).toInt = -1 := by decide
            refine ok_st (j := 48) hA_8 (by omega) (by omega) (trivial) ?_
            intro A_12 hA_12 A_12_o A_12_s A_12_n
            have QFA_12 : RVm F A 48 k → RVm F A_12 48 k := fun R => R.lv (by decide) A_8_o A_8_s A_8_n A_12_o A_12_s A_12_n (i := x1.toInt) (by omega) (by omega) (by omega) hk (fun q => by first | (exfalso; omega) | exact ⟨by omega, by omega, by omega, by omega⟩)
            refine ok_some ?_
            have l_13 : (1 : Int32).toInt = 1 := by decide
            refine ⟨hF, hA_12, (fun q hq => rfl), (fun q hq => ((A_12_o q (fun e => hq (by rw [e]; decide))).trans (A_8_o q (fun e => hq (by rw [e]; decide))))), ?_⟩
            first | exact QFA_12 | exact RFA_12
          · rw [i_nge] at c_9
            unfold d_leaves_96
            have l_14 : (48 : Int32).toInt = 48 := by decide
            have e_15 := i_add (x := 48) (y := x1) (by omega) (by omega)
            have l1x : (-1 : Int32).toInt = -1 := by decide
            refine ok_st (j := 48) hA_8 (by omega) (by omega) (trivial) ?_
            intro A_16 hA_16 A_16_o A_16_s A_16_n
            have QFA_16 : RVm F A 48 k → RVm F A_16 48 k := fun R => R.lv (by decide) A_8_o A_8_s A_8_n A_16_o A_16_s A_16_n (i := x1.toInt) (by omega) (by omega) (by omega) hk (fun q => by first | (exfalso; omega) | exact ⟨by omega, by omega, by omega, by omega⟩)
            refine ok_some ?_
            have l_17 : (1 : Int32).toInt = 1 := by decide
            refine ⟨hF, hA_16, (fun q hq => rfl), (fun q hq => ((A_16_o q (fun e => hq (by rw [e]; decide))).trans (A_8_o q (fun e => hq (by rw [e]; decide))))), ?_⟩
            first | exact QFA_16 | exact RFA_16
        · rw [i_nge] at c_5
          unfold d_leaves_78
          have l_18 : (42 : Int32).toInt = 42 := by decide
          have e_19 := i_add (x := 42) (y := x1) (by omega) (by omega)
          refine ok_st (j := 48) hA (by omega) (by omega) (trivial) ?_
          intro A_20 hA_20 A_20_o A_20_s A_20_n
          refine ok_cond (fun c_21 => ?_) (fun c_21 => ?_)
          · rw [i_ge] at c_21
            unfold d_leaves_96
            have l_22 : (48 : Int32).toInt = 48 := by decide
            have e_23 := i_add (x := 48) (y := x1) (by omega) (by omega)
            have l1x : (-1 : Int32).toInt = -1 := by decide
            refine ok_st (j := 48) hA_20 (by omega) (by omega) (trivial) ?_
            intro A_24 hA_24 A_24_o A_24_s A_24_n
            have QFA_24 : RVm F A 48 k → RVm F A_24 48 k := fun R => R.lv (by decide) A_20_o A_20_s A_20_n A_24_o A_24_s A_24_n (i := x1.toInt) (by omega) (by omega) (by omega) hk (fun q => by first | (exfalso; omega) | exact ⟨by omega, by omega, by omega, by omega⟩)
            refine ok_some ?_
            have l_25 : (1 : Int32).toInt = 1 := by decide
            refine ⟨hF, hA_24, (fun q hq => rfl), (fun q hq => ((A_24_o q (fun e => hq (by rw [e]; decide))).trans (A_20_o q (fun e => hq (by rw [e]; decide))))), ?_⟩
            first | exact QFA_24 | exact RFA_24
          · rw [i_nge] at c_21
            unfold d_leaves_96
            have l_26 : (48 : Int32).toInt = 48 := by decide
            have e_27 := i_add (x := 48) (y := x1) (by omega) (by omega)
            have l1x : (-1 : Int32).toInt = -1 := by decide
            refine ok_st (j := 48) hA_20 (by omega) (by omega) (trivial) ?_
            intro A_28 hA_28 A_28_o A_28_s A_28_n
            have QFA_28 : RVm F A 48 k → RVm F A_28 48 k := fun R => R.lv (by decide) A_20_o A_20_s A_20_n A_28_o A_28_s A_28_n (i := x1.toInt) (by omega) (by omega) (by omega) hk (fun q => by first | (exfalso; omega) | exact ⟨by omega, by omega, by omega, by omega⟩)
            refine ok_some ?_
            have l_29 : (1 : Int32).toInt = 1 := by decide
            refine ⟨hF, hA_28, (fun q hq => rfl), (fun q hq => ((A_28_o q (fun e => hq (by rw [e]; decide))).trans (A_20_o q (fun e => hq (by rw [e]; decide))))), ?_⟩
            first | exact QFA_28 | exact RFA_28
      · rw [i_nne] at c_4
        refine ok_cond (fun c_30 => ?_) (fun c_30 => ?_)
        · rw [i_lt] at c_30
          unfold d_leaves_60
          refine ok_cond (fun c_31 => ?_) (fun c_31 => ?_)
          · rw [i_ge] at c_31
            unfold d_leaves_78
            have l_32 : (42 : Int32).toInt = 42 := by decide
            have e_33 := i_add (x := 42) (y := x1) (by omega) (by omega)
            refine ok_st (j := 48) hA (by omega) (by omega) (trivial) ?_
            intro A_34 hA_34 A_34_o A_34_s A_34_n
            refine ok_cond (fun c_35 => ?_) (fun c_35 => ?_)
            · rw [i_ge] at c_35
              unfold d_leaves_96
              have l_36 : (48 : Int32).toInt = 48 := by decide
              have e_37 := i_add (x := 48) (y := x1) (by omega) (by omega)
              have l1x : (-1 : Int32).toInt = -1 := by decide
              refine ok_st (j := 48) hA_34 (by omega) (by omega) (trivial) ?_
              intro A_38 hA_38 A_38_o A_38_s A_38_n
              have QFA_38 : RVm F A 48 k → RVm F A_38 48 k := fun R => R.lv (by decide) A_34_o A_34_s A_34_n A_38_o A_38_s A_38_n (i := x1.toInt) (by omega) (by omega) (by omega) hk (fun q => by first | (exfalso; omega) | exact ⟨by omega, by omega, by omega, by omega⟩)
              refine ok_some ?_
              have l_39 : (1 : Int32).toInt = 1 := by decide
              refine ⟨hF, hA_38, (fun q hq => rfl), (fun q hq => ((A_38_o q (fun e => hq (by rw [e]; decide))).trans (A_34_o q (fun e => hq (by rw [e]; decide))))), ?_⟩
              first | exact QFA_38 | exact RFA_38
            · rw [i_nge] at c_35
              unfold d_leaves_96
              have l_40 : (48 : Int32).toInt = 48 := by decide
              have e_41 := i_add (x := 48) (y := x1) (by omega) (by omega)
              have l1x : (-1 : Int32).toInt = -1 := by decide
              refine ok_st (j := 48) hA_34 (by omega) (by omega) (trivial) ?_
              intro A_42 hA_42 A_42_o A_42_s A_42_n
              have QFA_42 : RVm F A 48 k → RVm F A_42 48 k := fun R => R.lv (by decide) A_34_o A_34_s A_34_n A_42_o A_42_s A_42_n (i := x1.toInt) (by omega) (by omega) (by omega) hk (fun q => by first | (exfalso; omega) | exact ⟨by omega, by omega, by omega, by omega⟩)
              refine ok_some ?_
              have l_43 : (1 : Int32).toInt = 1 := by decide
              refine ⟨hF, hA_42, (fun q hq => rfl), (fun q hq => ((A_42_o q (fun e => hq (by rw [e]; decide))).trans (A_34_o q (fun e => hq (by rw [e]; decide))))), ?_⟩
              first | exact QFA_42 | exact RFA_42
          · rw [i_nge] at c_31
            unfold d_leaves_78
            have l_44 : (42 : Int32).toInt = 42 := by decide
            have e_45 := i_add (x := 42) (y := x1) (by omega) (by omega)
            refine ok_st (j := 48) hA (by omega) (by omega) (trivial) ?_
            intro A_46 hA_46 A_46_o A_46_s A_46_n
            refine ok_cond (fun c_47 => ?_) (fun c_47 => ?_)
            · rw [i_ge] at c_47
              unfold d_leaves_96
              have l_48 : (48 : Int32).toInt = 48 := by decide
              have e_49 := i_add (x := 48) (y := x1) (by omega) (by omega)
              have l1x : (-1 : Int32).toInt = -1 := by decide
              refine ok_st (j := 48) hA_46 (by omega) (by omega) (trivial) ?_
              intro A_50 hA_50 A_50_o A_50_s A_50_n
              have QFA_50 : RVm F A 48 k → RVm F A_50 48 k := fun R => R.lv (by decide) A_46_o A_46_s A_46_n A_50_o A_50_s A_50_n (i := x1.toInt) (by omega) (by omega) (by omega) hk (fun q => by first | (exfalso; omega) | exact ⟨by omega, by omega, by omega, by omega⟩)
              refine ok_some ?_
              have l_51 : (1 : Int32).toInt = 1 := by decide
              refine ⟨hF, hA_50, (fun q hq => rfl), (fun q hq => ((A_50_o q (fun e => hq (by rw [e]; decide))).trans (A_46_o q (fun e => hq (by rw [e]; decide))))), ?_⟩
              first | exact QFA_50 | exact RFA_50
            · rw [i_nge] at c_47
              unfold d_leaves_96
              have l_52 : (48 : Int32).toInt = 48 := by decide
              have e_53 := i_add (x := 48) (y := x1) (by omega) (by omega)
              have l1x : (-1 : Int32).toInt = -1 := by decide
              refine ok_st (j := 48) hA_46 (by omega) (by omega) (trivial) ?_
              intro A_54 hA_54 A_54_o A_54_s A_54_n
              have QFA_54 : RVm F A 48 k → RVm F A_54 48 k := fun R => R.lv (by decide) A_46_o A_46_s A_46_n A_54_o A_54_s A_54_n (i := x1.toInt) (by omega) (by omega) (by omega) hk (fun q => by first | (exfalso; omega) | exact ⟨by omega, by omega, by omega, by omega⟩)
              refine ok_some ?_
              have l_55 : (1 : Int32).toInt = 1 := by decide
              refine ⟨hF, hA_54, (fun q hq => rfl), (fun q hq => ((A_54_o q (fun e => hq (by rw [e]; decide))).trans (A_46_o q (fun e => hq (by rw [e]; decide))))), ?_⟩
              first | exact QFA_54 | exact RFA_54
        · rw [i_nlt] at c_30
          refine ok_some ?_
          refine ⟨hF, hA, (fun q hq => rfl), (fun q hq => rfl), ?_⟩
          first | exact QFA | exact RFA
    · rw [i_nlt] at c_2
      refine ok_call (s_d_tasksNow hF hA) ?_
      intro v_56 v_56_p
      have v_56_p : v_56.toInt = ai A 19 (F 18).toInt ∧ 0 ≤ v_56.toInt ∧ v_56.toInt ≤ 6 := v_56_p
      refine ok_cond (fun c_57 => ?_) (fun c_57 => ?_)
      · rw [i_ge] at c_57
        unfold d_leaves_45
        refine ok_call (s_d_tasksNow hF hA) ?_
        intro v_58 v_58_p
        have v_58_p : v_58.toInt = ai A 19 (F 18).toInt ∧ 0 ≤ v_58.toInt ∧ v_58.toInt ≤ 6 := v_58_p
        refine ok_cond (fun c_59 => ?_) (fun c_59 => ?_)
        · rw [i_ne] at c_59
          unfold d_leaves_60
          refine ok_cond (fun c_60 => ?_) (fun c_60 => ?_)
          · rw [i_ge] at c_60
            unfold d_leaves_78
            have l_61 : (42 : Int32).toInt = 42 := by decide
            have e_62 := i_add (x := 42) (y := x1) (by omega) (by omega)
            refine ok_st (j := 48) hA (by omega) (by omega) (trivial) ?_
            intro A_63 hA_63 A_63_o A_63_s A_63_n
            refine ok_cond (fun c_64 => ?_) (fun c_64 => ?_)
            · rw [i_ge] at c_64
              unfold d_leaves_96
              have l_65 : (48 : Int32).toInt = 48 := by decide
              have e_66 := i_add (x := 48) (y := x1) (by omega) (by omega)
              have l1x : (-1 : Int32).toInt = -1 := by decide
              refine ok_st (j := 48) hA_63 (by omega) (by omega) (trivial) ?_
              intro A_67 hA_67 A_67_o A_67_s A_67_n
              have QFA_67 : RVm F A 48 k → RVm F A_67 48 k := fun R => R.lv (by decide) A_63_o A_63_s A_63_n A_67_o A_67_s A_67_n (i := x1.toInt) (by omega) (by omega) (by omega) hk (fun q => by first | (exfalso; omega) | exact ⟨by omega, by omega, by omega, by omega⟩)
              refine ok_some ?_
              have l_68 : (1 : Int32).toInt = 1 := by decide
              refine ⟨hF, hA_67, (fun q hq => rfl), (fun q hq => ((A_67_o q (fun e => hq (by rw [e]; decide))).trans (A_63_o q (fun e => hq (by rw [e]; decide))))), ?_⟩
              first | exact QFA_67 | exact RFA_67
            · rw [i_nge] at c_64
              unfold d_leaves_96
              have l_69 : (48 : Int32).toInt = 48 := by decide
              have e_70 := i_add (x := 48) (y := x1) (by omega) (by omega)
              have l1x : (-1 : Int32).toInt = -1 := by decide
              refine ok_st (j := 48) hA_63 (by omega) (by omega) (trivial) ?_
              intro A_71 hA_71 A_71_o A_71_s A_71_n
              have QFA_71 : RVm F A 48 k → RVm F A_71 48 k := fun R => R.lv (by decide) A_63_o A_63_s A_63_n A_71_o A_71_s A_71_n (i := x1.toInt) (by omega) (by omega) (by omega) hk (fun q => by first | (exfalso; omega) | exact ⟨by omega, by omega, by omega, by omega⟩)
              refine ok_some ?_
              have l_72 : (1 : Int32).toInt = 1 := by decide
              refine ⟨hF, hA_71, (fun q hq => rfl), (fun q hq => ((A_71_o q (fun e => hq (by rw [e]; decide))).trans (A_63_o q (fun e => hq (by rw [e]; decide))))), ?_⟩
              first | exact QFA_71 | exact RFA_71
          · rw [i_nge] at c_60
            unfold d_leaves_78
            have l_73 : (42 : Int32).toInt = 42 := by decide
            have e_74 := i_add (x := 42) (y := x1) (by omega) (by omega)
            refine ok_st (j := 48) hA (by omega) (by omega) (trivial) ?_
            intro A_75 hA_75 A_75_o A_75_s A_75_n
            refine ok_cond (fun c_76 => ?_) (fun c_76 => ?_)
            · rw [i_ge] at c_76
              unfold d_leaves_96
              have l_77 : (48 : Int32).toInt = 48 := by decide
              have e_78 := i_add (x := 48) (y := x1) (by omega) (by omega)
              have l1x : (-1 : Int32).toInt = -1 := by decide
              refine ok_st (j := 48) hA_75 (by omega) (by omega) (trivial) ?_
              intro A_79 hA_79 A_79_o A_79_s A_79_n
              have QFA_79 : RVm F A 48 k → RVm F A_79 48 k := fun R => R.lv (by decide) A_75_o A_75_s A_75_n A_79_o A_79_s A_79_n (i := x1.toInt) (by omega) (by omega) (by omega) hk (fun q => by first | (exfalso; omega) | exact ⟨by omega, by omega, by omega, by omega⟩)
              refine ok_some ?_
              have l_80 : (1 : Int32).toInt = 1 := by decide
              refine ⟨hF, hA_79, (fun q hq => rfl), (fun q hq => ((A_79_o q (fun e => hq (by rw [e]; decide))).trans (A_75_o q (fun e => hq (by rw [e]; decide))))), ?_⟩
              first | exact QFA_79 | exact RFA_79
            · rw [i_nge] at c_76
              unfold d_leaves_96
              have l_81 : (48 : Int32).toInt = 48 := by decide
              have e_82 := i_add (x := 48) (y := x1) (by omega) (by omega)
              have l1x : (-1 : Int32).toInt = -1 := by decide
              refine ok_st (j := 48) hA_75 (by omega) (by omega) (trivial) ?_
              intro A_83 hA_83 A_83_o A_83_s A_83_n
              have QFA_83 : RVm F A 48 k → RVm F A_83 48 k := fun R => R.lv (by decide) A_75_o A_75_s A_75_n A_83_o A_83_s A_83_n (i := x1.toInt) (by omega) (by omega) (by omega) hk (fun q => by first | (exfalso; omega) | exact ⟨by omega, by omega, by omega, by omega⟩)
              refine ok_some ?_
              have l_84 : (1 : Int32).toInt = 1 := by decide
              refine ⟨hF, hA_83, (fun q hq => rfl), (fun q hq => ((A_83_o q (fun e => hq (by rw [e]; decide))).trans (A_75_o q (fun e => hq (by rw [e]; decide))))), ?_⟩
              first | exact QFA_83 | exact RFA_83
        · rw [i_nne] at c_59
          refine ok_cond (fun c_85 => ?_) (fun c_85 => ?_)
          · rw [i_lt] at c_85
            unfold d_leaves_60
            refine ok_cond (fun c_86 => ?_) (fun c_86 => ?_)
            · rw [i_ge] at c_86
              unfold d_leaves_78
              have l_87 : (42 : Int32).toInt = 42 := by decide
              have e_88 := i_add (x := 42) (y := x1) (by omega) (by omega)
              refine ok_st (j := 48) hA (by omega) (by omega) (trivial) ?_
              intro A_89 hA_89 A_89_o A_89_s A_89_n
              refine ok_cond (fun c_90 => ?_) (fun c_90 => ?_)
              · rw [i_ge] at c_90
                unfold d_leaves_96
                have l_91 : (48 : Int32).toInt = 48 := by decide
                have e_92 := i_add (x := 48) (y := x1) (by omega) (by omega)
                have l1x : (-1 : Int32).toInt = -1 := by decide
                refine ok_st (j := 48) hA_89 (by omega) (by omega) (trivial) ?_
                intro A_93 hA_93 A_93_o A_93_s A_93_n
                have QFA_93 : RVm F A 48 k → RVm F A_93 48 k := fun R => R.lv (by decide) A_89_o A_89_s A_89_n A_93_o A_93_s A_93_n (i := x1.toInt) (by omega) (by omega) (by omega) hk (fun q => by first | (exfalso; omega) | exact ⟨by omega, by omega, by omega, by omega⟩)
                refine ok_some ?_
                have l_94 : (1 : Int32).toInt = 1 := by decide
                refine ⟨hF, hA_93, (fun q hq => rfl), (fun q hq => ((A_93_o q (fun e => hq (by rw [e]; decide))).trans (A_89_o q (fun e => hq (by rw [e]; decide))))), ?_⟩
                first | exact QFA_93 | exact RFA_93
              · rw [i_nge] at c_90
                unfold d_leaves_96
                have l_95 : (48 : Int32).toInt = 48 := by decide
                have e_96 := i_add (x := 48) (y := x1) (by omega) (by omega)
                have l1x : (-1 : Int32).toInt = -1 := by decide
                refine ok_st (j := 48) hA_89 (by omega) (by omega) (trivial) ?_
                intro A_97 hA_97 A_97_o A_97_s A_97_n
                have QFA_97 : RVm F A 48 k → RVm F A_97 48 k := fun R => R.lv (by decide) A_89_o A_89_s A_89_n A_97_o A_97_s A_97_n (i := x1.toInt) (by omega) (by omega) (by omega) hk (fun q => by first | (exfalso; omega) | exact ⟨by omega, by omega, by omega, by omega⟩)
                refine ok_some ?_
                have l_98 : (1 : Int32).toInt = 1 := by decide
                refine ⟨hF, hA_97, (fun q hq => rfl), (fun q hq => ((A_97_o q (fun e => hq (by rw [e]; decide))).trans (A_89_o q (fun e => hq (by rw [e]; decide))))), ?_⟩
                first | exact QFA_97 | exact RFA_97
            · rw [i_nge] at c_86
              unfold d_leaves_78
              have l_99 : (42 : Int32).toInt = 42 := by decide
              have e_100 := i_add (x := 42) (y := x1) (by omega) (by omega)
              refine ok_st (j := 48) hA (by omega) (by omega) (trivial) ?_
              intro A_101 hA_101 A_101_o A_101_s A_101_n
              refine ok_cond (fun c_102 => ?_) (fun c_102 => ?_)
              · rw [i_ge] at c_102
                unfold d_leaves_96
                have l_103 : (48 : Int32).toInt = 48 := by decide
                have e_104 := i_add (x := 48) (y := x1) (by omega) (by omega)
                have l1x : (-1 : Int32).toInt = -1 := by decide
                refine ok_st (j := 48) hA_101 (by omega) (by omega) (trivial) ?_
                intro A_105 hA_105 A_105_o A_105_s A_105_n
                have QFA_105 : RVm F A 48 k → RVm F A_105 48 k := fun R => R.lv (by decide) A_101_o A_101_s A_101_n A_105_o A_105_s A_105_n (i := x1.toInt) (by omega) (by omega) (by omega) hk (fun q => by first | (exfalso; omega) | exact ⟨by omega, by omega, by omega, by omega⟩)
                refine ok_some ?_
                have l_106 : (1 : Int32).toInt = 1 := by decide
                refine ⟨hF, hA_105, (fun q hq => rfl), (fun q hq => ((A_105_o q (fun e => hq (by rw [e]; decide))).trans (A_101_o q (fun e => hq (by rw [e]; decide))))), ?_⟩
                first | exact QFA_105 | exact RFA_105
              · rw [i_nge] at c_102
                unfold d_leaves_96
                have l_107 : (48 : Int32).toInt = 48 := by decide
                have e_108 := i_add (x := 48) (y := x1) (by omega) (by omega)
                have l1x : (-1 : Int32).toInt = -1 := by decide
                refine ok_st (j := 48) hA_101 (by omega) (by omega) (trivial) ?_
                intro A_109 hA_109 A_109_o A_109_s A_109_n
                have QFA_109 : RVm F A 48 k → RVm F A_109 48 k := fun R => R.lv (by decide) A_101_o A_101_s A_101_n A_109_o A_109_s A_109_n (i := x1.toInt) (by omega) (by omega) (by omega) hk (fun q => by first | (exfalso; omega) | exact ⟨by omega, by omega, by omega, by omega⟩)
                refine ok_some ?_
                have l_110 : (1 : Int32).toInt = 1 := by decide
                refine ⟨hF, hA_109, (fun q hq => rfl), (fun q hq => ((A_109_o q (fun e => hq (by rw [e]; decide))).trans (A_101_o q (fun e => hq (by rw [e]; decide))))), ?_⟩
                first | exact QFA_109 | exact RFA_109
          · rw [i_nlt] at c_85
            refine ok_some ?_
            refine ⟨hF, hA, (fun q hq => rfl), (fun q hq => rfl), ?_⟩
            first | exact QFA | exact RFA
      · rw [i_nge] at c_57
        refine ok_call (s_d_stepsOf hF hA (by omega)) ?_
        intro v_111 v_111_p
        have v_111_p : v_111.toInt = ai A 22 (6 * (F 18).toInt + x4.toInt) ∧ 0 ≤ v_111.toInt ∧ v_111.toInt ≤ 6 := v_111_p
        refine ok_cond (fun c_112 => ?_) (fun c_112 => ?_)
        · rw [i_lt] at c_112
          unfold d_leaves_45
          refine ok_call (s_d_tasksNow hF hA) ?_
          intro v_113 v_113_p
          have v_113_p : v_113.toInt = ai A 19 (F 18).toInt ∧ 0 ≤ v_113.toInt ∧ v_113.toInt ≤ 6 := v_113_p
          refine ok_cond (fun c_114 => ?_) (fun c_114 => ?_)
          · rw [i_ne] at c_114
            unfold d_leaves_60
            refine ok_cond (fun c_115 => ?_) (fun c_115 => ?_)
            · rw [i_ge] at c_115
              unfold d_leaves_78
              have l_116 : (42 : Int32).toInt = 42 := by decide
              have e_117 := i_add (x := 42) (y := x1) (by omega) (by omega)
              refine ok_st (j := 48) hA (by omega) (by omega) (trivial) ?_
              intro A_118 hA_118 A_118_o A_118_s A_118_n
              refine ok_cond (fun c_119 => ?_) (fun c_119 => ?_)
              · rw [i_ge] at c_119
                unfold d_leaves_96
                have l_120 : (48 : Int32).toInt = 48 := by decide
                have e_121 := i_add (x := 48) (y := x1) (by omega) (by omega)
                have l1x : (-1 : Int32).toInt = -1 := by decide
                refine ok_st (j := 48) hA_118 (by omega) (by omega) (trivial) ?_
                intro A_122 hA_122 A_122_o A_122_s A_122_n
                have QFA_122 : RVm F A 48 k → RVm F A_122 48 k := fun R => R.lv (by decide) A_118_o A_118_s A_118_n A_122_o A_122_s A_122_n (i := x1.toInt) (by omega) (by omega) (by omega) hk (fun q => by first | (exfalso; omega) | exact ⟨by omega, by omega, by omega, by omega⟩)
                refine ok_some ?_
                have l_123 : (1 : Int32).toInt = 1 := by decide
                refine ⟨hF, hA_122, (fun q hq => rfl), (fun q hq => ((A_122_o q (fun e => hq (by rw [e]; decide))).trans (A_118_o q (fun e => hq (by rw [e]; decide))))), ?_⟩
                first | exact QFA_122 | exact RFA_122
              · rw [i_nge] at c_119
                unfold d_leaves_96
                have l_124 : (48 : Int32).toInt = 48 := by decide
                have e_125 := i_add (x := 48) (y := x1) (by omega) (by omega)
                have l1x : (-1 : Int32).toInt = -1 := by decide
                refine ok_st (j := 48) hA_118 (by omega) (by omega) (trivial) ?_
                intro A_126 hA_126 A_126_o A_126_s A_126_n
                have QFA_126 : RVm F A 48 k → RVm F A_126 48 k := fun R => R.lv (by decide) A_118_o A_118_s A_118_n A_126_o A_126_s A_126_n (i := x1.toInt) (by omega) (by omega) (by omega) hk (fun q => by first | (exfalso; omega) | exact ⟨by omega, by omega, by omega, by omega⟩)
                refine ok_some ?_
                have l_127 : (1 : Int32).toInt = 1 := by decide
                refine ⟨hF, hA_126, (fun q hq => rfl), (fun q hq => ((A_126_o q (fun e => hq (by rw [e]; decide))).trans (A_118_o q (fun e => hq (by rw [e]; decide))))), ?_⟩
                first | exact QFA_126 | exact RFA_126
            · rw [i_nge] at c_115
              unfold d_leaves_78
              have l_128 : (42 : Int32).toInt = 42 := by decide
              have e_129 := i_add (x := 42) (y := x1) (by omega) (by omega)
              refine ok_st (j := 48) hA (by omega) (by omega) (trivial) ?_
              intro A_130 hA_130 A_130_o A_130_s A_130_n
              refine ok_cond (fun c_131 => ?_) (fun c_131 => ?_)
              · rw [i_ge] at c_131
                unfold d_leaves_96
                have l_132 : (48 : Int32).toInt = 48 := by decide
                have e_133 := i_add (x := 48) (y := x1) (by omega) (by omega)
                have l1x : (-1 : Int32).toInt = -1 := by decide
                refine ok_st (j := 48) hA_130 (by omega) (by omega) (trivial) ?_
                intro A_134 hA_134 A_134_o A_134_s A_134_n
                have QFA_134 : RVm F A 48 k → RVm F A_134 48 k := fun R => R.lv (by decide) A_130_o A_130_s A_130_n A_134_o A_134_s A_134_n (i := x1.toInt) (by omega) (by omega) (by omega) hk (fun q => by first | (exfalso; omega) | exact ⟨by omega, by omega, by omega, by omega⟩)
                refine ok_some ?_
                have l_135 : (1 : Int32).toInt = 1 := by decide
                refine ⟨hF, hA_134, (fun q hq => rfl), (fun q hq => ((A_134_o q (fun e => hq (by rw [e]; decide))).trans (A_130_o q (fun e => hq (by rw [e]; decide))))), ?_⟩
                first | exact QFA_134 | exact RFA_134
              · rw [i_nge] at c_131
                unfold d_leaves_96
                have l_136 : (48 : Int32).toInt = 48 := by decide
                have e_137 := i_add (x := 48) (y := x1) (by omega) (by omega)
                have l1x : (-1 : Int32).toInt = -1 := by decide
                refine ok_st (j := 48) hA_130 (by omega) (by omega) (trivial) ?_
                intro A_138 hA_138 A_138_o A_138_s A_138_n
                have QFA_138 : RVm F A 48 k → RVm F A_138 48 k := fun R => R.lv (by decide) A_130_o A_130_s A_130_n A_138_o A_138_s A_138_n (i := x1.toInt) (by omega) (by omega) (by omega) hk (fun q => by first | (exfalso; omega) | exact ⟨by omega, by omega, by omega, by omega⟩)
                refine ok_some ?_
                have l_139 : (1 : Int32).toInt = 1 := by decide
                refine ⟨hF, hA_138, (fun q hq => rfl), (fun q hq => ((A_138_o q (fun e => hq (by rw [e]; decide))).trans (A_130_o q (fun e => hq (by rw [e]; decide))))), ?_⟩
                first | exact QFA_138 | exact RFA_138
          · rw [i_nne] at c_114
            refine ok_cond (fun c_140 => ?_) (fun c_140 => ?_)
            · rw [i_lt] at c_140
              unfold d_leaves_60
              refine ok_cond (fun c_141 => ?_) (fun c_141 => ?_)
              · rw [i_ge] at c_141
                unfold d_leaves_78
                have l_142 : (42 : Int32).toInt = 42 := by decide
                have e_143 := i_add (x := 42) (y := x1) (by omega) (by omega)
                refine ok_st (j := 48) hA (by omega) (by omega) (trivial) ?_
                intro A_144 hA_144 A_144_o A_144_s A_144_n
                refine ok_cond (fun c_145 => ?_) (fun c_145 => ?_)
                · rw [i_ge] at c_145
                  unfold d_leaves_96
                  have l_146 : (48 : Int32).toInt = 48 := by decide
                  have e_147 := i_add (x := 48) (y := x1) (by omega) (by omega)
                  have l1x : (-1 : Int32).toInt = -1 := by decide
                  refine ok_st (j := 48) hA_144 (by omega) (by omega) (trivial) ?_
                  intro A_148 hA_148 A_148_o A_148_s A_148_n
                  have QFA_148 : RVm F A 48 k → RVm F A_148 48 k := fun R => R.lv (by decide) A_144_o A_144_s A_144_n A_148_o A_148_s A_148_n (i := x1.toInt) (by omega) (by omega) (by omega) hk (fun q => by first | (exfalso; omega) | exact ⟨by omega, by omega, by omega, by omega⟩)
                  refine ok_some ?_
                  have l_149 : (1 : Int32).toInt = 1 := by decide
                  refine ⟨hF, hA_148, (fun q hq => rfl), (fun q hq => ((A_148_o q (fun e => hq (by rw [e]; decide))).trans (A_144_o q (fun e => hq (by rw [e]; decide))))), ?_⟩
                  first | exact QFA_148 | exact RFA_148
                · rw [i_nge] at c_145
                  unfold d_leaves_96
                  have l_150 : (48 : Int32).toInt = 48 := by decide
                  have e_151 := i_add (x := 48) (y := x1) (by omega) (by omega)
                  have l1x : (-1 : Int32).toInt = -1 := by decide
                  refine ok_st (j := 48) hA_144 (by omega) (by omega) (trivial) ?_
                  intro A_152 hA_152 A_152_o A_152_s A_152_n
                  have QFA_152 : RVm F A 48 k → RVm F A_152 48 k := fun R => R.lv (by decide) A_144_o A_144_s A_144_n A_152_o A_152_s A_152_n (i := x1.toInt) (by omega) (by omega) (by omega) hk (fun q => by first | (exfalso; omega) | exact ⟨by omega, by omega, by omega, by omega⟩)
                  refine ok_some ?_
                  have l_153 : (1 : Int32).toInt = 1 := by decide
                  refine ⟨hF, hA_152, (fun q hq => rfl), (fun q hq => ((A_152_o q (fun e => hq (by rw [e]; decide))).trans (A_144_o q (fun e => hq (by rw [e]; decide))))), ?_⟩
                  first | exact QFA_152 | exact RFA_152
              · rw [i_nge] at c_141
                unfold d_leaves_78
                have l_154 : (42 : Int32).toInt = 42 := by decide
                have e_155 := i_add (x := 42) (y := x1) (by omega) (by omega)
                refine ok_st (j := 48) hA (by omega) (by omega) (trivial) ?_
                intro A_156 hA_156 A_156_o A_156_s A_156_n
                refine ok_cond (fun c_157 => ?_) (fun c_157 => ?_)
                · rw [i_ge] at c_157
                  unfold d_leaves_96
                  have l_158 : (48 : Int32).toInt = 48 := by decide
                  have e_159 := i_add (x := 48) (y := x1) (by omega) (by omega)
                  have l1x : (-1 : Int32).toInt = -1 := by decide
                  refine ok_st (j := 48) hA_156 (by omega) (by omega) (trivial) ?_
                  intro A_160 hA_160 A_160_o A_160_s A_160_n
                  have QFA_160 : RVm F A 48 k → RVm F A_160 48 k := fun R => R.lv (by decide) A_156_o A_156_s A_156_n A_160_o A_160_s A_160_n (i := x1.toInt) (by omega) (by omega) (by omega) hk (fun q => by first | (exfalso; omega) | exact ⟨by omega, by omega, by omega, by omega⟩)
                  refine ok_some ?_
                  have l_161 : (1 : Int32).toInt = 1 := by decide
                  refine ⟨hF, hA_160, (fun q hq => rfl), (fun q hq => ((A_160_o q (fun e => hq (by rw [e]; decide))).trans (A_156_o q (fun e => hq (by rw [e]; decide))))), ?_⟩
                  first | exact QFA_160 | exact RFA_160
                · rw [i_nge] at c_157
                  unfold d_leaves_96
                  have l_162 : (48 : Int32).toInt = 48 := by decide
                  have e_163 := i_add (x := 48) (y := x1) (by omega) (by omega)
                  have l1x : (-1 : Int32).toInt = -1 := by decide
                  refine ok_st (j := 48) hA_156 (by omega) (by omega) (trivial) ?_
                  intro A_164 hA_164 A_164_o A_164_s A_164_n
                  have QFA_164 : RVm F A 48 k → RVm F A_164 48 k := fun R => R.lv (by decide) A_156_o A_156_s A_156_n A_164_o A_164_s A_164_n (i := x1.toInt) (by omega) (by omega) (by omega) hk (fun q => by first | (exfalso; omega) | exact ⟨by omega, by omega, by omega, by omega⟩)
                  refine ok_some ?_
                  have l_165 : (1 : Int32).toInt = 1 := by decide
                  refine ⟨hF, hA_164, (fun q hq => rfl), (fun q hq => ((A_164_o q (fun e => hq (by rw [e]; decide))).trans (A_156_o q (fun e => hq (by rw [e]; decide))))), ?_⟩
                  first | exact QFA_164 | exact RFA_164
            · rw [i_nlt] at c_140
              refine ok_some ?_
              refine ⟨hF, hA, (fun q hq => rfl), (fun q hq => rfl), ?_⟩
              first | exact QFA | exact RFA
        · rw [i_nlt] at c_112
          refine ok_call (s_d_stepsOf hF hA (by omega)) ?_
          intro v_166 v_166_p
          have v_166_p : v_166.toInt = ai A 22 (6 * (F 18).toInt + x4.toInt) ∧ 0 ≤ v_166.toInt ∧ v_166.toInt ≤ 6 := v_166_p
          have l_167 : (1 : Int32).toInt = 1 := by decide
          have e_168 := i_add (x := x4) (y := 1) (by omega) (by omega)
          refine ok_mono (ih hF hA (by omega) (by omega) (by omega)) ?_
          rintro ⟨v_169, F_170, A_171, J_172⟩ ⟨hF_170, hA_171, F_170_o, A_171_o, v_169_p⟩
          dsimp only at hF_170 hA_171 F_170_o A_171_o v_169_p ⊢
          have v_169_p : (RVm F A 48 k → RVm F_170 A_171 48 k) := v_169_p
          refine ⟨hF_170, hA_171, (fun q hq => (F_170_o q hq)), (fun q hq => (A_171_o q hq)), ?_⟩
          exact v_169_p
set_option maxRecDepth 10000 in
theorem s_d_leaves {n : Nat} {k : Int} {F : Nat → Int32} {A : Nat → Nat → Int32} {J : Nat → Nat → Int64} {x1 : Int32} {x2 : Int32} (hF : IFm F) (hA : IAm A) (hn : 10 ≤ n) (hk : k ≤ 6) (hx1 : 0 ≤ x1.toInt ∧ x1.toInt < k) : ok (d_leaves n F A J x1 x2) (fun r => IFm r.2.1 ∧ IAm r.2.2.1 ∧ (∀ q, q ∉ ([] : List Nat) → r.2.1 q = F q) ∧ (∀ q, q ∉ ([48] : List Nat) → r.2.2.1 q = A q) ∧ (RVm F A 48 k → RVm r.2.1 r.2.2.1 48 k)) := by
  have r18 : 0 ≤ (F 18).toInt ∧ (F 18).toInt ≤ 1 := hF 18
  have t19 : 0 ≤ ai A 19 (F 18).toInt ∧ ai A 19 (F 18).toInt ≤ 6 := hA 19 _ (by omega)
  unfold d_leaves
  have l_1 : (0 : Int32).toInt = 0 := by decide
  refine ok_mono (s_d_leaves_7 hF hA (by omega) (by omega) (by omega) (by omega) (by omega)) ?_
  rintro ⟨v_2, F_3, A_4, J_5⟩ ⟨hF_3, hA_4, F_3_o, A_4_o, v_2_p⟩
  dsimp only at hF_3 hA_4 F_3_o A_4_o v_2_p ⊢
  have v_2_p : (RVm F A 48 k → RVm F_3 A_4 48 k) := v_2_p
  refine ⟨hF_3, hA_4, (fun q hq => (F_3_o q hq)), (fun q hq => (A_4_o q hq)), ?_⟩
  exact v_2_p
set_option maxRecDepth 10000 in
theorem s_d_codeOf {n : Nat} {k : Int} {F : Nat → Int32} {A : Nat → Nat → Int32} {J : Nat → Nat → Int64} {x1 : Int32} {x2 : Int32} (hF : IFm F) (hA : IAm A) (hn : 10 ≤ n) (hk : k ≤ 6) (hx1 : 0 ≤ x1.toInt ∧ x1.toInt < k) : ok (d_codeOf n F A J x1 x2) (fun r => IFm r.2.1 ∧ IAm r.2.2.1 ∧ (∀ q, q ∉ ([] : List Nat) → r.2.1 q = F q) ∧ (∀ q, q ∉ ([48] : List Nat) → r.2.2.1 q = A q) ∧ True) := by
  have r18 : 0 ≤ (F 18).toInt ∧ (F 18).toInt ≤ 1 := hF 18
  unfold d_codeOf
  refine ok_call (s_d_leaves hF hA (by omega) (by omega) (by omega)) ?_
  rintro ⟨v_1, F_2, A_3, J_4⟩ ⟨hF_2, hA_3, F_2_o, A_3_o, v_1_p⟩
  dsimp only at hF_2 hA_3 F_2_o A_3_o v_1_p ⊢
  have v_1_p : (RVm F A 48 k → RVm F_2 A_3 48 k) := v_1_p
  have r_5 : 0 ≤ (F_2 18).toInt ∧ (F_2 18).toInt ≤ 1 := hF_2 18
  have r_6 : 0 ≤ (F 18).toInt ∧ (F 18).toInt ≤ 1 := hF 18
  have f_7 : (F_2 18).toInt = (F 18).toInt := congrArg Int32.toInt (F_2_o 18 (by decide))
  have l_8 : (0 : Int32).toInt = 0 := by decide
  refine ok_cond (fun c_9 => ?_) (fun c_9 => ?_)
  · rw [i_eq] at c_9
    refine ok_some ?_
    refine ⟨hF_2, hA_3, (fun q hq => (F_2_o q hq)), (fun q hq => (A_3_o q hq)), ?_⟩
    (first | trivial | omega | exact ⟨by omega, by omega⟩ | assumption)
  · rw [i_neq] at c_9
    have l_10 : (42 : Int32).toInt = 42 := by decide
    have e_11 := i_add (x := 42) (y := x1) (by omega) (by omega)
    refine ok_ld (j := 48) hA_3 (by omega) (by omega) ?_
    intro v_12 v_12_e v_12_r
    refine ok_cond (fun c_13 => ?_) (fun c_13 => ?_)
    · rw [i_lt] at c_13
      refine ok_some ?_
      refine ⟨hF_2, hA_3, (fun q hq => (F_2_o q hq)), (fun q hq => (A_3_o q hq)), ?_⟩
      (first | trivial | omega | exact ⟨by omega, by omega⟩ | assumption)
    · rw [i_nlt] at c_13
      refine ok_ld (j := 48) hA_3 (by omega) (by omega) ?_
      intro v_14 v_14_e v_14_r
      have l_15 : (48 : Int32).toInt = 48 := by decide
      have e_16 := i_add (x := 48) (y := x1) (by omega) (by omega)
      refine ok_ld (j := 48) hA_3 (by omega) (by omega) ?_
      intro v_17 v_17_e v_17_r
      refine ok_some ?_
      refine ⟨hF_2, hA_3, (fun q hq => (F_2_o q hq)), (fun q hq => (A_3_o q hq)), ?_⟩
      (first | trivial | omega | exact ⟨by omega, by omega⟩ | assumption)
end Qz52
