set_option maxRecDepth 10000 in
theorem s_d_termOf_5  {n : Nat} {F0 : Nat → Int32} {A0 : Nat → Nat → Int32} {u : Int} {F : Nat → Int32} {A : Nat → Nat → Int32} {J : Nat → Nat → Int64} {x2 : Int32} {x3 : Int32} {x4 : Int32} (hF : IFm F) (hA : IAm A) (bF : ∀ q, q ∉ ([63] : List Nat) → F q = F0 q) (bA : ∀ q, q ∉ ([46] : List Nat) → A q = A0 q) (hW : WFm A0 u x2.toInt) (hu : u ≤ x4.toInt ∧ x4.toInt ≤ x2.toInt) (hd : x3.toInt = dpm A0 u (x4.toInt - u).toNat) (hn : 400 - (x4.toInt - u) < (n : Int)) : ok (d_termOf_5 n F A J x2 x3 x4) (fun r => IFm r.2.1 ∧ IAm r.2.2.1 ∧ (∀ q, q ∉ ([63] : List Nat) → r.2.1 q = F0 q) ∧ (∀ q, q ∉ ([46] : List Nat) → r.2.2.1 q = A0 q) ∧ True) := by
  induction n generalizing F A J x3 x4 with
  | zero => exact absurd hn (by have z := hW.2.2.1; omega)
  | succ n ih =>
    have r18 : 0 ≤ (F 18).toInt ∧ (F 18).toInt ≤ 1 := hF 18
    have a42 : ai A 42 = ai A0 42 := ai_fr (bA 42 (by decide))
    have a43 : ai A 43 = ai A0 43 := ai_fr (bA 43 (by decide))
    obtain ⟨w1, w2, w3, w4, w5, w6⟩ := id hW
    obtain ⟨kk, hkk⟩ : ∃ kk : Nat, (kk : Int) = x4.toInt - u := ⟨(x4.toInt - u).toNat, by omega⟩
    rw [show (x4.toInt - u).toNat = kk by omega] at hd
    have d0 := dpm_nn hW kk (by omega)
    have d1 := dpm_le A0 u kk
    unfold d_termOf_5
    refine ok_cond (fun c_1 => ?_) (fun c_1 => ?_)
    · rw [i_ge] at c_1
      have l_2 : (0 : Int32).toInt = 0 := by decide
      refine ok_ld (j := 46) hA (by omega) (by omega) ?_
      intro v_3 v_3_e v_3_r
      refine ok_some ?_
      refine ⟨hF, hA, (fun q hq => (bF q hq)), (fun q hq => (bA q hq)), ?_⟩
      (first | trivial | omega | exact ⟨by omega, by omega⟩ | assumption)
    · rw [i_nge] at c_1
      refine ok_ld (j := 42) hA (by omega) (by omega) ?_
      intro v_4 v_4_e v_4_r
      have v_4_r : 0 ≤ v_4.toInt ∧ v_4.toInt ≤ 5 := v_4_r
      rw [a42] at v_4_e
      have l_5 : (2 : Int32).toInt = 2 := by decide
      refine ok_cond (fun c_6 => ?_) (fun c_6 => ?_)
      · rw [i_ge] at c_6
        have hp := w5 kk (by omega) (by rw [show u + (kk : Int) = x4.toInt by omega]; omega)
        have lm : (-1 : Int32).toInt = -1 := by decide
        have ey := i_add (x := x3) (y := -1) (by omega) (by omega)
        rw [lm] at ey
        generalize hy : x3 + -1 = y3 at ey ⊢
        have l_7 : (1 : Int32).toInt = 1 := by decide
        have e_8 := i_sub (x := y3) (y := 1) (by omega) (by omega)
        refine ok_ld (j := 46) hA (by omega) (by omega) ?_
        intro v_9 v_9_e v_9_r
        refine ok_ld (j := 46) hA (by omega) (by omega) ?_
        intro v_10 v_10_e v_10_r
        have l_11 : (5 : Int32).toInt = 5 := by decide
        refine ok_cond (fun c_12 => ?_) (fun c_12 => ?_)
        · rw [i_ne] at c_12
          unfold d_termOf_104
          refine ok_cond (fun c_13 => ?_) (fun c_13 => ?_)
          · rw [i_ne] at c_13
            have l_14 : (3 : Int32).toInt = 3 := by decide
            refine ok_cond (fun c_15 => ?_) (fun c_15 => ?_)
            · rw [i_ne] at c_15
              have l_16 : (4 : Int32).toInt = 4 := by decide
              refine ok_cond (fun c_17 => ?_) (fun c_17 => ?_)
              · rw [i_ne] at c_17
                have hdz : v_10.toInt ≠ 0 := by clear hp d0 d1 hd hu w1 w2 w3 w4 w5 w6 hkk ih hW hn a42 a43 bF bA hF hA; omega
                clear c_12 c_13 c_15 c_17
                refine ok_div1 (by first | assumption | omega) ?_
                intro v_18 v_18_e
                refine ok_st (j := 46) hA (by omega) (by omega) (trivial) ?_
                intro A_19 hA_19 A_19_o A_19_s A_19_n
                have e_20 := i_add (x := x4) (y := 1) (by omega) (by omega)
                exact ih hF hA_19 (fun q hq => (bF q hq)) (fun q hq => ((A_19_o q (fun e => hq (by rw [e]; decide))).trans (bA q hq))) (by omega) (by have hs := dpm_step (A := A0) (u := u) (c := x4.toInt) (by omega); rw [show (x4.toInt - u).toNat = kk by omega] at hs; rw [show (x4 + 1).toInt = x4.toInt + 1 by omega, hs]; first | (rw [if_pos (by omega)]; omega) | (rw [if_neg (by omega)]; omega)) (by omega)
              · rw [i_nne] at c_17
                unfold d_termOf_158
                refine ok_st (j := 46) hA (by omega) (by omega) (trivial) ?_
                intro A_21 hA_21 A_21_o A_21_s A_21_n
                have e_22 := i_add (x := x4) (y := 1) (by omega) (by omega)
                exact ih hF hA_21 (fun q hq => (bF q hq)) (fun q hq => ((A_21_o q (fun e => hq (by rw [e]; decide))).trans (bA q hq))) (by omega) (by have hs := dpm_step (A := A0) (u := u) (c := x4.toInt) (by omega); rw [show (x4.toInt - u).toNat = kk by omega] at hs; rw [show (x4 + 1).toInt = x4.toInt + 1 by omega, hs]; first | (rw [if_pos (by omega)]; omega) | (rw [if_neg (by omega)]; omega)) (by omega)
            · rw [i_nne] at c_15
              unfold d_termOf_158
              refine ok_st (j := 46) hA (by omega) (by omega) (trivial) ?_
              intro A_23 hA_23 A_23_o A_23_s A_23_n
              have e_24 := i_add (x := x4) (y := 1) (by omega) (by omega)
              exact ih hF hA_23 (fun q hq => (bF q hq)) (fun q hq => ((A_23_o q (fun e => hq (by rw [e]; decide))).trans (bA q hq))) (by omega) (by have hs := dpm_step (A := A0) (u := u) (c := x4.toInt) (by omega); rw [show (x4.toInt - u).toNat = kk by omega] at hs; rw [show (x4 + 1).toInt = x4.toInt + 1 by omega, hs]; first | (rw [if_pos (by omega)]; omega) | (rw [if_neg (by omega)]; omega)) (by omega)
          · rw [i_nne] at c_13
            unfold d_termOf_158
            refine ok_st (j := 46) hA (by omega) (by omega) (trivial) ?_
            intro A_25 hA_25 A_25_o A_25_s A_25_n
            have e_26 := i_add (x := x4) (y := 1) (by omega) (by omega)
            exact ih hF hA_25 (fun q hq => (bF q hq)) (fun q hq => ((A_25_o q (fun e => hq (by rw [e]; decide))).trans (bA q hq))) (by omega) (by have hs := dpm_step (A := A0) (u := u) (c := x4.toInt) (by omega); rw [show (x4.toInt - u).toNat = kk by omega] at hs; rw [show (x4 + 1).toInt = x4.toInt + 1 by omega, hs]; first | (rw [if_pos (by omega)]; omega) | (rw [if_neg (by omega)]; omega)) (by omega)
        · rw [i_nne] at c_12
          have l_27 : (0 : Int32).toInt = 0 := by decide
          refine ok_cond (fun c_28 => ?_) (fun c_28 => ?_)
          · rw [i_ne] at c_28
            unfold d_termOf_104
            refine ok_cond (fun c_29 => ?_) (fun c_29 => ?_)
            · rw [i_ne] at c_29
              have l_30 : (3 : Int32).toInt = 3 := by decide
              refine ok_cond (fun c_31 => ?_) (fun c_31 => ?_)
              · rw [i_ne] at c_31
                have l_32 : (4 : Int32).toInt = 4 := by decide
                refine ok_cond (fun c_33 => ?_) (fun c_33 => ?_)
                · rw [i_ne] at c_33
                  have hdz : v_10.toInt ≠ 0 := by clear hp d0 d1 hd hu w1 w2 w3 w4 w5 w6 hkk ih hW hn a42 a43 bF bA hF hA; omega
                  clear c_28 c_29 c_31 c_33
                  refine ok_div1 (by first | assumption | omega) ?_
                  intro v_34 v_34_e
                  refine ok_st (j := 46) hA (by omega) (by omega) (trivial) ?_
                  intro A_35 hA_35 A_35_o A_35_s A_35_n
                  have e_36 := i_add (x := x4) (y := 1) (by omega) (by omega)
                  exact ih hF hA_35 (fun q hq => (bF q hq)) (fun q hq => ((A_35_o q (fun e => hq (by rw [e]; decide))).trans (bA q hq))) (by omega) (by have hs := dpm_step (A := A0) (u := u) (c := x4.toInt) (by omega); rw [show (x4.toInt - u).toNat = kk by omega] at hs; rw [show (x4 + 1).toInt = x4.toInt + 1 by omega, hs]; first | (rw [if_pos (by omega)]; omega) | (rw [if_neg (by omega)]; omega)) (by omega)
                · rw [i_nne] at c_33
                  unfold d_termOf_158
                  refine ok_st (j := 46) hA (by omega) (by omega) (trivial) ?_
                  intro A_37 hA_37 A_37_o A_37_s A_37_n
                  have e_38 := i_add (x := x4) (y := 1) (by omega) (by omega)
                  exact ih hF hA_37 (fun q hq => (bF q hq)) (fun q hq => ((A_37_o q (fun e => hq (by rw [e]; decide))).trans (bA q hq))) (by omega) (by have hs := dpm_step (A := A0) (u := u) (c := x4.toInt) (by omega); rw [show (x4.toInt - u).toNat = kk by omega] at hs; rw [show (x4 + 1).toInt = x4.toInt + 1 by omega, hs]; first | (rw [if_pos (by omega)]; omega) | (rw [if_neg (by omega)]; omega)) (by omega)
              · rw [i_nne] at c_31
                unfold d_termOf_158
                refine ok_st (j := 46) hA (by omega) (by omega) (trivial) ?_
                intro A_39 hA_39 A_39_o A_39_s A_39_n
                have e_40 := i_add (x := x4) (y := 1) (by omega) (by omega)
                exact ih hF hA_39 (fun q hq => (bF q hq)) (fun q hq => ((A_39_o q (fun e => hq (by rw [e]; decide))).trans (bA q hq))) (by omega) (by have hs := dpm_step (A := A0) (u := u) (c := x4.toInt) (by omega); rw [show (x4.toInt - u).toNat = kk by omega] at hs; rw [show (x4 + 1).toInt = x4.toInt + 1 by omega, hs]; first | (rw [if_pos (by omega)]; omega) | (rw [if_neg (by omega)]; omega)) (by omega)
            · rw [i_nne] at c_29
              unfold d_termOf_158
              refine ok_st (j := 46) hA (by omega) (by omega) (trivial) ?_
              intro A_41 hA_41 A_41_o A_41_s A_41_n
              have e_42 := i_add (x := x4) (y := 1) (by omega) (by omega)
              exact ih hF hA_41 (fun q hq => (bF q hq)) (fun q hq => ((A_41_o q (fun e => hq (by rw [e]; decide))).trans (bA q hq))) (by omega) (by have hs := dpm_step (A := A0) (u := u) (c := x4.toInt) (by omega); rw [show (x4.toInt - u).toNat = kk by omega] at hs; rw [show (x4 + 1).toInt = x4.toInt + 1 by omega, hs]; first | (rw [if_pos (by omega)]; omega) | (rw [if_neg (by omega)]; omega)) (by omega)
          · rw [i_nne] at c_28
            refine ok_pfz hF (by omega) (⟨by omega, by omega⟩) ?_
            intro F_43 hF_43 F_43_k F_43_o
            refine ok_some ?_
            refine ⟨hF_43, hA, (fun q hq => ((F_43_o q (fun e => hq (by rw [e]; decide))).trans (bF q hq))), (fun q hq => (bA q hq)), ?_⟩
            (first | trivial | omega | exact ⟨by omega, by omega⟩ | assumption)
      · rw [i_nge] at c_6
        have l_44 : (0 : Int32).toInt = 0 := by decide
        refine ok_cond (fun c_45 => ?_) (fun c_45 => ?_)
        · rw [i_ne] at c_45
          refine ok_ld (j := 43) hA (by omega) (by omega) ?_
          intro v_46 v_46_e v_46_r
          rw [a43] at v_46_e
          have hx := w6 x4.toInt (by omega) (by omega) (by omega)
          refine ok_ld (j := 45) hA (by omega) (by omega) ?_
          intro v_47 v_47_e v_47_r
          refine ok_st (j := 46) hA (by omega) (by omega) (trivial) ?_
          intro A_48 hA_48 A_48_o A_48_s A_48_n
          unfold d_termOf_159
          have l_49 : (1 : Int32).toInt = 1 := by decide
          have e_50 := i_add (x := x3) (y := 1) (by omega) (by omega)
          have e_51 := i_add (x := x4) (y := 1) (by omega) (by omega)
          exact ih hF hA_48 (fun q hq => (bF q hq)) (fun q hq => ((A_48_o q (fun e => hq (by rw [e]; decide))).trans (bA q hq))) (by omega) (by have hs := dpm_step (A := A0) (u := u) (c := x4.toInt) (by omega); rw [show (x4.toInt - u).toNat = kk by omega] at hs; rw [show (x4 + 1).toInt = x4.toInt + 1 by omega, hs]; first | (rw [if_pos (by omega)]; omega) | (rw [if_neg (by omega)]; omega)) (by omega)
        · rw [i_nne] at c_45
          refine ok_ld (j := 43) hA (by omega) (by omega) ?_
          intro v_52 v_52_e v_52_r
          unfold d_termOf_58
          refine ok_st (j := 46) hA (by omega) (by omega) (trivial) ?_
          intro A_53 hA_53 A_53_o A_53_s A_53_n
          unfold d_termOf_159
          have l_54 : (1 : Int32).toInt = 1 := by decide
          have e_55 := i_add (x := x3) (y := 1) (by omega) (by omega)
          have e_56 := i_add (x := x4) (y := 1) (by omega) (by omega)
          exact ih hF hA_53 (fun q hq => (bF q hq)) (fun q hq => ((A_53_o q (fun e => hq (by rw [e]; decide))).trans (bA q hq))) (by omega) (by have hs := dpm_step (A := A0) (u := u) (c := x4.toInt) (by omega); rw [show (x4.toInt - u).toNat = kk by omega] at hs; rw [show (x4 + 1).toInt = x4.toInt + 1 by omega, hs]; first | (rw [if_pos (by omega)]; omega) | (rw [if_neg (by omega)]; omega)) (by omega)
set_option maxRecDepth 10000 in
theorem s_d_termOf {n : Nat} {F : Nat → Int32} {A : Nat → Nat → Int32} {J : Nat → Nat → Int64} {x1 : Int32} {x2 : Int32} (hF : IFm F) (hA : IAm A) (hn : 402 ≤ n) (hW : WFm A x1.toInt x2.toInt) : ok (d_termOf n F A J x1 x2) (fun r => IFm r.2.1 ∧ IAm r.2.2.1 ∧ (∀ q, q ∉ ([63] : List Nat) → r.2.1 q = F q) ∧ (∀ q, q ∉ ([46] : List Nat) → r.2.2.1 q = A q) ∧ True) := by
  have r18 : 0 ≤ (F 18).toInt ∧ (F 18).toInt ≤ 1 := hF 18
  unfold d_termOf
  have l_1 : (0 : Int32).toInt = 0 := by decide
  refine ok_mono (s_d_termOf_5 (u := x1.toInt) hF hA (fun q hq => rfl) (fun q hq => rfl) (hW) (⟨by omega, hW.2.1⟩) (by rw [Int.sub_self]; rfl) (by omega)) ?_
  rintro ⟨v_2, F_3, A_4, J_5⟩ ⟨hF_3, hA_4, F_3_o, A_4_o, v_2_p⟩
  dsimp only at hF_3 hA_4 F_3_o A_4_o v_2_p ⊢
  refine ⟨hF_3, hA_4, (fun q hq => (F_3_o q hq)), (fun q hq => (A_4_o q hq)), ?_⟩
  (first | trivial | omega | exact ⟨by omega, by omega⟩ | assumption)
