set_option maxRecDepth 10000 in
theorem s_d_tellDoor_135 {n : Nat} {l : Int} {F : Nat → Int32} {A : Nat → Nat → Int32} {J : Nat → Nat → Int64}  (hF : IFm F) (hA : IAm A) (hl : 0 ≤ l ∧ (F 18).toInt = l ∧ (F 19).toInt = 1 - l) (NFA : NCm F A) (hr : ai A 12 (F 19).toInt < 12) : ok (d_tellDoor_135 n F A J) (fun r => IFm r.2.1 ∧ IAm r.2.2.1 ∧ (∀ q, q ∉ ([11, 13, 14] : List Nat) → r.2.1 q = F q) ∧ (∀ q, q ∉ ([12] : List Nat) → r.2.2.1 q = A q) ∧ NCm r.2.1 r.2.2.1 ∧ LSm l A r.2.2.1 ∧ (F 15).toInt ≤ 5 * (r.2.1 15).toInt ∧ (F 11).toInt ≤ (r.2.1 11).toInt ∧ (F 13).toInt ≤ 5 * (r.2.1 13).toInt ∧ (1 ≤ (r.2.1 13).toInt ∨ ai r.2.2.1 12 (F 19).toInt = ai A 12 (F 19).toInt + 1)) := by
  have r18 : 0 ≤ (F 18).toInt ∧ (F 18).toInt ≤ 1 := hF 18
  have LFA : LSm l A A := LSm.rfl' l A
  have g12 : 0 ≤ ai A 12 (F 19).toInt ∧ ai A 12 (F 19).toInt ≤ 12 := hA 12 _ (by have := hF 19; exact this.1)
  have aFA : ai A 12 (F 19).toInt = ai A 12 (F 19).toInt := rfl
  have r_1 : 0 ≤ (F 11).toInt ∧ (F 11).toInt ≤ 400 := hF 11
  have r_2 : 0 ≤ (F 13).toInt ∧ (F 13).toInt ≤ 5 := hF 13
  have r_3 : 0 ≤ (F 15).toInt ∧ (F 15).toInt ≤ 5 := hF 15
  have r_4 : 0 ≤ (F 18).toInt ∧ (F 18).toInt ≤ 1 := hF 18
  have r_5 : 0 ≤ (F 19).toInt ∧ (F 19).toInt ≤ 1 := hF 19
  have r_6 : 0 ≤ (F 20).toInt ∧ (F 20).toInt ≤ 32 := hF 20
  unfold d_tellDoor_135
  refine ok_call (l_d_must hF hA) ?_
  rintro ⟨u_7, F_8, A_9, J_10⟩ ⟨hF_8, hA_9, F_8_o, A_9_o, u_7_p⟩
  dsimp only at hF_8 hA_9 F_8_o A_9_o u_7_p ⊢
  change (F 11).toInt ≤ (F_8 11).toInt ∧ (F 13).toInt ≤ 5 * (F_8 13).toInt at u_7_p
  have r_11 : 0 ≤ (F_8 11).toInt ∧ (F_8 11).toInt ≤ 400 := hF_8 11
  have r_12 : 0 ≤ (F_8 13).toInt ∧ (F_8 13).toInt ≤ 5 := hF_8 13
  have r_13 : 0 ≤ (F_8 15).toInt ∧ (F_8 15).toInt ≤ 5 := hF_8 15
  have f_14 : (F_8 15).toInt = (F 15).toInt := congrArg Int32.toInt (F_8_o 15 (by decide))
  have r_15 : 0 ≤ (F_8 18).toInt ∧ (F_8 18).toInt ≤ 1 := hF_8 18
  have f_16 : (F_8 18).toInt = (F 18).toInt := congrArg Int32.toInt (F_8_o 18 (by decide))
  have r_17 : 0 ≤ (F_8 19).toInt ∧ (F_8 19).toInt ≤ 1 := hF_8 19
  have f_18 : (F_8 19).toInt = (F 19).toInt := congrArg Int32.toInt (F_8_o 19 (by decide))
  have r_19 : 0 ≤ (F_8 20).toInt ∧ (F_8 20).toInt ≤ 32 := hF_8 20
  have f_20 : (F_8 20).toInt = (F 20).toInt := congrArg Int32.toInt (F_8_o 20 (by decide))
  have LF_8A_9 : LSm l A A_9 := LFA.fr _ A_9_o (by decide)
  have NF_8A_9 : NCm F_8 A_9 := NFA.fr0 (F_8_o 19 (by decide)) (F_8_o 20 (by decide)) (fun q hq => A_9_o q (by simp))
  have aF_8A_9 : ai A_9 12 (F_8 19).toInt = ai A 12 (F 19).toInt := by rw [ai_fr (A_9_o 12 (by decide)), F_8_o 19 (by decide)] <;> exact aFA
  have l_21 : (0 : Int32).toInt = 0 := by decide
  refine ok_cond (fun c_22 => ?_) (fun c_22 => ?_)
  · rw [i_ne] at c_22
    refine ok_some ?_
    refine ⟨hF_8, hA_9, (fun q hq => (F_8_o q hq)), (fun q hq => (A_9_o q (fun e => hq ((by decide : ∀ x, x ∈ ([] : List Nat) → x ∈ ([12] : List Nat)) q e)))), ?_⟩
    first | exact ⟨NF_8A_9, LF_8A_9, by (try dsimp only) <;> omega, by (try dsimp only) <;> omega, by (try dsimp only) <;> omega, .inr zz⟩ | exact ⟨NF_8A_9, LF_8A_9, by (try dsimp only) <;> omega, by (try dsimp only) <;> omega, by (try dsimp only) <;> omega, .inl (by (try dsimp only) <;> omega)⟩
  · rw [i_nne] at c_22
    refine ok_ld (j := 12) hA_9 (by omega) (by omega) ?_
    intro v_23 v_23_e v_23_r
    change 0 ≤ v_23.toInt ∧ v_23.toInt ≤ 12 at v_23_r
    have l_24 : (1 : Int32).toInt = 1 := by decide
    have e_25 := i_add (x := v_23) (y := 1) (by omega) (by omega)
    refine ok_st (j := 12) hA_9 (by omega) (by omega) (⟨by omega, by omega⟩) ?_
    intro A_26 hA_26 A_26_o A_26_s A_26_n
    have LF_8A_26 : LSm l A A_26 := LF_8A_9.st hl.1 1 rfl A_26_o A_26_n ⟨by omega, by omega⟩ (by omega)
    have NF_8A_26 : NCm F_8 A_26 := NF_8A_9.fr0 rfl rfl (fun q hq => A_26_o q (by omega))
    have zz : ai A_26 12 (F 19).toInt = ai A 12 (F 19).toInt + 1 := (congrArg (ai A_26 12) (show (F 19).toInt = (F_8 19).toInt by omega)).trans (A_26_s.trans (by omega))
    refine ok_some ?_
    refine ⟨hF_8, hA_26, (fun q hq => (F_8_o q hq)), (fun q hq => ((A_26_o q (fun e => hq (by rw [e]; decide))).trans (A_9_o q (fun e => hq ((by decide : ∀ x, x ∈ ([] : List Nat) → x ∈ ([12] : List Nat)) q e))))), ?_⟩
    first | exact ⟨NF_8A_26, LF_8A_26, by (try dsimp only) <;> omega, by (try dsimp only) <;> omega, by (try dsimp only) <;> omega, .inr zz⟩ | exact ⟨NF_8A_26, LF_8A_26, by (try dsimp only) <;> omega, by (try dsimp only) <;> omega, by (try dsimp only) <;> omega, .inl (by (try dsimp only) <;> omega)⟩
set_option maxRecDepth 10000 in
theorem s_d_tellDoor_121 {n : Nat} {l : Int} {F : Nat → Int32} {A : Nat → Nat → Int32} {J : Nat → Nat → Int64} {x1 : Int32} {s1 : Int32} {s2 : Int32} (hF : IFm F) (hA : IAm A) (hl : 0 ≤ l ∧ (F 18).toInt = l ∧ (F 19).toInt = 1 - l) (NFA : NCm F A) (hr : ai A 12 (F 19).toInt < 12) (hi : 12 * (F 19).toInt ≤ s1.toInt ∧ s1.toInt < 12 * (F 19).toInt + 12) (hx : x1 = s1) (h2 : 0 ≤ (vp_nar .boolean s2).toInt ∧ (vp_nar .boolean s2).toInt ≤ 1) : ok (d_tellDoor_121 n F A J x1 s1 s2) (fun r => IFm r.2.1 ∧ IAm r.2.2.1 ∧ (∀ q, q ∉ ([11, 13, 14] : List Nat) → r.2.1 q = F q) ∧ (∀ q, q ∉ ([12, 16] : List Nat) → r.2.2.1 q = A q) ∧ NCm r.2.1 r.2.2.1 ∧ LSm l A r.2.2.1 ∧ (F 15).toInt ≤ 5 * (r.2.1 15).toInt ∧ (F 11).toInt ≤ (r.2.1 11).toInt ∧ (F 13).toInt ≤ 5 * (r.2.1 13).toInt ∧ (1 ≤ (r.2.1 13).toInt ∨ ai r.2.2.1 12 (F 19).toInt = ai A 12 (F 19).toInt + 1)) := by
  have r18 : 0 ≤ (F 18).toInt ∧ (F 18).toInt ≤ 1 := hF 18
  subst hx
  have LFA : LSm l A A := LSm.rfl' l A
  have g12 : 0 ≤ ai A 12 (F 19).toInt ∧ ai A 12 (F 19).toInt ≤ 12 := hA 12 _ (by have := hF 19; exact this.1)
  have aFA : ai A 12 (F 19).toInt = ai A 12 (F 19).toInt := rfl
  have r_1 : 0 ≤ (F 11).toInt ∧ (F 11).toInt ≤ 400 := hF 11
  have r_2 : 0 ≤ (F 13).toInt ∧ (F 13).toInt ≤ 5 := hF 13
  have r_3 : 0 ≤ (F 15).toInt ∧ (F 15).toInt ≤ 5 := hF 15
  have r_4 : 0 ≤ (F 18).toInt ∧ (F 18).toInt ≤ 1 := hF 18
  have r_5 : 0 ≤ (F 19).toInt ∧ (F 19).toInt ≤ 1 := hF 19
  have r_6 : 0 ≤ (F 20).toInt ∧ (F 20).toInt ≤ 32 := hF 20
  unfold d_tellDoor_121
  refine ok_st (j := 16) hA (by omega) (by omega) (⟨by omega, by omega⟩) ?_
  intro A_7 hA_7 A_7_o A_7_s A_7_n
  have LFA_7 : LSm l A A_7 := LFA.st hl.1 12 rfl A_7_o A_7_n ⟨by omega, by omega⟩ (by omega)
  have NFA_7 : NCm F A_7 := NFA.fr0 rfl rfl (fun q hq => A_7_o q (by omega))
  have aFA_7 : ai A_7 12 (F 19).toInt = ai A 12 (F 19).toInt := by rw [ai_fr (A_7_o 12 (by decide))] <;> exact aFA
  refine ok_ld (j := 16) hA_7 (by omega) (by omega) ?_
  intro v_8 v_8_e v_8_r
  change 0 ≤ v_8.toInt ∧ v_8.toInt ≤ 1 at v_8_r
  have l_9 : (0 : Int32).toInt = 0 := by decide
  refine ok_cond (fun c_10 => ?_) (fun c_10 => ?_)
  · rw [i_eq] at c_10
    refine ok_mono (s_d_tellDoor_135 (l := l) hF hA_7 (by omega) (NFA_7) (by omega)) ?_
    rintro ⟨v_11, F_12, A_13, J_14⟩ ⟨hF_12, hA_13, F_12_o, A_13_o, v_11_p⟩
    dsimp only at hF_12 hA_13 F_12_o A_13_o v_11_p ⊢
    change NCm F_12 A_13 ∧ LSm l A_7 A_13 ∧ (F 15).toInt ≤ 5 * (F_12 15).toInt ∧ (F 11).toInt ≤ (F_12 11).toInt ∧ (F 13).toInt ≤ 5 * (F_12 13).toInt ∧ (1 ≤ (F_12 13).toInt ∨ ai A_13 12 (F 19).toInt = ai A_7 12 (F 19).toInt + 1) at v_11_p
    have r_15 : 0 ≤ (F_12 11).toInt ∧ (F_12 11).toInt ≤ 400 := hF_12 11
    have r_16 : 0 ≤ (F_12 13).toInt ∧ (F_12 13).toInt ≤ 5 := hF_12 13
    have r_17 : 0 ≤ (F_12 15).toInt ∧ (F_12 15).toInt ≤ 5 := hF_12 15
    have f_18 : (F_12 15).toInt = (F 15).toInt := congrArg Int32.toInt (F_12_o 15 (by decide))
    have r_19 : 0 ≤ (F_12 18).toInt ∧ (F_12 18).toInt ≤ 1 := hF_12 18
    have f_20 : (F_12 18).toInt = (F 18).toInt := congrArg Int32.toInt (F_12_o 18 (by decide))
    have r_21 : 0 ≤ (F_12 19).toInt ∧ (F_12 19).toInt ≤ 1 := hF_12 19
    have f_22 : (F_12 19).toInt = (F 19).toInt := congrArg Int32.toInt (F_12_o 19 (by decide))
    have r_23 : 0 ≤ (F_12 20).toInt ∧ (F_12 20).toInt ≤ 32 := hF_12 20
    have f_24 : (F_12 20).toInt = (F 20).toInt := congrArg Int32.toInt (F_12_o 20 (by decide))
    have LF_12A_13 : LSm l A A_13 := LFA_7.tr v_11_p.2.1
    have NF_12A_13 : NCm F_12 A_13 := v_11_p.1
    have zq : (1 ≤ (F_12 13).toInt ∨ ai A_13 12 (F 19).toInt = ai A 12 (F 19).toInt + 1) := by have hz := congrArg (ai A_13 12) (show (F 19).toInt = (F 19).toInt by omega); rcases v_11_p.2.2.2.2.2 with h | h; exact .inl h; exact .inr (hz.trans (h.trans (by omega)))
    refine ⟨hF_12, hA_13, (fun q hq => (F_12_o q hq)), (fun q hq => ((A_13_o q (fun e => hq ((by decide : ∀ x, x ∈ ([12] : List Nat) → x ∈ ([12, 16] : List Nat)) q e))).trans (A_7_o q (fun e => hq (by rw [e]; decide))))), ?_⟩
    exact ⟨NF_12A_13, LF_12A_13, by (try dsimp only) <;> omega, by (try dsimp only) <;> omega, by (try dsimp only) <;> omega, zq⟩
  · rw [i_neq] at c_10
    refine ok_call (l_d_goesOn hF hA_7) ?_
    rintro ⟨u_25, F_26, A_27, J_28⟩ ⟨hF_26, hA_27, F_26_o, A_27_o, u_25_p⟩
    dsimp only at hF_26 hA_27 F_26_o A_27_o u_25_p ⊢
    change (F 11).toInt ≤ (F_26 11).toInt ∧ (F 13).toInt ≤ 5 * (F_26 13).toInt at u_25_p
    have r_29 : 0 ≤ (F_26 11).toInt ∧ (F_26 11).toInt ≤ 400 := hF_26 11
    have r_30 : 0 ≤ (F_26 13).toInt ∧ (F_26 13).toInt ≤ 5 := hF_26 13
    have r_31 : 0 ≤ (F_26 15).toInt ∧ (F_26 15).toInt ≤ 5 := hF_26 15
    have f_32 : (F_26 15).toInt = (F 15).toInt := congrArg Int32.toInt (F_26_o 15 (by decide))
    have r_33 : 0 ≤ (F_26 18).toInt ∧ (F_26 18).toInt ≤ 1 := hF_26 18
    have f_34 : (F_26 18).toInt = (F 18).toInt := congrArg Int32.toInt (F_26_o 18 (by decide))
    have r_35 : 0 ≤ (F_26 19).toInt ∧ (F_26 19).toInt ≤ 1 := hF_26 19
    have f_36 : (F_26 19).toInt = (F 19).toInt := congrArg Int32.toInt (F_26_o 19 (by decide))
    have r_37 : 0 ≤ (F_26 20).toInt ∧ (F_26 20).toInt ≤ 32 := hF_26 20
    have f_38 : (F_26 20).toInt = (F 20).toInt := congrArg Int32.toInt (F_26_o 20 (by decide))
    have LF_26A_27 : LSm l A A_27 := LFA_7.fr _ A_27_o (by decide)
    have NF_26A_27 : NCm F_26 A_27 := NFA_7.fr0 (F_26_o 19 (by decide)) (F_26_o 20 (by decide)) (fun q hq => A_27_o q (by simp))
    have aF_26A_27 : ai A_27 12 (F_26 19).toInt = ai A 12 (F 19).toInt := by rw [ai_fr (A_27_o 12 (by decide)), F_26_o 19 (by decide)] <;> exact aFA_7
    refine ok_call (l_d_must hF_26 hA_27) ?_
    rintro ⟨u_39, F_40, A_41, J_42⟩ ⟨hF_40, hA_41, F_40_o, A_41_o, u_39_p⟩
    dsimp only at hF_40 hA_41 F_40_o A_41_o u_39_p ⊢
    change (F_26 11).toInt ≤ (F_40 11).toInt ∧ (F_26 13).toInt ≤ 5 * (F_40 13).toInt at u_39_p
    have r_43 : 0 ≤ (F_40 11).toInt ∧ (F_40 11).toInt ≤ 400 := hF_40 11
    have r_44 : 0 ≤ (F_40 13).toInt ∧ (F_40 13).toInt ≤ 5 := hF_40 13
    have r_45 : 0 ≤ (F_40 15).toInt ∧ (F_40 15).toInt ≤ 5 := hF_40 15
    have f_46 : (F_40 15).toInt = (F_26 15).toInt := congrArg Int32.toInt (F_40_o 15 (by decide))
    have r_47 : 0 ≤ (F_40 18).toInt ∧ (F_40 18).toInt ≤ 1 := hF_40 18
    have f_48 : (F_40 18).toInt = (F_26 18).toInt := congrArg Int32.toInt (F_40_o 18 (by decide))
    have r_49 : 0 ≤ (F_40 19).toInt ∧ (F_40 19).toInt ≤ 1 := hF_40 19
    have f_50 : (F_40 19).toInt = (F_26 19).toInt := congrArg Int32.toInt (F_40_o 19 (by decide))
    have r_51 : 0 ≤ (F_40 20).toInt ∧ (F_40 20).toInt ≤ 32 := hF_40 20
    have f_52 : (F_40 20).toInt = (F_26 20).toInt := congrArg Int32.toInt (F_40_o 20 (by decide))
    have LF_40A_41 : LSm l A A_41 := LF_26A_27.fr _ A_41_o (by decide)
    have NF_40A_41 : NCm F_40 A_41 := NF_26A_27.fr0 (F_40_o 19 (by decide)) (F_40_o 20 (by decide)) (fun q hq => A_41_o q (by simp))
    have aF_40A_41 : ai A_41 12 (F_40 19).toInt = ai A 12 (F 19).toInt := by rw [ai_fr (A_41_o 12 (by decide)), F_40_o 19 (by decide)] <;> exact aF_26A_27
    refine ok_cond (fun c_53 => ?_) (fun c_53 => ?_)
    · rw [i_ne] at c_53
      refine ok_some ?_
      refine ⟨hF_40, hA_41, (fun q hq => ((F_40_o q hq).trans (F_26_o q hq))), (fun q hq => (((A_41_o q (fun e => hq ((by decide : ∀ x, x ∈ ([] : List Nat) → x ∈ ([12, 16] : List Nat)) q e))).trans (A_27_o q (fun e => hq ((by decide : ∀ x, x ∈ ([] : List Nat) → x ∈ ([12, 16] : List Nat)) q e)))).trans (A_7_o q (fun e => hq (by rw [e]; decide))))), ?_⟩
      first | exact ⟨NF_40A_41, LF_40A_41, by (try dsimp only) <;> omega, by (try dsimp only) <;> omega, by (try dsimp only) <;> omega, .inr zz⟩ | exact ⟨NF_40A_41, LF_40A_41, by (try dsimp only) <;> omega, by (try dsimp only) <;> omega, by (try dsimp only) <;> omega, .inl (by (try dsimp only) <;> omega)⟩
    · rw [i_nne] at c_53
      refine ok_ld (j := 12) hA_41 (by omega) (by omega) ?_
      intro v_54 v_54_e v_54_r
      change 0 ≤ v_54.toInt ∧ v_54.toInt ≤ 12 at v_54_r
      have l_55 : (1 : Int32).toInt = 1 := by decide
      have e_56 := i_add (x := v_54) (y := 1) (by omega) (by omega)
      refine ok_st (j := 12) hA_41 (by omega) (by omega) (⟨by omega, by omega⟩) ?_
      intro A_57 hA_57 A_57_o A_57_s A_57_n
      have LF_40A_57 : LSm l A A_57 := LF_40A_41.st hl.1 1 rfl A_57_o A_57_n ⟨by omega, by omega⟩ (by omega)
      have NF_40A_57 : NCm F_40 A_57 := NF_40A_41.fr0 rfl rfl (fun q hq => A_57_o q (by omega))
      have zz : ai A_57 12 (F 19).toInt = ai A 12 (F 19).toInt + 1 := (congrArg (ai A_57 12) (show (F 19).toInt = (F_40 19).toInt by omega)).trans (A_57_s.trans (by omega))
      refine ok_some ?_
      refine ⟨hF_40, hA_57, (fun q hq => ((F_40_o q hq).trans (F_26_o q hq))), (fun q hq => ((((A_57_o q (fun e => hq (by rw [e]; decide))).trans (A_41_o q (fun e => hq ((by decide : ∀ x, x ∈ ([] : List Nat) → x ∈ ([12, 16] : List Nat)) q e)))).trans (A_27_o q (fun e => hq ((by decide : ∀ x, x ∈ ([] : List Nat) → x ∈ ([12, 16] : List Nat)) q e)))).trans (A_7_o q (fun e => hq (by rw [e]; decide))))), ?_⟩
      first | exact ⟨NF_40A_57, LF_40A_57, by (try dsimp only) <;> omega, by (try dsimp only) <;> omega, by (try dsimp only) <;> omega, .inr zz⟩ | exact ⟨NF_40A_57, LF_40A_57, by (try dsimp only) <;> omega, by (try dsimp only) <;> omega, by (try dsimp only) <;> omega, .inl (by (try dsimp only) <;> omega)⟩
set_option maxRecDepth 10000 in
theorem s_d_tellDoor_82 {n : Nat} {l : Int} {F : Nat → Int32} {A : Nat → Nat → Int32} {J : Nat → Nat → Int64} {x1 : Int32} (hF : IFm F) (hA : IAm A) (hl : 0 ≤ l ∧ (F 18).toInt = l ∧ (F 19).toInt = 1 - l) (NFA : NCm F A) (hr : ai A 12 (F 19).toInt < 12) (hi : 12 * (F 19).toInt ≤ x1.toInt ∧ x1.toInt < 12 * (F 19).toInt + 12) : ok (d_tellDoor_82 n F A J x1) (fun r => IFm r.2.1 ∧ IAm r.2.2.1 ∧ (∀ q, q ∉ ([11, 13, 14, 15, 16] : List Nat) → r.2.1 q = F q) ∧ (∀ q, q ∉ ([12, 15, 16] : List Nat) → r.2.2.1 q = A q) ∧ NCm r.2.1 r.2.2.1 ∧ LSm l A r.2.2.1 ∧ (F 15).toInt ≤ 5 * (r.2.1 15).toInt ∧ (F 11).toInt ≤ (r.2.1 11).toInt ∧ (F 13).toInt ≤ 5 * (r.2.1 13).toInt ∧ (1 ≤ (r.2.1 13).toInt ∨ ai r.2.2.1 12 (F 19).toInt = ai A 12 (F 19).toInt + 1)) := by
  have r18 : 0 ≤ (F 18).toInt ∧ (F 18).toInt ≤ 1 := hF 18
  have LFA : LSm l A A := LSm.rfl' l A
  have g12 : 0 ≤ ai A 12 (F 19).toInt ∧ ai A 12 (F 19).toInt ≤ 12 := hA 12 _ (by have := hF 19; exact this.1)
  have aFA : ai A 12 (F 19).toInt = ai A 12 (F 19).toInt := rfl
  have r_1 : 0 ≤ (F 11).toInt ∧ (F 11).toInt ≤ 400 := hF 11
  have r_2 : 0 ≤ (F 13).toInt ∧ (F 13).toInt ≤ 5 := hF 13
  have r_3 : 0 ≤ (F 15).toInt ∧ (F 15).toInt ≤ 5 := hF 15
  have r_4 : 0 ≤ (F 18).toInt ∧ (F 18).toInt ≤ 1 := hF 18
  have r_5 : 0 ≤ (F 19).toInt ∧ (F 19).toInt ≤ 1 := hF 19
  have r_6 : 0 ≤ (F 20).toInt ∧ (F 20).toInt ≤ 32 := hF 20
  unfold d_tellDoor_82
  have l_7 : (1 : Int32).toInt = 1 := by decide
  have l_8 : (60 : Int32).toInt = 60 := by decide
  refine ok_call (l_d_bounded hF hA (by omega) (by omega)) ?_
  rintro ⟨v_9, F_10, A_11, J_12⟩ ⟨hF_10, hA_11, F_10_o, A_11_o, v_9_p⟩
  dsimp only at hF_10 hA_11 F_10_o A_11_o v_9_p ⊢
  change 0 ≤ v_9.toInt ∧ v_9.toInt ≤ 9999 ∧ (1 : Int32).toInt ≤ v_9.toInt + 10000 * ((F_10 13).toInt + (F_10 15).toInt) ∧ v_9.toInt ≤ (60 : Int32).toInt + 20000 * ((F_10 13).toInt + (F_10 15).toInt) ∧ (F 11).toInt ≤ (F_10 11).toInt ∧ (F 13).toInt ≤ 5 * (F_10 13).toInt ∧ (F 15).toInt ≤ 5 * (F_10 15).toInt at v_9_p
  have r_13 : 0 ≤ (F_10 11).toInt ∧ (F_10 11).toInt ≤ 400 := hF_10 11
  have r_14 : 0 ≤ (F_10 13).toInt ∧ (F_10 13).toInt ≤ 5 := hF_10 13
  have r_15 : 0 ≤ (F_10 15).toInt ∧ (F_10 15).toInt ≤ 5 := hF_10 15
  have r_16 : 0 ≤ (F_10 18).toInt ∧ (F_10 18).toInt ≤ 1 := hF_10 18
  have f_17 : (F_10 18).toInt = (F 18).toInt := congrArg Int32.toInt (F_10_o 18 (by decide))
  have r_18 : 0 ≤ (F_10 19).toInt ∧ (F_10 19).toInt ≤ 1 := hF_10 19
  have f_19 : (F_10 19).toInt = (F 19).toInt := congrArg Int32.toInt (F_10_o 19 (by decide))
  have r_20 : 0 ≤ (F_10 20).toInt ∧ (F_10 20).toInt ≤ 32 := hF_10 20
  have f_21 : (F_10 20).toInt = (F 20).toInt := congrArg Int32.toInt (F_10_o 20 (by decide))
  have LF_10A_11 : LSm l A A_11 := LFA.fr _ A_11_o (by decide)
  have NF_10A_11 : NCm F_10 A_11 := NFA.fr0 (F_10_o 19 (by decide)) (F_10_o 20 (by decide)) (fun q hq => A_11_o q (by simp))
  have aF_10A_11 : ai A_11 12 (F_10 19).toInt = ai A 12 (F 19).toInt := by rw [ai_fr (A_11_o 12 (by decide)), F_10_o 19 (by decide)] <;> exact aFA
  refine ok_st (j := 15) hA_11 (by omega) (by omega) (trivial) ?_
  intro A_22 hA_22 A_22_o A_22_s A_22_n
  have LF_10A_22 : LSm l A A_22 := LF_10A_11.st hl.1 12 rfl A_22_o A_22_n ⟨by omega, by omega⟩ (by omega)
  have NF_10A_22 : NCm F_10 A_22 := NF_10A_11.fr0 rfl rfl (fun q hq => A_22_o q (by omega))
  have aF_10A_22 : ai A_22 12 (F_10 19).toInt = ai A 12 (F 19).toInt := by rw [ai_fr (A_22_o 12 (by decide))] <;> exact aF_10A_11
  have l_23 : (0 : Int32).toInt = 0 := by decide
  refine ok_cond (fun c_24 => ?_) (fun c_24 => ?_)
  · rw [i_ne] at c_24
    unfold d_tellDoor_120
    refine ok_mono (s_d_tellDoor_121 (l := l) hF_10 hA_22 (by omega) (NF_10A_22) (by omega) (by omega) (rfl) (by decide)) ?_
    rintro ⟨v_25, F_26, A_27, J_28⟩ ⟨hF_26, hA_27, F_26_o, A_27_o, v_25_p⟩
    dsimp only at hF_26 hA_27 F_26_o A_27_o v_25_p ⊢
    change NCm F_26 A_27 ∧ LSm l A_22 A_27 ∧ (F_10 15).toInt ≤ 5 * (F_26 15).toInt ∧ (F_10 11).toInt ≤ (F_26 11).toInt ∧ (F_10 13).toInt ≤ 5 * (F_26 13).toInt ∧ (1 ≤ (F_26 13).toInt ∨ ai A_27 12 (F_10 19).toInt = ai A_22 12 (F_10 19).toInt + 1) at v_25_p
    have r_29 : 0 ≤ (F_26 11).toInt ∧ (F_26 11).toInt ≤ 400 := hF_26 11
    have r_30 : 0 ≤ (F_26 13).toInt ∧ (F_26 13).toInt ≤ 5 := hF_26 13
    have r_31 : 0 ≤ (F_26 15).toInt ∧ (F_26 15).toInt ≤ 5 := hF_26 15
    have f_32 : (F_26 15).toInt = (F_10 15).toInt := congrArg Int32.toInt (F_26_o 15 (by decide))
    have r_33 : 0 ≤ (F_26 18).toInt ∧ (F_26 18).toInt ≤ 1 := hF_26 18
    have f_34 : (F_26 18).toInt = (F_10 18).toInt := congrArg Int32.toInt (F_26_o 18 (by decide))
    have r_35 : 0 ≤ (F_26 19).toInt ∧ (F_26 19).toInt ≤ 1 := hF_26 19
    have f_36 : (F_26 19).toInt = (F_10 19).toInt := congrArg Int32.toInt (F_26_o 19 (by decide))
    have r_37 : 0 ≤ (F_26 20).toInt ∧ (F_26 20).toInt ≤ 32 := hF_26 20
    have f_38 : (F_26 20).toInt = (F_10 20).toInt := congrArg Int32.toInt (F_26_o 20 (by decide))
    have LF_26A_27 : LSm l A A_27 := LF_10A_22.tr v_25_p.2.1
    have NF_26A_27 : NCm F_26 A_27 := v_25_p.1
    have zq : (1 ≤ (F_26 13).toInt ∨ ai A_27 12 (F 19).toInt = ai A 12 (F 19).toInt + 1) := by have hz := congrArg (ai A_27 12) (show (F 19).toInt = (F_10 19).toInt by omega); rcases v_25_p.2.2.2.2.2 with h | h; exact .inl h; exact .inr (hz.trans (h.trans (by omega)))
    refine ⟨hF_26, hA_27, (fun q hq => ((F_26_o q (fun e => hq ((by decide : ∀ x, x ∈ ([11, 13, 14] : List Nat) → x ∈ ([11, 13, 14, 15, 16] : List Nat)) q e))).trans (F_10_o q hq))), (fun q hq => (((A_27_o q (fun e => hq ((by decide : ∀ x, x ∈ ([12, 16] : List Nat) → x ∈ ([12, 15, 16] : List Nat)) q e))).trans (A_22_o q (fun e => hq (by rw [e]; decide)))).trans (A_11_o q (fun e => hq ((by decide : ∀ x, x ∈ ([] : List Nat) → x ∈ ([12, 15, 16] : List Nat)) q e))))), ?_⟩
    exact ⟨NF_26A_27, LF_26A_27, by (try dsimp only) <;> omega, by (try dsimp only) <;> omega, by (try dsimp only) <;> omega, zq⟩
  · rw [i_nne] at c_24
    refine ok_call (l_d_is hF_10 hA_22) ?_
    intro v_39 v_39_p
    change 0 ≤ v_39.toInt ∧ v_39.toInt ≤ 1 at v_39_p
    refine ok_cond (fun c_40 => ?_) (fun c_40 => ?_)
    · rw [i_eq] at c_40
      unfold d_tellDoor_120
      refine ok_mono (s_d_tellDoor_121 (l := l) hF_10 hA_22 (by omega) (NF_10A_22) (by omega) (by omega) (rfl) (by decide)) ?_
      rintro ⟨v_41, F_42, A_43, J_44⟩ ⟨hF_42, hA_43, F_42_o, A_43_o, v_41_p⟩
      dsimp only at hF_42 hA_43 F_42_o A_43_o v_41_p ⊢
      change NCm F_42 A_43 ∧ LSm l A_22 A_43 ∧ (F_10 15).toInt ≤ 5 * (F_42 15).toInt ∧ (F_10 11).toInt ≤ (F_42 11).toInt ∧ (F_10 13).toInt ≤ 5 * (F_42 13).toInt ∧ (1 ≤ (F_42 13).toInt ∨ ai A_43 12 (F_10 19).toInt = ai A_22 12 (F_10 19).toInt + 1) at v_41_p
      have r_45 : 0 ≤ (F_42 11).toInt ∧ (F_42 11).toInt ≤ 400 := hF_42 11
      have r_46 : 0 ≤ (F_42 13).toInt ∧ (F_42 13).toInt ≤ 5 := hF_42 13
      have r_47 : 0 ≤ (F_42 15).toInt ∧ (F_42 15).toInt ≤ 5 := hF_42 15
      have f_48 : (F_42 15).toInt = (F_10 15).toInt := congrArg Int32.toInt (F_42_o 15 (by decide))
      have r_49 : 0 ≤ (F_42 18).toInt ∧ (F_42 18).toInt ≤ 1 := hF_42 18
      have f_50 : (F_42 18).toInt = (F_10 18).toInt := congrArg Int32.toInt (F_42_o 18 (by decide))
      have r_51 : 0 ≤ (F_42 19).toInt ∧ (F_42 19).toInt ≤ 1 := hF_42 19
      have f_52 : (F_42 19).toInt = (F_10 19).toInt := congrArg Int32.toInt (F_42_o 19 (by decide))
      have r_53 : 0 ≤ (F_42 20).toInt ∧ (F_42 20).toInt ≤ 32 := hF_42 20
      have f_54 : (F_42 20).toInt = (F_10 20).toInt := congrArg Int32.toInt (F_42_o 20 (by decide))
      have LF_42A_43 : LSm l A A_43 := LF_10A_22.tr v_41_p.2.1
      have NF_42A_43 : NCm F_42 A_43 := v_41_p.1
      have zq : (1 ≤ (F_42 13).toInt ∨ ai A_43 12 (F 19).toInt = ai A 12 (F 19).toInt + 1) := by have hz := congrArg (ai A_43 12) (show (F 19).toInt = (F_10 19).toInt by omega); rcases v_41_p.2.2.2.2.2 with h | h; exact .inl h; exact .inr (hz.trans (h.trans (by omega)))
      refine ⟨hF_42, hA_43, (fun q hq => ((F_42_o q (fun e => hq ((by decide : ∀ x, x ∈ ([11, 13, 14] : List Nat) → x ∈ ([11, 13, 14, 15, 16] : List Nat)) q e))).trans (F_10_o q hq))), (fun q hq => (((A_43_o q (fun e => hq ((by decide : ∀ x, x ∈ ([12, 16] : List Nat) → x ∈ ([12, 15, 16] : List Nat)) q e))).trans (A_22_o q (fun e => hq (by rw [e]; decide)))).trans (A_11_o q (fun e => hq ((by decide : ∀ x, x ∈ ([] : List Nat) → x ∈ ([12, 15, 16] : List Nat)) q e))))), ?_⟩
      exact ⟨NF_42A_43, LF_42A_43, by (try dsimp only) <;> omega, by (try dsimp only) <;> omega, by (try dsimp only) <;> omega, zq⟩
    · rw [i_neq] at c_40
      refine ok_mono (s_d_tellDoor_121 (l := l) hF_10 hA_22 (by omega) (NF_10A_22) (by omega) (by omega) (rfl) (by decide)) ?_
      rintro ⟨v_55, F_56, A_57, J_58⟩ ⟨hF_56, hA_57, F_56_o, A_57_o, v_55_p⟩
      dsimp only at hF_56 hA_57 F_56_o A_57_o v_55_p ⊢
      change NCm F_56 A_57 ∧ LSm l A_22 A_57 ∧ (F_10 15).toInt ≤ 5 * (F_56 15).toInt ∧ (F_10 11).toInt ≤ (F_56 11).toInt ∧ (F_10 13).toInt ≤ 5 * (F_56 13).toInt ∧ (1 ≤ (F_56 13).toInt ∨ ai A_57 12 (F_10 19).toInt = ai A_22 12 (F_10 19).toInt + 1) at v_55_p
      have r_59 : 0 ≤ (F_56 11).toInt ∧ (F_56 11).toInt ≤ 400 := hF_56 11
      have r_60 : 0 ≤ (F_56 13).toInt ∧ (F_56 13).toInt ≤ 5 := hF_56 13
      have r_61 : 0 ≤ (F_56 15).toInt ∧ (F_56 15).toInt ≤ 5 := hF_56 15
      have f_62 : (F_56 15).toInt = (F_10 15).toInt := congrArg Int32.toInt (F_56_o 15 (by decide))
      have r_63 : 0 ≤ (F_56 18).toInt ∧ (F_56 18).toInt ≤ 1 := hF_56 18
      have f_64 : (F_56 18).toInt = (F_10 18).toInt := congrArg Int32.toInt (F_56_o 18 (by decide))
      have r_65 : 0 ≤ (F_56 19).toInt ∧ (F_56 19).toInt ≤ 1 := hF_56 19
      have f_66 : (F_56 19).toInt = (F_10 19).toInt := congrArg Int32.toInt (F_56_o 19 (by decide))
      have r_67 : 0 ≤ (F_56 20).toInt ∧ (F_56 20).toInt ≤ 32 := hF_56 20
      have f_68 : (F_56 20).toInt = (F_10 20).toInt := congrArg Int32.toInt (F_56_o 20 (by decide))
      have LF_56A_57 : LSm l A A_57 := LF_10A_22.tr v_55_p.2.1
      have NF_56A_57 : NCm F_56 A_57 := v_55_p.1
      have zq : (1 ≤ (F_56 13).toInt ∨ ai A_57 12 (F 19).toInt = ai A 12 (F 19).toInt + 1) := by have hz := congrArg (ai A_57 12) (show (F 19).toInt = (F_10 19).toInt by omega); rcases v_55_p.2.2.2.2.2 with h | h; exact .inl h; exact .inr (hz.trans (h.trans (by omega)))
      refine ⟨hF_56, hA_57, (fun q hq => ((F_56_o q (fun e => hq ((by decide : ∀ x, x ∈ ([11, 13, 14] : List Nat) → x ∈ ([11, 13, 14, 15, 16] : List Nat)) q e))).trans (F_10_o q hq))), (fun q hq => (((A_57_o q (fun e => hq ((by decide : ∀ x, x ∈ ([12, 16] : List Nat) → x ∈ ([12, 15, 16] : List Nat)) q e))).trans (A_22_o q (fun e => hq (by rw [e]; decide)))).trans (A_11_o q (fun e => hq ((by decide : ∀ x, x ∈ ([] : List Nat) → x ∈ ([12, 15, 16] : List Nat)) q e))))), ?_⟩
      exact ⟨NF_56A_57, LF_56A_57, by (try dsimp only) <;> omega, by (try dsimp only) <;> omega, by (try dsimp only) <;> omega, zq⟩
set_option maxRecDepth 10000 in
set_option maxHeartbeats 4000000 in
theorem s_d_tellDoor {n : Nat} {l : Int} {F : Nat → Int32} {A : Nat → Nat → Int32} {J : Nat → Nat → Int64}  (hF : IFm F) (hA : IAm A) (hn : 50 ≤ n) (hl : 0 ≤ l ∧ (F 18).toInt = l ∧ (F 19).toInt = 1 - l) (NFA : NCm F A) (hr : ai A 12 (F 19).toInt < 12) (h13 : (F 13).toInt = 0) : ok (d_tellDoor n F A J) (fun r => IFm r.2.1 ∧ IAm r.2.2.1 ∧ (∀ q, q ∉ ([11, 13, 14, 15, 16] : List Nat) → r.2.1 q = F q) ∧ (∀ q, q ∉ ([12, 13, 14, 15, 16] : List Nat) → r.2.2.1 q = A q) ∧ NCm r.2.1 r.2.2.1 ∧ LSm l A r.2.2.1 ∧ (F 15).toInt ≤ 5 * (r.2.1 15).toInt ∧ (F 11).toInt ≤ (r.2.1 11).toInt ∧ (1 ≤ (r.2.1 13).toInt ∨ 1 ≤ (r.2.1 15).toInt ∨ (XDm A (F 19).toInt → XDm r.2.2.1 (F 19).toInt))) := by
  have r18 : 0 ≤ (F 18).toInt ∧ (F 18).toInt ≤ 1 := hF 18
  have LFA : LSm l A A := LSm.rfl' l A
  have ct := NFA.2
  unfold CTm at ct
  have g11 : 0 ≤ ai A 11 (F 19).toInt ∧ ai A 11 (F 19).toInt ≤ 8 := hA 11 _ (by have := hF 19; exact this.1)
  have g12 : 0 ≤ ai A 12 (F 19).toInt ∧ ai A 12 (F 19).toInt ≤ 12 := hA 12 _ (by have := hF 19; exact this.1)
  have g17 : 0 ≤ ai A 17 (F 19).toInt ∧ ai A 17 (F 19).toInt ≤ 6 := hA 17 _ (by have := hF 19; exact this.1)
  have g19 : 0 ≤ ai A 19 (F 19).toInt ∧ ai A 19 (F 19).toInt ≤ 6 := hA 19 _ (by have := hF 19; exact this.1)
  have g29 : 0 ≤ ai A 29 (F 19).toInt ∧ ai A 29 (F 19).toInt ≤ 6 := hA 29 _ (by have := hF 19; exact this.1)
  have aFA : ai A 12 (F 19).toInt = ai A 12 (F 19).toInt := rfl
  have bFA : ∀ i, 0 ≤ i → i ≠ 12 * (F 19).toInt + ai A 12 (F 19).toInt → ai A 13 i = ai A 13 i := fun _ _ _ => rfl
  have cFA : ∀ i, 0 ≤ i → i ≠ 12 * (F 19).toInt + ai A 12 (F 19).toInt → ai A 14 i = ai A 14 i := fun _ _ _ => rfl
  have r_1 : 0 ≤ (F 11).toInt ∧ (F 11).toInt ≤ 400 := hF 11
  have r_2 : 0 ≤ (F 13).toInt ∧ (F 13).toInt ≤ 5 := hF 13
  have r_3 : 0 ≤ (F 15).toInt ∧ (F 15).toInt ≤ 5 := hF 15
  have r_4 : 0 ≤ (F 18).toInt ∧ (F 18).toInt ≤ 1 := hF 18
  have r_5 : 0 ≤ (F 19).toInt ∧ (F 19).toInt ≤ 1 := hF 19
  have r_6 : 0 ≤ (F 20).toInt ∧ (F 20).toInt ≤ 32 := hF 20
  unfold d_tellDoor
  refine ok_ld (j := 12) hA (by omega) (by omega) ?_
  intro v_7 v_7_e v_7_r
  change 0 ≤ v_7.toInt ∧ v_7.toInt ≤ 12 at v_7_r
  have l_8 : (0 : Int32).toInt = 0 := by decide
  refine ok_call (l_d_known hF hA (by omega) (NFA.1) (by omega)) ?_
  rintro ⟨v_9, F_10, A_11, J_12⟩ ⟨hF_10, hA_11, F_10_o, A_11_o, v_9_p⟩
  dsimp only at hF_10 hA_11 F_10_o A_11_o v_9_p ⊢
  change -1 ≤ v_9.toInt ∧ v_9.toInt ≤ 7 ∧ 0 ≤ v_9.toInt + (F_10 13).toInt + (F_10 15).toInt ∧ (F 11).toInt ≤ (F_10 11).toInt ∧ (F 13).toInt ≤ 5 * (F_10 13).toInt ∧ (F 15).toInt ≤ 5 * (F_10 15).toInt ∧ ((0 : Int32).toInt = 0 → v_9.toInt < ai A 11 (F 19).toInt) ∧ ((0 : Int32).toInt = 1 → v_9.toInt < ai A 17 (F 19).toInt) ∧ ((0 : Int32).toInt = 2 → v_9.toInt < ai A 19 (F 19).toInt) ∧ ((0 : Int32).toInt = 3 → v_9.toInt < ai A 29 (F 19).toInt) at v_9_p
  obtain ⟨v_9_0, v_9_1, v_9_2, v_9_3, v_9_4, v_9_5, v_9_6, v_9_7, v_9_8, v_9_9⟩ := v_9_p
  first | have v_9_s := v_9_6 (by decide) | have v_9_s := v_9_7 (by decide) | have v_9_s := v_9_8 (by decide) | have v_9_s := v_9_9 (by decide)
  clear v_9_6 v_9_7 v_9_8 v_9_9
  have r_13 : 0 ≤ (F_10 11).toInt ∧ (F_10 11).toInt ≤ 400 := hF_10 11
  have r_14 : 0 ≤ (F_10 13).toInt ∧ (F_10 13).toInt ≤ 5 := hF_10 13
  have r_15 : 0 ≤ (F_10 15).toInt ∧ (F_10 15).toInt ≤ 5 := hF_10 15
  have r_16 : 0 ≤ (F_10 18).toInt ∧ (F_10 18).toInt ≤ 1 := hF_10 18
  have f_17 : (F_10 18).toInt = (F 18).toInt := congrArg Int32.toInt (F_10_o 18 (by decide))
  have r_18 : 0 ≤ (F_10 19).toInt ∧ (F_10 19).toInt ≤ 1 := hF_10 19
  have f_19 : (F_10 19).toInt = (F 19).toInt := congrArg Int32.toInt (F_10_o 19 (by decide))
  have r_20 : 0 ≤ (F_10 20).toInt ∧ (F_10 20).toInt ≤ 32 := hF_10 20
  have f_21 : (F_10 20).toInt = (F 20).toInt := congrArg Int32.toInt (F_10_o 20 (by decide))
  have LF_10A_11 : LSm l A A_11 := LFA.fr _ A_11_o (by decide)
  have NF_10A_11 : NCm F_10 A_11 := NFA.fr0 (F_10_o 19 (by decide)) (F_10_o 20 (by decide)) (fun q hq => A_11_o q (by simp))
  have aF_10A_11 : ai A_11 12 (F_10 19).toInt = ai A 12 (F 19).toInt := by rw [ai_fr (A_11_o 12 (by decide)), F_10_o 19 (by decide)] <;> exact aFA
  have bF_10A_11 : ∀ i, 0 ≤ i → i ≠ 12 * (F 19).toInt + ai A 12 (F 19).toInt → ai A_11 13 i = ai A 13 i := by rw [ai_fr (A_11_o 13 (by decide))] <;> exact bFA
  have cF_10A_11 : ∀ i, 0 ≤ i → i ≠ 12 * (F 19).toInt + ai A 12 (F 19).toInt → ai A_11 14 i = ai A 14 i := by rw [ai_fr (A_11_o 14 (by decide))] <;> exact cFA
  have l_22 : (12 : Int32).toInt = 12 := by decide
  have e_23 := i_mulL (c := 12) (k := 12) (x := (F 19)) (by decide) (by omega) (by omega)
  have e_24 := i_add (x := (12 * (F 19))) (y := v_7) (by omega) (by omega)
  refine ok_st (j := 13) hA_11 (by omega) (by omega) (⟨by omega, by omega⟩) ?_
  intro A_25 hA_25 A_25_o A_25_s A_25_n
  have LF_10A_25 : LSm l A A_25 := LF_10A_11.st hl.1 12 rfl A_25_o A_25_n ⟨by omega, by omega⟩ (by omega)
  have NF_10A_25 : NCm F_10 A_25 := NF_10A_11.fr0 rfl rfl (fun q hq => A_25_o q (by omega))
  have aF_10A_25 : ai A_25 12 (F_10 19).toInt = ai A 12 (F 19).toInt := by rw [ai_fr (A_25_o 12 (by decide))] <;> exact aF_10A_11
  have bF_10A_25 : ∀ i, 0 ≤ i → i ≠ 12 * (F 19).toInt + ai A 12 (F 19).toInt → ai A_25 13 i = ai A 13 i := fun i h0 h1 => (A_25_n i h0 (by omega)).trans (bF_10A_11 i h0 h1)
  have cF_10A_25 : ∀ i, 0 ≤ i → i ≠ 12 * (F 19).toInt + ai A 12 (F 19).toInt → ai A_25 14 i = ai A 14 i := by rw [ai_fr (A_25_o 14 (by decide))] <;> exact cF_10A_11
  have pF_10A_25 : ai A_25 13 (12 * (F 19).toInt + ai A 12 (F 19).toInt) = v_9.toInt := by rw [show 12 * (F 19).toInt + ai A 12 (F 19).toInt = (12 * F 19 + v_7).toInt by omega]; exact A_25_s
  refine ok_call (l_d_known hF_10 hA_25 (by omega) (NF_10A_25.1) (by omega)) ?_
  rintro ⟨v_26, F_27, A_28, J_29⟩ ⟨hF_27, hA_28, F_27_o, A_28_o, v_26_p⟩
  dsimp only at hF_27 hA_28 F_27_o A_28_o v_26_p ⊢
  change -1 ≤ v_26.toInt ∧ v_26.toInt ≤ 7 ∧ 0 ≤ v_26.toInt + (F_27 13).toInt + (F_27 15).toInt ∧ (F_10 11).toInt ≤ (F_27 11).toInt ∧ (F_10 13).toInt ≤ 5 * (F_27 13).toInt ∧ (F_10 15).toInt ≤ 5 * (F_27 15).toInt ∧ ((0 : Int32).toInt = 0 → v_26.toInt < ai A_25 11 (F_10 19).toInt) ∧ ((0 : Int32).toInt = 1 → v_26.toInt < ai A_25 17 (F_10 19).toInt) ∧ ((0 : Int32).toInt = 2 → v_26.toInt < ai A_25 19 (F_10 19).toInt) ∧ ((0 : Int32).toInt = 3 → v_26.toInt < ai A_25 29 (F_10 19).toInt) at v_26_p
  obtain ⟨v_26_0, v_26_1, v_26_2, v_26_3, v_26_4, v_26_5, v_26_6, v_26_7, v_26_8, v_26_9⟩ := v_26_p
  first | have v_26_s := v_26_6 (by decide) | have v_26_s := v_26_7 (by decide) | have v_26_s := v_26_8 (by decide) | have v_26_s := v_26_9 (by decide)
  clear v_26_6 v_26_7 v_26_8 v_26_9
  have r_30 : 0 ≤ (F_27 11).toInt ∧ (F_27 11).toInt ≤ 400 := hF_27 11
  have r_31 : 0 ≤ (F_27 13).toInt ∧ (F_27 13).toInt ≤ 5 := hF_27 13
  have r_32 : 0 ≤ (F_27 15).toInt ∧ (F_27 15).toInt ≤ 5 := hF_27 15
  have r_33 : 0 ≤ (F_27 18).toInt ∧ (F_27 18).toInt ≤ 1 := hF_27 18
  have f_34 : (F_27 18).toInt = (F_10 18).toInt := congrArg Int32.toInt (F_27_o 18 (by decide))
  have r_35 : 0 ≤ (F_27 19).toInt ∧ (F_27 19).toInt ≤ 1 := hF_27 19
  have f_36 : (F_27 19).toInt = (F_10 19).toInt := congrArg Int32.toInt (F_27_o 19 (by decide))
  have r_37 : 0 ≤ (F_27 20).toInt ∧ (F_27 20).toInt ≤ 32 := hF_27 20
  have f_38 : (F_27 20).toInt = (F_10 20).toInt := congrArg Int32.toInt (F_27_o 20 (by decide))
  have LF_27A_28 : LSm l A A_28 := LF_10A_25.fr _ A_28_o (by decide)
  have NF_27A_28 : NCm F_27 A_28 := NF_10A_25.fr0 (F_27_o 19 (by decide)) (F_27_o 20 (by decide)) (fun q hq => A_28_o q (by simp))
  have aF_27A_28 : ai A_28 12 (F_27 19).toInt = ai A 12 (F 19).toInt := by rw [ai_fr (A_28_o 12 (by decide)), F_27_o 19 (by decide)] <;> exact aF_10A_25
  have bF_27A_28 : ∀ i, 0 ≤ i → i ≠ 12 * (F 19).toInt + ai A 12 (F 19).toInt → ai A_28 13 i = ai A 13 i := by rw [ai_fr (A_28_o 13 (by decide))] <;> exact bF_10A_25
  have cF_27A_28 : ∀ i, 0 ≤ i → i ≠ 12 * (F 19).toInt + ai A 12 (F 19).toInt → ai A_28 14 i = ai A 14 i := by rw [ai_fr (A_28_o 14 (by decide))] <;> exact cF_10A_25
  have pF_27A_28 : ai A_28 13 (12 * (F 19).toInt + ai A 12 (F 19).toInt) = v_9.toInt := by rw [ai_fr (A_28_o 13 (by decide))] <;> exact pF_10A_25
  refine ok_st (j := 14) hA_28 (by omega) (by omega) (⟨by omega, by omega⟩) ?_
  intro A_39 hA_39 A_39_o A_39_s A_39_n
  have LF_27A_39 : LSm l A A_39 := LF_27A_28.st hl.1 12 rfl A_39_o A_39_n ⟨by omega, by omega⟩ (by omega)
  have NF_27A_39 : NCm F_27 A_39 := NF_27A_28.fr0 rfl rfl (fun q hq => A_39_o q (by omega))
  have aF_27A_39 : ai A_39 12 (F_27 19).toInt = ai A 12 (F 19).toInt := by rw [ai_fr (A_39_o 12 (by decide))] <;> exact aF_27A_28
  have bF_27A_39 : ∀ i, 0 ≤ i → i ≠ 12 * (F 19).toInt + ai A 12 (F 19).toInt → ai A_39 13 i = ai A 13 i := by rw [ai_fr (A_39_o 13 (by decide))] <;> exact bF_27A_28
  have cF_27A_39 : ∀ i, 0 ≤ i → i ≠ 12 * (F 19).toInt + ai A 12 (F 19).toInt → ai A_39 14 i = ai A 14 i := fun i h0 h1 => (A_39_n i h0 (by omega)).trans (cF_27A_28 i h0 h1)
  have pF_27A_39 : ai A_39 13 (12 * (F 19).toInt + ai A 12 (F 19).toInt) = v_9.toInt := by rw [ai_fr (A_39_o 13 (by decide))] <;> exact pF_27A_28
  have qF_27A_39 : ai A_39 14 (12 * (F 19).toInt + ai A 12 (F 19).toInt) = v_26.toInt := by rw [show 12 * (F 19).toInt + ai A 12 (F 19).toInt = (12 * F 19 + v_7).toInt by omega]; exact A_39_s
  refine ok_cond (fun c_40 => ?_) (fun c_40 => ?_)
  · rw [i_ne] at c_40
    refine ok_mono (s_d_tellDoor_82 (l := l) hF_27 hA_39 (by omega) (NF_27A_39) (by omega) (by omega)) ?_
    rintro ⟨v_41, F_42, A_43, J_44⟩ ⟨hF_42, hA_43, F_42_o, A_43_o, v_41_p⟩
    dsimp only at hF_42 hA_43 F_42_o A_43_o v_41_p ⊢
    change NCm F_42 A_43 ∧ LSm l A_39 A_43 ∧ (F_27 15).toInt ≤ 5 * (F_42 15).toInt ∧ (F_27 11).toInt ≤ (F_42 11).toInt ∧ (F_27 13).toInt ≤ 5 * (F_42 13).toInt ∧ (1 ≤ (F_42 13).toInt ∨ ai A_43 12 (F_27 19).toInt = ai A_39 12 (F_27 19).toInt + 1) at v_41_p
    have r_45 : 0 ≤ (F_42 11).toInt ∧ (F_42 11).toInt ≤ 400 := hF_42 11
    have r_46 : 0 ≤ (F_42 13).toInt ∧ (F_42 13).toInt ≤ 5 := hF_42 13
    have r_47 : 0 ≤ (F_42 15).toInt ∧ (F_42 15).toInt ≤ 5 := hF_42 15
    have r_48 : 0 ≤ (F_42 18).toInt ∧ (F_42 18).toInt ≤ 1 := hF_42 18
    have f_49 : (F_42 18).toInt = (F_27 18).toInt := congrArg Int32.toInt (F_42_o 18 (by decide))
    have r_50 : 0 ≤ (F_42 19).toInt ∧ (F_42 19).toInt ≤ 1 := hF_42 19
    have f_51 : (F_42 19).toInt = (F_27 19).toInt := congrArg Int32.toInt (F_42_o 19 (by decide))
    have r_52 : 0 ≤ (F_42 20).toInt ∧ (F_42 20).toInt ≤ 32 := hF_42 20
    have f_53 : (F_42 20).toInt = (F_27 20).toInt := congrArg Int32.toInt (F_42_o 20 (by decide))
    have LF_42A_43 : LSm l A A_43 := LF_27A_39.tr v_41_p.2.1
    have NF_42A_43 : NCm F_42 A_43 := v_41_p.1
    have bF_42A_43 : ∀ i, 0 ≤ i → i ≠ 12 * (F 19).toInt + ai A 12 (F 19).toInt → ai A_43 13 i = ai A 13 i := by rw [ai_fr (A_43_o 13 (by decide))] <;> exact bF_27A_39
    have cF_42A_43 : ∀ i, 0 ≤ i → i ≠ 12 * (F 19).toInt + ai A 12 (F 19).toInt → ai A_43 14 i = ai A 14 i := by rw [ai_fr (A_43_o 14 (by decide))] <;> exact cF_27A_39
    have pF_42A_43 : ai A_43 13 (12 * (F 19).toInt + ai A 12 (F 19).toInt) = v_9.toInt := by rw [ai_fr (A_43_o 13 (by decide))] <;> exact pF_27A_39
    have qF_42A_43 : ai A_43 14 (12 * (F 19).toInt + ai A 12 (F 19).toInt) = v_26.toInt := by rw [ai_fr (A_43_o 14 (by decide))] <;> exact qF_27A_39
    have xs : 1 ≤ (F_42 13).toInt ∨ 1 ≤ (F_42 15).toInt ∨ (XDm A (F 19).toInt → XDm A_43 (F 19).toInt) := by
      rcases v_41_p.2.2.2.2.2 with h | h
      · exact .inl h
      · have zz : ai A_43 12 (F 19).toInt = ai A 12 (F 19).toInt + 1 := (congrArg (ai A_43 12) (show (F 19).toInt = (F_27 19).toInt by omega)).trans (h.trans (by omega))
        by_cases h13 : 1 ≤ (F_42 13).toInt
        · exact .inl h13
        · exact .inr ((show 1 ≤ (F_42 15).toInt ∨ (0 ≤ v_9.toInt ∧ 0 ≤ v_26.toInt) by omega).imp id (fun h x => x.up zz bF_42A_43 cF_42A_43 (by rw [pF_42A_43]; exact h.1) (by rw [qF_42A_43]; exact h.2) rfl (by omega)))
    refine ⟨hF_42, hA_43, (fun q hq => (((F_42_o q hq).trans (F_27_o q hq)).trans (F_10_o q hq))), (fun q hq => (((((A_43_o q (fun e => hq ((by decide : ∀ x, x ∈ ([12, 15, 16] : List Nat) → x ∈ ([12, 13, 14, 15, 16] : List Nat)) q e))).trans (A_39_o q (fun e => hq (by rw [e]; decide)))).trans (A_28_o q (fun e => hq ((by decide : ∀ x, x ∈ ([] : List Nat) → x ∈ ([12, 13, 14, 15, 16] : List Nat)) q e)))).trans (A_25_o q (fun e => hq (by rw [e]; decide)))).trans (A_11_o q (fun e => hq ((by decide : ∀ x, x ∈ ([] : List Nat) → x ∈ ([12, 13, 14, 15, 16] : List Nat)) q e))))), ?_⟩
    exact ⟨NF_42A_43, LF_42A_43, by (try dsimp only) <;> omega, by (try dsimp only) <;> omega, xs⟩
  · rw [i_nne] at c_40
    refine ok_ld (j := 13) hA_39 (by omega) (by omega) ?_
    intro v_54 v_54_e v_54_r
    change -1 ≤ v_54.toInt ∧ v_54.toInt ≤ 7 at v_54_r
    refine ok_cond (fun c_55 => ?_) (fun c_55 => ?_)
    · rw [i_lt] at c_55
      refine ok_mono (s_d_tellDoor_82 (l := l) hF_27 hA_39 (by omega) (NF_27A_39) (by omega) (by omega)) ?_
      rintro ⟨v_56, F_57, A_58, J_59⟩ ⟨hF_57, hA_58, F_57_o, A_58_o, v_56_p⟩
      dsimp only at hF_57 hA_58 F_57_o A_58_o v_56_p ⊢
      change NCm F_57 A_58 ∧ LSm l A_39 A_58 ∧ (F_27 15).toInt ≤ 5 * (F_57 15).toInt ∧ (F_27 11).toInt ≤ (F_57 11).toInt ∧ (F_27 13).toInt ≤ 5 * (F_57 13).toInt ∧ (1 ≤ (F_57 13).toInt ∨ ai A_58 12 (F_27 19).toInt = ai A_39 12 (F_27 19).toInt + 1) at v_56_p
      have r_60 : 0 ≤ (F_57 11).toInt ∧ (F_57 11).toInt ≤ 400 := hF_57 11
      have r_61 : 0 ≤ (F_57 13).toInt ∧ (F_57 13).toInt ≤ 5 := hF_57 13
      have r_62 : 0 ≤ (F_57 15).toInt ∧ (F_57 15).toInt ≤ 5 := hF_57 15
      have r_63 : 0 ≤ (F_57 18).toInt ∧ (F_57 18).toInt ≤ 1 := hF_57 18
      have f_64 : (F_57 18).toInt = (F_27 18).toInt := congrArg Int32.toInt (F_57_o 18 (by decide))
      have r_65 : 0 ≤ (F_57 19).toInt ∧ (F_57 19).toInt ≤ 1 := hF_57 19
      have f_66 : (F_57 19).toInt = (F_27 19).toInt := congrArg Int32.toInt (F_57_o 19 (by decide))
      have r_67 : 0 ≤ (F_57 20).toInt ∧ (F_57 20).toInt ≤ 32 := hF_57 20
      have f_68 : (F_57 20).toInt = (F_27 20).toInt := congrArg Int32.toInt (F_57_o 20 (by decide))
      have LF_57A_58 : LSm l A A_58 := LF_27A_39.tr v_56_p.2.1
      have NF_57A_58 : NCm F_57 A_58 := v_56_p.1
      have bF_57A_58 : ∀ i, 0 ≤ i → i ≠ 12 * (F 19).toInt + ai A 12 (F 19).toInt → ai A_58 13 i = ai A 13 i := by rw [ai_fr (A_58_o 13 (by decide))] <;> exact bF_27A_39
      have cF_57A_58 : ∀ i, 0 ≤ i → i ≠ 12 * (F 19).toInt + ai A 12 (F 19).toInt → ai A_58 14 i = ai A 14 i := by rw [ai_fr (A_58_o 14 (by decide))] <;> exact cF_27A_39
      have pF_57A_58 : ai A_58 13 (12 * (F 19).toInt + ai A 12 (F 19).toInt) = v_9.toInt := by rw [ai_fr (A_58_o 13 (by decide))] <;> exact pF_27A_39
      have qF_57A_58 : ai A_58 14 (12 * (F 19).toInt + ai A 12 (F 19).toInt) = v_26.toInt := by rw [ai_fr (A_58_o 14 (by decide))] <;> exact qF_27A_39
      have xs : 1 ≤ (F_57 13).toInt ∨ 1 ≤ (F_57 15).toInt ∨ (XDm A (F 19).toInt → XDm A_58 (F 19).toInt) := by
        rcases v_56_p.2.2.2.2.2 with h | h
        · exact .inl h
        · have zz : ai A_58 12 (F 19).toInt = ai A 12 (F 19).toInt + 1 := (congrArg (ai A_58 12) (show (F 19).toInt = (F_27 19).toInt by omega)).trans (h.trans (by omega))
          by_cases h13 : 1 ≤ (F_57 13).toInt
          · exact .inl h13
          · exact .inr ((show 1 ≤ (F_57 15).toInt ∨ (0 ≤ v_9.toInt ∧ 0 ≤ v_26.toInt) by omega).imp id (fun h x => x.up zz bF_57A_58 cF_57A_58 (by rw [pF_57A_58]; exact h.1) (by rw [qF_57A_58]; exact h.2) rfl (by omega)))
      refine ⟨hF_57, hA_58, (fun q hq => (((F_57_o q hq).trans (F_27_o q hq)).trans (F_10_o q hq))), (fun q hq => (((((A_58_o q (fun e => hq ((by decide : ∀ x, x ∈ ([12, 15, 16] : List Nat) → x ∈ ([12, 13, 14, 15, 16] : List Nat)) q e))).trans (A_39_o q (fun e => hq (by rw [e]; decide)))).trans (A_28_o q (fun e => hq ((by decide : ∀ x, x ∈ ([] : List Nat) → x ∈ ([12, 13, 14, 15, 16] : List Nat)) q e)))).trans (A_25_o q (fun e => hq (by rw [e]; decide)))).trans (A_11_o q (fun e => hq ((by decide : ∀ x, x ∈ ([] : List Nat) → x ∈ ([12, 13, 14, 15, 16] : List Nat)) q e))))), ?_⟩
      exact ⟨NF_57A_58, LF_57A_58, by (try dsimp only) <;> omega, by (try dsimp only) <;> omega, xs⟩
    · rw [i_nlt] at c_55
      refine ok_ld (j := 13) hA_39 (by omega) (by omega) ?_
      intro v_69 v_69_e v_69_r
      change -1 ≤ v_69.toInt ∧ v_69.toInt ≤ 7 at v_69_r
      refine ok_ld (j := 14) hA_39 (by omega) (by omega) ?_
      intro v_70 v_70_e v_70_r
      change -1 ≤ v_70.toInt ∧ v_70.toInt ≤ 7 at v_70_r
      refine ok_cond (fun c_71 => ?_) (fun c_71 => ?_)
      · rw [i_ne] at c_71
        refine ok_mono (s_d_tellDoor_82 (l := l) hF_27 hA_39 (by omega) (NF_27A_39) (by omega) (by omega)) ?_
        rintro ⟨v_72, F_73, A_74, J_75⟩ ⟨hF_73, hA_74, F_73_o, A_74_o, v_72_p⟩
        dsimp only at hF_73 hA_74 F_73_o A_74_o v_72_p ⊢
        change NCm F_73 A_74 ∧ LSm l A_39 A_74 ∧ (F_27 15).toInt ≤ 5 * (F_73 15).toInt ∧ (F_27 11).toInt ≤ (F_73 11).toInt ∧ (F_27 13).toInt ≤ 5 * (F_73 13).toInt ∧ (1 ≤ (F_73 13).toInt ∨ ai A_74 12 (F_27 19).toInt = ai A_39 12 (F_27 19).toInt + 1) at v_72_p
        have r_76 : 0 ≤ (F_73 11).toInt ∧ (F_73 11).toInt ≤ 400 := hF_73 11
        have r_77 : 0 ≤ (F_73 13).toInt ∧ (F_73 13).toInt ≤ 5 := hF_73 13
        have r_78 : 0 ≤ (F_73 15).toInt ∧ (F_73 15).toInt ≤ 5 := hF_73 15
        have r_79 : 0 ≤ (F_73 18).toInt ∧ (F_73 18).toInt ≤ 1 := hF_73 18
        have f_80 : (F_73 18).toInt = (F_27 18).toInt := congrArg Int32.toInt (F_73_o 18 (by decide))
        have r_81 : 0 ≤ (F_73 19).toInt ∧ (F_73 19).toInt ≤ 1 := hF_73 19
        have f_82 : (F_73 19).toInt = (F_27 19).toInt := congrArg Int32.toInt (F_73_o 19 (by decide))
        have r_83 : 0 ≤ (F_73 20).toInt ∧ (F_73 20).toInt ≤ 32 := hF_73 20
        have f_84 : (F_73 20).toInt = (F_27 20).toInt := congrArg Int32.toInt (F_73_o 20 (by decide))
        have LF_73A_74 : LSm l A A_74 := LF_27A_39.tr v_72_p.2.1
        have NF_73A_74 : NCm F_73 A_74 := v_72_p.1
        have bF_73A_74 : ∀ i, 0 ≤ i → i ≠ 12 * (F 19).toInt + ai A 12 (F 19).toInt → ai A_74 13 i = ai A 13 i := by rw [ai_fr (A_74_o 13 (by decide))] <;> exact bF_27A_39
        have cF_73A_74 : ∀ i, 0 ≤ i → i ≠ 12 * (F 19).toInt + ai A 12 (F 19).toInt → ai A_74 14 i = ai A 14 i := by rw [ai_fr (A_74_o 14 (by decide))] <;> exact cF_27A_39
        have pF_73A_74 : ai A_74 13 (12 * (F 19).toInt + ai A 12 (F 19).toInt) = v_9.toInt := by rw [ai_fr (A_74_o 13 (by decide))] <;> exact pF_27A_39
        have qF_73A_74 : ai A_74 14 (12 * (F 19).toInt + ai A 12 (F 19).toInt) = v_26.toInt := by rw [ai_fr (A_74_o 14 (by decide))] <;> exact qF_27A_39
        have xs : 1 ≤ (F_73 13).toInt ∨ 1 ≤ (F_73 15).toInt ∨ (XDm A (F 19).toInt → XDm A_74 (F 19).toInt) := by
          rcases v_72_p.2.2.2.2.2 with h | h
          · exact .inl h
          · have zz : ai A_74 12 (F 19).toInt = ai A 12 (F 19).toInt + 1 := (congrArg (ai A_74 12) (show (F 19).toInt = (F_27 19).toInt by omega)).trans (h.trans (by omega))
            by_cases h13 : 1 ≤ (F_73 13).toInt
            · exact .inl h13
            · exact .inr ((show 1 ≤ (F_73 15).toInt ∨ (0 ≤ v_9.toInt ∧ 0 ≤ v_26.toInt) by omega).imp id (fun h x => x.up zz bF_73A_74 cF_73A_74 (by rw [pF_73A_74]; exact h.1) (by rw [qF_73A_74]; exact h.2) rfl (by omega)))
        refine ⟨hF_73, hA_74, (fun q hq => (((F_73_o q hq).trans (F_27_o q hq)).trans (F_10_o q hq))), (fun q hq => (((((A_74_o q (fun e => hq ((by decide : ∀ x, x ∈ ([12, 15, 16] : List Nat) → x ∈ ([12, 13, 14, 15, 16] : List Nat)) q e))).trans (A_39_o q (fun e => hq (by rw [e]; decide)))).trans (A_28_o q (fun e => hq ((by decide : ∀ x, x ∈ ([] : List Nat) → x ∈ ([12, 13, 14, 15, 16] : List Nat)) q e)))).trans (A_25_o q (fun e => hq (by rw [e]; decide)))).trans (A_11_o q (fun e => hq ((by decide : ∀ x, x ∈ ([] : List Nat) → x ∈ ([12, 13, 14, 15, 16] : List Nat)) q e))))), ?_⟩
        exact ⟨NF_73A_74, LF_73A_74, by (try dsimp only) <;> omega, by (try dsimp only) <;> omega, xs⟩
      · rw [i_nne] at c_71
        have l_85 : (5 : Int32).toInt = 5 := by decide
        refine ok_call (l_d_wrong hF_27 hA_39 (by omega) (by omega)) ?_
        rintro ⟨u_86, F_87, A_88, J_89⟩ ⟨hF_87, hA_88, F_87_o, A_88_o, u_86_p⟩
        dsimp only at hF_87 hA_88 F_87_o A_88_o u_86_p ⊢
        change 1 ≤ (F_27 13).toInt + (F_87 15).toInt ∧ (F_27 15).toInt ≤ 5 * (F_87 15).toInt at u_86_p
        have r_90 : 0 ≤ (F_87 11).toInt ∧ (F_87 11).toInt ≤ 400 := hF_87 11
        have f_91 : (F_87 11).toInt = (F_27 11).toInt := congrArg Int32.toInt (F_87_o 11 (by decide))
        have r_92 : 0 ≤ (F_87 13).toInt ∧ (F_87 13).toInt ≤ 5 := hF_87 13
        have f_93 : (F_87 13).toInt = (F_27 13).toInt := congrArg Int32.toInt (F_87_o 13 (by decide))
        have r_94 : 0 ≤ (F_87 15).toInt ∧ (F_87 15).toInt ≤ 5 := hF_87 15
        have r_95 : 0 ≤ (F_87 18).toInt ∧ (F_87 18).toInt ≤ 1 := hF_87 18
        have f_96 : (F_87 18).toInt = (F_27 18).toInt := congrArg Int32.toInt (F_87_o 18 (by decide))
        have r_97 : 0 ≤ (F_87 19).toInt ∧ (F_87 19).toInt ≤ 1 := hF_87 19
        have f_98 : (F_87 19).toInt = (F_27 19).toInt := congrArg Int32.toInt (F_87_o 19 (by decide))
        have r_99 : 0 ≤ (F_87 20).toInt ∧ (F_87 20).toInt ≤ 32 := hF_87 20
        have f_100 : (F_87 20).toInt = (F_27 20).toInt := congrArg Int32.toInt (F_87_o 20 (by decide))
        have LF_87A_88 : LSm l A A_88 := LF_27A_39.fr _ A_88_o (by decide)
        have NF_87A_88 : NCm F_87 A_88 := NF_27A_39.fr0 (F_87_o 19 (by decide)) (F_87_o 20 (by decide)) (fun q hq => A_88_o q (by simp))
        have aF_87A_88 : ai A_88 12 (F_87 19).toInt = ai A 12 (F 19).toInt := by rw [ai_fr (A_88_o 12 (by decide)), F_87_o 19 (by decide)] <;> exact aF_27A_39
        have bF_87A_88 : ∀ i, 0 ≤ i → i ≠ 12 * (F 19).toInt + ai A 12 (F 19).toInt → ai A_88 13 i = ai A 13 i := by rw [ai_fr (A_88_o 13 (by decide))] <;> exact bF_27A_39
        have cF_87A_88 : ∀ i, 0 ≤ i → i ≠ 12 * (F 19).toInt + ai A 12 (F 19).toInt → ai A_88 14 i = ai A 14 i := by rw [ai_fr (A_88_o 14 (by decide))] <;> exact cF_27A_39
        have pF_87A_88 : ai A_88 13 (12 * (F 19).toInt + ai A 12 (F 19).toInt) = v_9.toInt := by rw [ai_fr (A_88_o 13 (by decide))] <;> exact pF_27A_39
        have qF_87A_88 : ai A_88 14 (12 * (F 19).toInt + ai A 12 (F 19).toInt) = v_26.toInt := by rw [ai_fr (A_88_o 14 (by decide))] <;> exact qF_27A_39
        have l_101 : (1 : Int32).toInt = 1 := by decide
        have l_102 : (60 : Int32).toInt = 60 := by decide
        refine ok_call (l_d_bounded hF_87 hA_88 (by omega) (by omega)) ?_
        rintro ⟨v_103, F_104, A_105, J_106⟩ ⟨hF_104, hA_105, F_104_o, A_105_o, v_103_p⟩
        dsimp only at hF_104 hA_105 F_104_o A_105_o v_103_p ⊢
        change 0 ≤ v_103.toInt ∧ v_103.toInt ≤ 9999 ∧ (1 : Int32).toInt ≤ v_103.toInt + 10000 * ((F_104 13).toInt + (F_104 15).toInt) ∧ v_103.toInt ≤ (60 : Int32).toInt + 20000 * ((F_104 13).toInt + (F_104 15).toInt) ∧ (F_87 11).toInt ≤ (F_104 11).toInt ∧ (F_87 13).toInt ≤ 5 * (F_104 13).toInt ∧ (F_87 15).toInt ≤ 5 * (F_104 15).toInt at v_103_p
        have r_107 : 0 ≤ (F_104 11).toInt ∧ (F_104 11).toInt ≤ 400 := hF_104 11
        have r_108 : 0 ≤ (F_104 13).toInt ∧ (F_104 13).toInt ≤ 5 := hF_104 13
        have r_109 : 0 ≤ (F_104 15).toInt ∧ (F_104 15).toInt ≤ 5 := hF_104 15
        have r_110 : 0 ≤ (F_104 18).toInt ∧ (F_104 18).toInt ≤ 1 := hF_104 18
        have f_111 : (F_104 18).toInt = (F_87 18).toInt := congrArg Int32.toInt (F_104_o 18 (by decide))
        have r_112 : 0 ≤ (F_104 19).toInt ∧ (F_104 19).toInt ≤ 1 := hF_104 19
        have f_113 : (F_104 19).toInt = (F_87 19).toInt := congrArg Int32.toInt (F_104_o 19 (by decide))
        have r_114 : 0 ≤ (F_104 20).toInt ∧ (F_104 20).toInt ≤ 32 := hF_104 20
        have f_115 : (F_104 20).toInt = (F_87 20).toInt := congrArg Int32.toInt (F_104_o 20 (by decide))
        have LF_104A_105 : LSm l A A_105 := LF_87A_88.fr _ A_105_o (by decide)
        have NF_104A_105 : NCm F_104 A_105 := NF_87A_88.fr0 (F_104_o 19 (by decide)) (F_104_o 20 (by decide)) (fun q hq => A_105_o q (by simp))
        have aF_104A_105 : ai A_105 12 (F_104 19).toInt = ai A 12 (F 19).toInt := by rw [ai_fr (A_105_o 12 (by decide)), F_104_o 19 (by decide)] <;> exact aF_87A_88
        have bF_104A_105 : ∀ i, 0 ≤ i → i ≠ 12 * (F 19).toInt + ai A 12 (F 19).toInt → ai A_105 13 i = ai A 13 i := by rw [ai_fr (A_105_o 13 (by decide))] <;> exact bF_87A_88
        have cF_104A_105 : ∀ i, 0 ≤ i → i ≠ 12 * (F 19).toInt + ai A 12 (F 19).toInt → ai A_105 14 i = ai A 14 i := by rw [ai_fr (A_105_o 14 (by decide))] <;> exact cF_87A_88
        have pF_104A_105 : ai A_105 13 (12 * (F 19).toInt + ai A 12 (F 19).toInt) = v_9.toInt := by rw [ai_fr (A_105_o 13 (by decide))] <;> exact pF_87A_88
        have qF_104A_105 : ai A_105 14 (12 * (F 19).toInt + ai A 12 (F 19).toInt) = v_26.toInt := by rw [ai_fr (A_105_o 14 (by decide))] <;> exact qF_87A_88
        refine ok_st (j := 15) hA_105 (by omega) (by omega) (trivial) ?_
        intro A_116 hA_116 A_116_o A_116_s A_116_n
        have LF_104A_116 : LSm l A A_116 := LF_104A_105.st hl.1 12 rfl A_116_o A_116_n ⟨by omega, by omega⟩ (by omega)
        have NF_104A_116 : NCm F_104 A_116 := NF_104A_105.fr0 rfl rfl (fun q hq => A_116_o q (by omega))
        have aF_104A_116 : ai A_116 12 (F_104 19).toInt = ai A 12 (F 19).toInt := by rw [ai_fr (A_116_o 12 (by decide))] <;> exact aF_104A_105
        have bF_104A_116 : ∀ i, 0 ≤ i → i ≠ 12 * (F 19).toInt + ai A 12 (F 19).toInt → ai A_116 13 i = ai A 13 i := by rw [ai_fr (A_116_o 13 (by decide))] <;> exact bF_104A_105
        have cF_104A_116 : ∀ i, 0 ≤ i → i ≠ 12 * (F 19).toInt + ai A 12 (F 19).toInt → ai A_116 14 i = ai A 14 i := by rw [ai_fr (A_116_o 14 (by decide))] <;> exact cF_104A_105
        have pF_104A_116 : ai A_116 13 (12 * (F 19).toInt + ai A 12 (F 19).toInt) = v_9.toInt := by rw [ai_fr (A_116_o 13 (by decide))] <;> exact pF_104A_105
        have qF_104A_116 : ai A_116 14 (12 * (F 19).toInt + ai A 12 (F 19).toInt) = v_26.toInt := by rw [ai_fr (A_116_o 14 (by decide))] <;> exact qF_104A_105
        refine ok_cond (fun c_117 => ?_) (fun c_117 => ?_)
        · rw [i_ne] at c_117
          unfold d_tellDoor_120
          refine ok_mono (s_d_tellDoor_121 (l := l) hF_104 hA_116 (by omega) (NF_104A_116) (by omega) (by omega) (rfl) (by decide)) ?_
          rintro ⟨v_118, F_119, A_120, J_121⟩ ⟨hF_119, hA_120, F_119_o, A_120_o, v_118_p⟩
          dsimp only at hF_119 hA_120 F_119_o A_120_o v_118_p ⊢
          change NCm F_119 A_120 ∧ LSm l A_116 A_120 ∧ (F_104 15).toInt ≤ 5 * (F_119 15).toInt ∧ (F_104 11).toInt ≤ (F_119 11).toInt ∧ (F_104 13).toInt ≤ 5 * (F_119 13).toInt ∧ (1 ≤ (F_119 13).toInt ∨ ai A_120 12 (F_104 19).toInt = ai A_116 12 (F_104 19).toInt + 1) at v_118_p
          have r_122 : 0 ≤ (F_119 11).toInt ∧ (F_119 11).toInt ≤ 400 := hF_119 11
          have r_123 : 0 ≤ (F_119 13).toInt ∧ (F_119 13).toInt ≤ 5 := hF_119 13
          have r_124 : 0 ≤ (F_119 15).toInt ∧ (F_119 15).toInt ≤ 5 := hF_119 15
          have f_125 : (F_119 15).toInt = (F_104 15).toInt := congrArg Int32.toInt (F_119_o 15 (by decide))
          have r_126 : 0 ≤ (F_119 18).toInt ∧ (F_119 18).toInt ≤ 1 := hF_119 18
          have f_127 : (F_119 18).toInt = (F_104 18).toInt := congrArg Int32.toInt (F_119_o 18 (by decide))
          have r_128 : 0 ≤ (F_119 19).toInt ∧ (F_119 19).toInt ≤ 1 := hF_119 19
          have f_129 : (F_119 19).toInt = (F_104 19).toInt := congrArg Int32.toInt (F_119_o 19 (by decide))
          have r_130 : 0 ≤ (F_119 20).toInt ∧ (F_119 20).toInt ≤ 32 := hF_119 20
          have f_131 : (F_119 20).toInt = (F_104 20).toInt := congrArg Int32.toInt (F_119_o 20 (by decide))
          have LF_119A_120 : LSm l A A_120 := LF_104A_116.tr v_118_p.2.1
          have NF_119A_120 : NCm F_119 A_120 := v_118_p.1
          have bF_119A_120 : ∀ i, 0 ≤ i → i ≠ 12 * (F 19).toInt + ai A 12 (F 19).toInt → ai A_120 13 i = ai A 13 i := by rw [ai_fr (A_120_o 13 (by decide))] <;> exact bF_104A_116
          have cF_119A_120 : ∀ i, 0 ≤ i → i ≠ 12 * (F 19).toInt + ai A 12 (F 19).toInt → ai A_120 14 i = ai A 14 i := by rw [ai_fr (A_120_o 14 (by decide))] <;> exact cF_104A_116
          have pF_119A_120 : ai A_120 13 (12 * (F 19).toInt + ai A 12 (F 19).toInt) = v_9.toInt := by rw [ai_fr (A_120_o 13 (by decide))] <;> exact pF_104A_116
          have qF_119A_120 : ai A_120 14 (12 * (F 19).toInt + ai A 12 (F 19).toInt) = v_26.toInt := by rw [ai_fr (A_120_o 14 (by decide))] <;> exact qF_104A_116
          have xs : 1 ≤ (F_119 13).toInt ∨ 1 ≤ (F_119 15).toInt ∨ (XDm A (F 19).toInt → XDm A_120 (F 19).toInt) := by
            rcases v_118_p.2.2.2.2.2 with h | h
            · exact .inl h
            · have zz : ai A_120 12 (F 19).toInt = ai A 12 (F 19).toInt + 1 := (congrArg (ai A_120 12) (show (F 19).toInt = (F_104 19).toInt by omega)).trans (h.trans (by omega))
              by_cases h13 : 1 ≤ (F_119 13).toInt
              · exact .inl h13
              · exact .inr ((show 1 ≤ (F_119 15).toInt ∨ (0 ≤ v_9.toInt ∧ 0 ≤ v_26.toInt) by omega).imp id (fun h x => x.up zz bF_119A_120 cF_119A_120 (by rw [pF_119A_120]; exact h.1) (by rw [qF_119A_120]; exact h.2) rfl (by omega)))
          refine ⟨hF_119, hA_120, (fun q hq => (((((F_119_o q (fun e => hq ((by decide : ∀ x, x ∈ ([11, 13, 14] : List Nat) → x ∈ ([11, 13, 14, 15, 16] : List Nat)) q e))).trans (F_104_o q hq)).trans (F_87_o q (fun e => hq ((by decide : ∀ x, x ∈ ([15, 16] : List Nat) → x ∈ ([11, 13, 14, 15, 16] : List Nat)) q e)))).trans (F_27_o q hq)).trans (F_10_o q hq))), (fun q hq => ((((((((A_120_o q (fun e => hq ((by decide : ∀ x, x ∈ ([12, 16] : List Nat) → x ∈ ([12, 13, 14, 15, 16] : List Nat)) q e))).trans (A_116_o q (fun e => hq (by rw [e]; decide)))).trans (A_105_o q (fun e => hq ((by decide : ∀ x, x ∈ ([] : List Nat) → x ∈ ([12, 13, 14, 15, 16] : List Nat)) q e)))).trans (A_88_o q (fun e => hq ((by decide : ∀ x, x ∈ ([] : List Nat) → x ∈ ([12, 13, 14, 15, 16] : List Nat)) q e)))).trans (A_39_o q (fun e => hq (by rw [e]; decide)))).trans (A_28_o q (fun e => hq ((by decide : ∀ x, x ∈ ([] : List Nat) → x ∈ ([12, 13, 14, 15, 16] : List Nat)) q e)))).trans (A_25_o q (fun e => hq (by rw [e]; decide)))).trans (A_11_o q (fun e => hq ((by decide : ∀ x, x ∈ ([] : List Nat) → x ∈ ([12, 13, 14, 15, 16] : List Nat)) q e))))), ?_⟩
          exact ⟨NF_119A_120, LF_119A_120, by (try dsimp only) <;> omega, by (try dsimp only) <;> omega, xs⟩
        · rw [i_nne] at c_117
          refine ok_call (l_d_is hF_104 hA_116) ?_
          intro v_132 v_132_p
          change 0 ≤ v_132.toInt ∧ v_132.toInt ≤ 1 at v_132_p
          refine ok_cond (fun c_133 => ?_) (fun c_133 => ?_)
          · rw [i_eq] at c_133
            unfold d_tellDoor_120
            refine ok_mono (s_d_tellDoor_121 (l := l) hF_104 hA_116 (by omega) (NF_104A_116) (by omega) (by omega) (rfl) (by decide)) ?_
            rintro ⟨v_134, F_135, A_136, J_137⟩ ⟨hF_135, hA_136, F_135_o, A_136_o, v_134_p⟩
            dsimp only at hF_135 hA_136 F_135_o A_136_o v_134_p ⊢
            change NCm F_135 A_136 ∧ LSm l A_116 A_136 ∧ (F_104 15).toInt ≤ 5 * (F_135 15).toInt ∧ (F_104 11).toInt ≤ (F_135 11).toInt ∧ (F_104 13).toInt ≤ 5 * (F_135 13).toInt ∧ (1 ≤ (F_135 13).toInt ∨ ai A_136 12 (F_104 19).toInt = ai A_116 12 (F_104 19).toInt + 1) at v_134_p
            have r_138 : 0 ≤ (F_135 11).toInt ∧ (F_135 11).toInt ≤ 400 := hF_135 11
            have r_139 : 0 ≤ (F_135 13).toInt ∧ (F_135 13).toInt ≤ 5 := hF_135 13
            have r_140 : 0 ≤ (F_135 15).toInt ∧ (F_135 15).toInt ≤ 5 := hF_135 15
            have f_141 : (F_135 15).toInt = (F_104 15).toInt := congrArg Int32.toInt (F_135_o 15 (by decide))
            have r_142 : 0 ≤ (F_135 18).toInt ∧ (F_135 18).toInt ≤ 1 := hF_135 18
            have f_143 : (F_135 18).toInt = (F_104 18).toInt := congrArg Int32.toInt (F_135_o 18 (by decide))
            have r_144 : 0 ≤ (F_135 19).toInt ∧ (F_135 19).toInt ≤ 1 := hF_135 19
            have f_145 : (F_135 19).toInt = (F_104 19).toInt := congrArg Int32.toInt (F_135_o 19 (by decide))
            have r_146 : 0 ≤ (F_135 20).toInt ∧ (F_135 20).toInt ≤ 32 := hF_135 20
            have f_147 : (F_135 20).toInt = (F_104 20).toInt := congrArg Int32.toInt (F_135_o 20 (by decide))
            have LF_135A_136 : LSm l A A_136 := LF_104A_116.tr v_134_p.2.1
            have NF_135A_136 : NCm F_135 A_136 := v_134_p.1
            have bF_135A_136 : ∀ i, 0 ≤ i → i ≠ 12 * (F 19).toInt + ai A 12 (F 19).toInt → ai A_136 13 i = ai A 13 i := by rw [ai_fr (A_136_o 13 (by decide))] <;> exact bF_104A_116
            have cF_135A_136 : ∀ i, 0 ≤ i → i ≠ 12 * (F 19).toInt + ai A 12 (F 19).toInt → ai A_136 14 i = ai A 14 i := by rw [ai_fr (A_136_o 14 (by decide))] <;> exact cF_104A_116
            have pF_135A_136 : ai A_136 13 (12 * (F 19).toInt + ai A 12 (F 19).toInt) = v_9.toInt := by rw [ai_fr (A_136_o 13 (by decide))] <;> exact pF_104A_116
            have qF_135A_136 : ai A_136 14 (12 * (F 19).toInt + ai A 12 (F 19).toInt) = v_26.toInt := by rw [ai_fr (A_136_o 14 (by decide))] <;> exact qF_104A_116
            have xs : 1 ≤ (F_135 13).toInt ∨ 1 ≤ (F_135 15).toInt ∨ (XDm A (F 19).toInt → XDm A_136 (F 19).toInt) := by
              rcases v_134_p.2.2.2.2.2 with h | h
              · exact .inl h
              · have zz : ai A_136 12 (F 19).toInt = ai A 12 (F 19).toInt + 1 := (congrArg (ai A_136 12) (show (F 19).toInt = (F_104 19).toInt by omega)).trans (h.trans (by omega))
                by_cases h13 : 1 ≤ (F_135 13).toInt
                · exact .inl h13
                · exact .inr ((show 1 ≤ (F_135 15).toInt ∨ (0 ≤ v_9.toInt ∧ 0 ≤ v_26.toInt) by omega).imp id (fun h x => x.up zz bF_135A_136 cF_135A_136 (by rw [pF_135A_136]; exact h.1) (by rw [qF_135A_136]; exact h.2) rfl (by omega)))
            refine ⟨hF_135, hA_136, (fun q hq => (((((F_135_o q (fun e => hq ((by decide : ∀ x, x ∈ ([11, 13, 14] : List Nat) → x ∈ ([11, 13, 14, 15, 16] : List Nat)) q e))).trans (F_104_o q hq)).trans (F_87_o q (fun e => hq ((by decide : ∀ x, x ∈ ([15, 16] : List Nat) → x ∈ ([11, 13, 14, 15, 16] : List Nat)) q e)))).trans (F_27_o q hq)).trans (F_10_o q hq))), (fun q hq => ((((((((A_136_o q (fun e => hq ((by decide : ∀ x, x ∈ ([12, 16] : List Nat) → x ∈ ([12, 13, 14, 15, 16] : List Nat)) q e))).trans (A_116_o q (fun e => hq (by rw [e]; decide)))).trans (A_105_o q (fun e => hq ((by decide : ∀ x, x ∈ ([] : List Nat) → x ∈ ([12, 13, 14, 15, 16] : List Nat)) q e)))).trans (A_88_o q (fun e => hq ((by decide : ∀ x, x ∈ ([] : List Nat) → x ∈ ([12, 13, 14, 15, 16] : List Nat)) q e)))).trans (A_39_o q (fun e => hq (by rw [e]; decide)))).trans (A_28_o q (fun e => hq ((by decide : ∀ x, x ∈ ([] : List Nat) → x ∈ ([12, 13, 14, 15, 16] : List Nat)) q e)))).trans (A_25_o q (fun e => hq (by rw [e]; decide)))).trans (A_11_o q (fun e => hq ((by decide : ∀ x, x ∈ ([] : List Nat) → x ∈ ([12, 13, 14, 15, 16] : List Nat)) q e))))), ?_⟩
            exact ⟨NF_135A_136, LF_135A_136, by (try dsimp only) <;> omega, by (try dsimp only) <;> omega, xs⟩
          · rw [i_neq] at c_133
            refine ok_mono (s_d_tellDoor_121 (l := l) hF_104 hA_116 (by omega) (NF_104A_116) (by omega) (by omega) (rfl) (by decide)) ?_
            rintro ⟨v_148, F_149, A_150, J_151⟩ ⟨hF_149, hA_150, F_149_o, A_150_o, v_148_p⟩
            dsimp only at hF_149 hA_150 F_149_o A_150_o v_148_p ⊢
            change NCm F_149 A_150 ∧ LSm l A_116 A_150 ∧ (F_104 15).toInt ≤ 5 * (F_149 15).toInt ∧ (F_104 11).toInt ≤ (F_149 11).toInt ∧ (F_104 13).toInt ≤ 5 * (F_149 13).toInt ∧ (1 ≤ (F_149 13).toInt ∨ ai A_150 12 (F_104 19).toInt = ai A_116 12 (F_104 19).toInt + 1) at v_148_p
            have r_152 : 0 ≤ (F_149 11).toInt ∧ (F_149 11).toInt ≤ 400 := hF_149 11
            have r_153 : 0 ≤ (F_149 13).toInt ∧ (F_149 13).toInt ≤ 5 := hF_149 13
            have r_154 : 0 ≤ (F_149 15).toInt ∧ (F_149 15).toInt ≤ 5 := hF_149 15
            have f_155 : (F_149 15).toInt = (F_104 15).toInt := congrArg Int32.toInt (F_149_o 15 (by decide))
            have r_156 : 0 ≤ (F_149 18).toInt ∧ (F_149 18).toInt ≤ 1 := hF_149 18
            have f_157 : (F_149 18).toInt = (F_104 18).toInt := congrArg Int32.toInt (F_149_o 18 (by decide))
            have r_158 : 0 ≤ (F_149 19).toInt ∧ (F_149 19).toInt ≤ 1 := hF_149 19
            have f_159 : (F_149 19).toInt = (F_104 19).toInt := congrArg Int32.toInt (F_149_o 19 (by decide))
            have r_160 : 0 ≤ (F_149 20).toInt ∧ (F_149 20).toInt ≤ 32 := hF_149 20
            have f_161 : (F_149 20).toInt = (F_104 20).toInt := congrArg Int32.toInt (F_149_o 20 (by decide))
            have LF_149A_150 : LSm l A A_150 := LF_104A_116.tr v_148_p.2.1
            have NF_149A_150 : NCm F_149 A_150 := v_148_p.1
            have bF_149A_150 : ∀ i, 0 ≤ i → i ≠ 12 * (F 19).toInt + ai A 12 (F 19).toInt → ai A_150 13 i = ai A 13 i := by rw [ai_fr (A_150_o 13 (by decide))] <;> exact bF_104A_116
            have cF_149A_150 : ∀ i, 0 ≤ i → i ≠ 12 * (F 19).toInt + ai A 12 (F 19).toInt → ai A_150 14 i = ai A 14 i := by rw [ai_fr (A_150_o 14 (by decide))] <;> exact cF_104A_116
            have pF_149A_150 : ai A_150 13 (12 * (F 19).toInt + ai A 12 (F 19).toInt) = v_9.toInt := by rw [ai_fr (A_150_o 13 (by decide))] <;> exact pF_104A_116
            have qF_149A_150 : ai A_150 14 (12 * (F 19).toInt + ai A 12 (F 19).toInt) = v_26.toInt := by rw [ai_fr (A_150_o 14 (by decide))] <;> exact qF_104A_116
            have xs : 1 ≤ (F_149 13).toInt ∨ 1 ≤ (F_149 15).toInt ∨ (XDm A (F 19).toInt → XDm A_150 (F 19).toInt) := by
              rcases v_148_p.2.2.2.2.2 with h | h
              · exact .inl h
              · have zz : ai A_150 12 (F 19).toInt = ai A 12 (F 19).toInt + 1 := (congrArg (ai A_150 12) (show (F 19).toInt = (F_104 19).toInt by omega)).trans (h.trans (by omega))
                by_cases h13 : 1 ≤ (F_149 13).toInt
                · exact .inl h13
                · exact .inr ((show 1 ≤ (F_149 15).toInt ∨ (0 ≤ v_9.toInt ∧ 0 ≤ v_26.toInt) by omega).imp id (fun h x => x.up zz bF_149A_150 cF_149A_150 (by rw [pF_149A_150]; exact h.1) (by rw [qF_149A_150]; exact h.2) rfl (by omega)))
            refine ⟨hF_149, hA_150, (fun q hq => (((((F_149_o q (fun e => hq ((by decide : ∀ x, x ∈ ([11, 13, 14] : List Nat) → x ∈ ([11, 13, 14, 15, 16] : List Nat)) q e))).trans (F_104_o q hq)).trans (F_87_o q (fun e => hq ((by decide : ∀ x, x ∈ ([15, 16] : List Nat) → x ∈ ([11, 13, 14, 15, 16] : List Nat)) q e)))).trans (F_27_o q hq)).trans (F_10_o q hq))), (fun q hq => ((((((((A_150_o q (fun e => hq ((by decide : ∀ x, x ∈ ([12, 16] : List Nat) → x ∈ ([12, 13, 14, 15, 16] : List Nat)) q e))).trans (A_116_o q (fun e => hq (by rw [e]; decide)))).trans (A_105_o q (fun e => hq ((by decide : ∀ x, x ∈ ([] : List Nat) → x ∈ ([12, 13, 14, 15, 16] : List Nat)) q e)))).trans (A_88_o q (fun e => hq ((by decide : ∀ x, x ∈ ([] : List Nat) → x ∈ ([12, 13, 14, 15, 16] : List Nat)) q e)))).trans (A_39_o q (fun e => hq (by rw [e]; decide)))).trans (A_28_o q (fun e => hq ((by decide : ∀ x, x ∈ ([] : List Nat) → x ∈ ([12, 13, 14, 15, 16] : List Nat)) q e)))).trans (A_25_o q (fun e => hq (by rw [e]; decide)))).trans (A_11_o q (fun e => hq ((by decide : ∀ x, x ∈ ([] : List Nat) → x ∈ ([12, 13, 14, 15, 16] : List Nat)) q e))))), ?_⟩
            exact ⟨NF_149A_150, LF_149A_150, by (try dsimp only) <;> omega, by (try dsimp only) <;> omega, xs⟩
