set_option maxRecDepth 10000 in
theorem s_d_tellRoom {n : Nat} {l : Int} {F : Nat → Int32} {A : Nat → Nat → Int32} {J : Nat → Nat → Int64}  (hF : IFm F) (hA : IAm A) (hn : 50 ≤ n) (hl : 0 ≤ l ∧ (F 18).toInt = l ∧ (F 19).toInt = 1 - l) (NFA : NCm F A) (hr : ai A 11 (F 19).toInt < 8) (h13 : (F 13).toInt = 0) : ok (d_tellRoom n F A J) (fun r => IFm r.2.1 ∧ IAm r.2.2.1 ∧ (∀ q, q ∉ ([11, 13, 14, 15, 16, 20] : List Nat) → r.2.1 q = F q) ∧ (∀ q, q ∉ ([9, 10, 11] : List Nat) → r.2.2.1 q = A q) ∧ NCm r.2.1 r.2.2.1 ∧ LSm l A r.2.2.1 ∧ ((F 15).toInt = 0 ∨ 1 ≤ (r.2.1 15).toInt) ∧ (F 11).toInt ≤ (r.2.1 11).toInt ∧ ((r.2.1 13).toInt = 0 ∨ 1 ≤ (r.2.1 13).toInt)) := by
  have r18 : 0 ≤ (F 18).toInt ∧ (F 18).toInt ≤ 1 := hF 18
  have LFA : LSm l A A := LSm.rfl' l A
  have aFA : ai A 11 (F 19).toInt = ai A 11 (F 19).toInt := rfl
  have ct := NFA.2
  unfold CTm at ct
  have g11 : 0 ≤ ai A 11 (F 19).toInt ∧ ai A 11 (F 19).toInt ≤ 8 := hA 11 _ (by have := hF 19; exact this.1)
  have g17 : 0 ≤ ai A 17 (F 19).toInt ∧ ai A 17 (F 19).toInt ≤ 6 := hA 17 _ (by have := hF 19; exact this.1)
  have g19 : 0 ≤ ai A 19 (F 19).toInt ∧ ai A 19 (F 19).toInt ≤ 6 := hA 19 _ (by have := hF 19; exact this.1)
  have g29 : 0 ≤ ai A 29 (F 19).toInt ∧ ai A 29 (F 19).toInt ≤ 6 := hA 29 _ (by have := hF 19; exact this.1)
  have r_1 : 0 ≤ (F 11).toInt ∧ (F 11).toInt ≤ 400 := hF 11
  have r_2 : 0 ≤ (F 13).toInt ∧ (F 13).toInt ≤ 5 := hF 13
  have r_3 : 0 ≤ (F 15).toInt ∧ (F 15).toInt ≤ 5 := hF 15
  have r_4 : 0 ≤ (F 18).toInt ∧ (F 18).toInt ≤ 1 := hF 18
  have r_5 : 0 ≤ (F 19).toInt ∧ (F 19).toInt ≤ 1 := hF 19
  have r_6 : 0 ≤ (F 20).toInt ∧ (F 20).toInt ≤ 32 := hF 20
  unfold d_tellRoom
  refine ok_call (s_d_named hF hA (by omega)) ?_
  rintro ⟨v_7, F_8, A_9, J_10⟩ ⟨hF_8, hA_9, F_8_o, A_9_o, v_7_p⟩
  dsimp only at hF_8 hA_9 F_8_o A_9_o v_7_p ⊢
  have v_7_p : v_7 = F 11 ∧ (((F 13).toInt = 0 ∧ (F_8 11).toInt = (F 11).toInt + 1 ∧ (F_8 13).toInt = 0) ∨ ((F_8 11).toInt = (F 11).toInt ∧ 1 ≤ (F_8 13).toInt)) ∧ ((F 15).toInt = 0 ∨ 1 ≤ (F_8 15).toInt) := v_7_p
  have r_11 : 0 ≤ (F_8 11).toInt ∧ (F_8 11).toInt ≤ 400 := hF_8 11
  have r_12 : 0 ≤ (F_8 13).toInt ∧ (F_8 13).toInt ≤ 5 := hF_8 13
  have r_13 : 0 ≤ (F_8 15).toInt ∧ (F_8 15).toInt ≤ 5 := hF_8 15
  have r_14 : 0 ≤ (F_8 18).toInt ∧ (F_8 18).toInt ≤ 1 := hF_8 18
  have f_15 : (F_8 18).toInt = (F 18).toInt := congrArg Int32.toInt (F_8_o 18 (by decide))
  have r_16 : 0 ≤ (F_8 19).toInt ∧ (F_8 19).toInt ≤ 1 := hF_8 19
  have f_17 : (F_8 19).toInt = (F 19).toInt := congrArg Int32.toInt (F_8_o 19 (by decide))
  have r_18 : 0 ≤ (F_8 20).toInt ∧ (F_8 20).toInt ≤ 32 := hF_8 20
  have f_19 : (F_8 20).toInt = (F 20).toInt := congrArg Int32.toInt (F_8_o 20 (by decide))
  have LF_8A_9 : LSm l A A_9 := LFA.fr _ A_9_o (by decide)
  have NF_8A_9 : NCm F_8 A_9 := NFA.fr0 (F_8_o 19 (by decide)) (F_8_o 20 (by decide)) (fun q hq => A_9_o q (by simp))
  have aF_8A_9 : ai A_9 11 (F_8 19).toInt = ai A 11 (F 19).toInt := by rw [ai_fr (A_9_o 11 (by decide)), F_8_o 19 (by decide)] <;> exact aFA
  rw [v_7_p.1]
  refine ok_call (s_d_must hF_8 hA_9) ?_
  rintro ⟨u_20, F_21, A_22, J_23⟩ ⟨hF_21, hA_22, F_21_o, A_22_o, u_20_p⟩
  dsimp only at hF_21 hA_22 F_21_o A_22_o u_20_p ⊢
  have u_20_p : (((F_8 13).toInt = 0 ∧ (F_21 11).toInt = (F_8 11).toInt + 1 ∧ (F_21 13).toInt = 0) ∨ ((F_21 11).toInt = (F_8 11).toInt ∧ 1 ≤ (F_21 13).toInt)) := u_20_p
  have r_24 : 0 ≤ (F_21 11).toInt ∧ (F_21 11).toInt ≤ 400 := hF_21 11
  have r_25 : 0 ≤ (F_21 13).toInt ∧ (F_21 13).toInt ≤ 5 := hF_21 13
  have r_26 : 0 ≤ (F_21 15).toInt ∧ (F_21 15).toInt ≤ 5 := hF_21 15
  have f_27 : (F_21 15).toInt = (F_8 15).toInt := congrArg Int32.toInt (F_21_o 15 (by decide))
  have r_28 : 0 ≤ (F_21 18).toInt ∧ (F_21 18).toInt ≤ 1 := hF_21 18
  have f_29 : (F_21 18).toInt = (F_8 18).toInt := congrArg Int32.toInt (F_21_o 18 (by decide))
  have r_30 : 0 ≤ (F_21 19).toInt ∧ (F_21 19).toInt ≤ 1 := hF_21 19
  have f_31 : (F_21 19).toInt = (F_8 19).toInt := congrArg Int32.toInt (F_21_o 19 (by decide))
  have r_32 : 0 ≤ (F_21 20).toInt ∧ (F_21 20).toInt ≤ 32 := hF_21 20
  have f_33 : (F_21 20).toInt = (F_8 20).toInt := congrArg Int32.toInt (F_21_o 20 (by decide))
  have LF_21A_22 : LSm l A A_22 := LF_8A_9.fr _ A_22_o (by decide)
  have NF_21A_22 : NCm F_21 A_22 := NF_8A_9.fr0 (F_21_o 19 (by decide)) (F_21_o 20 (by decide)) (fun q hq => A_22_o q (by simp))
  have aF_21A_22 : ai A_22 11 (F_21 19).toInt = ai A 11 (F 19).toInt := by rw [ai_fr (A_22_o 11 (by decide)), F_21_o 19 (by decide)] <;> exact aF_8A_9
  have l_34 : (0 : Int32).toInt = 0 := by decide
  refine ok_cond (fun c_35 => ?_) (fun c_35 => ?_)
  · rw [i_le] at c_35
    refine ok_ld (j := 11) hA_22 (by omega) (by omega) ?_
    intro v_36 v_36_e v_36_r
    have v_36_r : 0 ≤ v_36.toInt ∧ v_36.toInt ≤ 8 := v_36_r
    refine ok_call (s_d_notes hF_21 hA_22 (by omega) (by omega) (by omega)) ?_
    rintro ⟨u_37, F_38, A_39, J_40⟩ ⟨hF_38, hA_39, F_38_o, A_39_o, u_37_p⟩
    dsimp only at hF_38 hA_39 F_38_o A_39_o u_37_p ⊢
    have u_37_p : (F_38 20).toInt = (F_21 20).toInt + 1 ∧ ai A_39 9 (F_21 20).toInt = (0 : Int32).toInt ∧ ai A_39 10 (F_21 20).toInt = v_36.toInt ∧ (∀ q, 0 ≤ q → q ≠ (F_21 20).toInt → ai A_39 9 q = ai A_22 9 q ∧ ai A_39 10 q = ai A_22 10 q) := u_37_p
    have r_41 : 0 ≤ (F_38 11).toInt ∧ (F_38 11).toInt ≤ 400 := hF_38 11
    have f_42 : (F_38 11).toInt = (F_21 11).toInt := congrArg Int32.toInt (F_38_o 11 (by decide))
    have r_43 : 0 ≤ (F_38 13).toInt ∧ (F_38 13).toInt ≤ 5 := hF_38 13
    have f_44 : (F_38 13).toInt = (F_21 13).toInt := congrArg Int32.toInt (F_38_o 13 (by decide))
    have r_45 : 0 ≤ (F_38 15).toInt ∧ (F_38 15).toInt ≤ 5 := hF_38 15
    have f_46 : (F_38 15).toInt = (F_21 15).toInt := congrArg Int32.toInt (F_38_o 15 (by decide))
    have r_47 : 0 ≤ (F_38 18).toInt ∧ (F_38 18).toInt ≤ 1 := hF_38 18
    have f_48 : (F_38 18).toInt = (F_21 18).toInt := congrArg Int32.toInt (F_38_o 18 (by decide))
    have r_49 : 0 ≤ (F_38 19).toInt ∧ (F_38 19).toInt ≤ 1 := hF_38 19
    have f_50 : (F_38 19).toInt = (F_21 19).toInt := congrArg Int32.toInt (F_38_o 19 (by decide))
    have r_51 : 0 ≤ (F_38 20).toInt ∧ (F_38 20).toInt ≤ 32 := hF_38 20
    have LF_38A_39 : LSm l A A_39 := LF_21A_22.fr _ A_39_o (by decide)
    have aF_38A_39 : ai A_39 11 (F_38 19).toInt = ai A 11 (F 19).toInt := by rw [ai_fr (A_39_o 11 (by decide)), F_38_o 19 (by decide)] <;> exact aF_21A_22
    refine ok_ld (j := 11) hA_39 (by omega) (by omega) ?_
    intro v_52 v_52_e v_52_r
    have v_52_r : 0 ≤ v_52.toInt ∧ v_52.toInt ≤ 8 := v_52_r
    have l_53 : (1 : Int32).toInt = 1 := by decide
    have e_54 := i_add (x := v_52) (y := 1) (by omega) (by omega)
    refine ok_st (j := 11) hA_39 (by omega) (by omega) (⟨by omega, by omega⟩) ?_
    intro A_55 hA_55 A_55_o A_55_s A_55_n
    have LF_38A_55 : LSm l A A_55 := LF_38A_39.st hl.1 1 rfl A_55_o A_55_n ⟨by omega, by omega⟩ (by omega)
    have e19 : F_38 19 = F_21 19 := F_38_o 19 (by decide)
    have zr : ai A_55 11 (F_21 19).toInt = ai A_22 11 (F_21 19).toInt + 1 := by rw [← e19, A_55_s, ← ai_fr (A_39_o 11 (by decide))]; omega
    have NZ : NCm F_38 A_55 := NCm.add (r := 11) NF_21A_22 (by omega) e19 u_37_p A_39_o A_55_o v_36_e zr
    refine ok_some ?_
    refine ⟨hF_38, hA_55, (fun q hq => (((F_38_o q (fun e => hq ((by decide : ∀ x, x ∈ ([20] : List Nat) → x ∈ ([11, 13, 14, 15, 16, 20] : List Nat)) q e))).trans (F_21_o q (fun e => hq ((by decide : ∀ x, x ∈ ([11, 13, 14] : List Nat) → x ∈ ([11, 13, 14, 15, 16, 20] : List Nat)) q e)))).trans (F_8_o q (fun e => hq ((by decide : ∀ x, x ∈ ([11, 13, 14, 15, 16] : List Nat) → x ∈ ([11, 13, 14, 15, 16, 20] : List Nat)) q e))))), (fun q hq => ((((A_55_o q (fun e => hq (by rw [e]; decide))).trans (A_39_o q (fun e => hq ((by decide : ∀ x, x ∈ ([9, 10] : List Nat) → x ∈ ([9, 10, 11] : List Nat)) q e)))).trans (A_22_o q (fun e => hq ((by decide : ∀ x, x ∈ ([] : List Nat) → x ∈ ([9, 10, 11] : List Nat)) q e)))).trans (A_9_o q (fun e => hq ((by decide : ∀ x, x ∈ ([] : List Nat) → x ∈ ([9, 10, 11] : List Nat)) q e))))), ?_⟩
    first | exact ⟨NZ, LF_38A_55, by (try dsimp only) <;> omega, by (try dsimp only) <;> omega, by (try dsimp only) <;> omega⟩ | exact ⟨NF_38A_55, LF_38A_55, by (try dsimp only) <;> omega, by (try dsimp only) <;> omega, by (try dsimp only) <;> omega⟩
  · rw [i_nle] at c_35
    refine ok_some ?_
    refine ⟨hF_21, hA_22, (fun q hq => ((F_21_o q (fun e => hq ((by decide : ∀ x, x ∈ ([11, 13, 14] : List Nat) → x ∈ ([11, 13, 14, 15, 16, 20] : List Nat)) q e))).trans (F_8_o q (fun e => hq ((by decide : ∀ x, x ∈ ([11, 13, 14, 15, 16] : List Nat) → x ∈ ([11, 13, 14, 15, 16, 20] : List Nat)) q e))))), (fun q hq => ((A_22_o q (fun e => hq ((by decide : ∀ x, x ∈ ([] : List Nat) → x ∈ ([9, 10, 11] : List Nat)) q e))).trans (A_9_o q (fun e => hq ((by decide : ∀ x, x ∈ ([] : List Nat) → x ∈ ([9, 10, 11] : List Nat)) q e))))), ?_⟩
    first | exact ⟨NZ, LF_21A_22, by (try dsimp only) <;> omega, by (try dsimp only) <;> omega, by (try dsimp only) <;> omega⟩ | exact ⟨NF_21A_22, LF_21A_22, by (try dsimp only) <;> omega, by (try dsimp only) <;> omega, by (try dsimp only) <;> omega⟩
set_option maxRecDepth 10000 in
theorem s_d_tellTool {n : Nat} {l : Int} {F : Nat → Int32} {A : Nat → Nat → Int32} {J : Nat → Nat → Int64}  (hF : IFm F) (hA : IAm A) (hn : 50 ≤ n) (hl : 0 ≤ l ∧ (F 18).toInt = l ∧ (F 19).toInt = 1 - l) (NFA : NCm F A) (hr : ai A 17 (F 19).toInt < 6) (h13 : (F 13).toInt = 0) : ok (d_tellTool n F A J) (fun r => IFm r.2.1 ∧ IAm r.2.2.1 ∧ (∀ q, q ∉ ([11, 13, 14, 15, 16, 20] : List Nat) → r.2.1 q = F q) ∧ (∀ q, q ∉ ([9, 10, 17, 18] : List Nat) → r.2.2.1 q = A q) ∧ NCm r.2.1 r.2.2.1 ∧ LSm l A r.2.2.1 ∧ ((F 15).toInt = 0 ∨ 1 ≤ (r.2.1 15).toInt) ∧ (F 11).toInt ≤ (r.2.1 11).toInt ∧ ((r.2.1 13).toInt = 0 ∨ 1 ≤ (r.2.1 13).toInt)) := by
  have r18 : 0 ≤ (F 18).toInt ∧ (F 18).toInt ≤ 1 := hF 18
  have LFA : LSm l A A := LSm.rfl' l A
  have aFA : ai A 17 (F 19).toInt = ai A 17 (F 19).toInt := rfl
  have ct := NFA.2
  unfold CTm at ct
  have g11 : 0 ≤ ai A 11 (F 19).toInt ∧ ai A 11 (F 19).toInt ≤ 8 := hA 11 _ (by have := hF 19; exact this.1)
  have g17 : 0 ≤ ai A 17 (F 19).toInt ∧ ai A 17 (F 19).toInt ≤ 6 := hA 17 _ (by have := hF 19; exact this.1)
  have g19 : 0 ≤ ai A 19 (F 19).toInt ∧ ai A 19 (F 19).toInt ≤ 6 := hA 19 _ (by have := hF 19; exact this.1)
  have g29 : 0 ≤ ai A 29 (F 19).toInt ∧ ai A 29 (F 19).toInt ≤ 6 := hA 29 _ (by have := hF 19; exact this.1)
  have r_1 : 0 ≤ (F 11).toInt ∧ (F 11).toInt ≤ 400 := hF 11
  have r_2 : 0 ≤ (F 13).toInt ∧ (F 13).toInt ≤ 5 := hF 13
  have r_3 : 0 ≤ (F 15).toInt ∧ (F 15).toInt ≤ 5 := hF 15
  have r_4 : 0 ≤ (F 18).toInt ∧ (F 18).toInt ≤ 1 := hF 18
  have r_5 : 0 ≤ (F 19).toInt ∧ (F 19).toInt ≤ 1 := hF 19
  have r_6 : 0 ≤ (F 20).toInt ∧ (F 20).toInt ≤ 32 := hF 20
  unfold d_tellTool
  refine ok_call (s_d_named hF hA (by omega)) ?_
  rintro ⟨v_7, F_8, A_9, J_10⟩ ⟨hF_8, hA_9, F_8_o, A_9_o, v_7_p⟩
  dsimp only at hF_8 hA_9 F_8_o A_9_o v_7_p ⊢
  have v_7_p : v_7 = F 11 ∧ (((F 13).toInt = 0 ∧ (F_8 11).toInt = (F 11).toInt + 1 ∧ (F_8 13).toInt = 0) ∨ ((F_8 11).toInt = (F 11).toInt ∧ 1 ≤ (F_8 13).toInt)) ∧ ((F 15).toInt = 0 ∨ 1 ≤ (F_8 15).toInt) := v_7_p
  have r_11 : 0 ≤ (F_8 11).toInt ∧ (F_8 11).toInt ≤ 400 := hF_8 11
  have r_12 : 0 ≤ (F_8 13).toInt ∧ (F_8 13).toInt ≤ 5 := hF_8 13
  have r_13 : 0 ≤ (F_8 15).toInt ∧ (F_8 15).toInt ≤ 5 := hF_8 15
  have r_14 : 0 ≤ (F_8 18).toInt ∧ (F_8 18).toInt ≤ 1 := hF_8 18
  have f_15 : (F_8 18).toInt = (F 18).toInt := congrArg Int32.toInt (F_8_o 18 (by decide))
  have r_16 : 0 ≤ (F_8 19).toInt ∧ (F_8 19).toInt ≤ 1 := hF_8 19
  have f_17 : (F_8 19).toInt = (F 19).toInt := congrArg Int32.toInt (F_8_o 19 (by decide))
  have r_18 : 0 ≤ (F_8 20).toInt ∧ (F_8 20).toInt ≤ 32 := hF_8 20
  have f_19 : (F_8 20).toInt = (F 20).toInt := congrArg Int32.toInt (F_8_o 20 (by decide))
  have LF_8A_9 : LSm l A A_9 := LFA.fr _ A_9_o (by decide)
  have NF_8A_9 : NCm F_8 A_9 := NFA.fr0 (F_8_o 19 (by decide)) (F_8_o 20 (by decide)) (fun q hq => A_9_o q (by simp))
  have aF_8A_9 : ai A_9 17 (F_8 19).toInt = ai A 17 (F 19).toInt := by rw [ai_fr (A_9_o 17 (by decide)), F_8_o 19 (by decide)] <;> exact aFA
  rw [v_7_p.1]
  refine ok_ld (j := 17) hA_9 (by omega) (by omega) ?_
  intro v_20 v_20_e v_20_r
  have v_20_r : 0 ≤ v_20.toInt ∧ v_20.toInt ≤ 6 := v_20_r
  have l_21 : (0 : Int32).toInt = 0 := by decide
  refine ok_call (s_d_known hF_8 hA_9 (by omega) (NF_8A_9.1) (by omega)) ?_
  rintro ⟨v_22, F_23, A_24, J_25⟩ ⟨hF_23, hA_24, F_23_o, A_24_o, v_22_p⟩
  dsimp only at hF_23 hA_24 F_23_o A_24_o v_22_p ⊢
  have v_22_p : -1 ≤ v_22.toInt ∧ v_22.toInt ≤ 7 ∧ (0 ≤ v_22.toInt ∨ 1 ≤ (F_23 13).toInt ∨ 1 ≤ (F_23 15).toInt) ∧ ((F_8 15).toInt = 0 ∨ 1 ≤ (F_23 15).toInt) ∧ (v_22.toInt < 0 ∨ ((0 : Int32).toInt = 0 ∧ v_22.toInt < ai A_9 11 (F_8 19).toInt) ∨ ((0 : Int32).toInt = 1 ∧ v_22.toInt < ai A_9 17 (F_8 19).toInt) ∨ ((0 : Int32).toInt = 2 ∧ v_22.toInt < ai A_9 19 (F_8 19).toInt) ∨ ((0 : Int32).toInt = 3 ∧ v_22.toInt < ai A_9 29 (F_8 19).toInt)) ∧ (((F_8 13).toInt = 0 ∧ (F_23 11).toInt = (F_8 11).toInt + 1 ∧ (F_23 13).toInt = 0) ∨ ((F_23 11).toInt = (F_8 11).toInt ∧ 1 ≤ (F_23 13).toInt)) := v_22_p
  have r_26 : 0 ≤ (F_23 11).toInt ∧ (F_23 11).toInt ≤ 400 := hF_23 11
  have r_27 : 0 ≤ (F_23 13).toInt ∧ (F_23 13).toInt ≤ 5 := hF_23 13
  have r_28 : 0 ≤ (F_23 15).toInt ∧ (F_23 15).toInt ≤ 5 := hF_23 15
  have r_29 : 0 ≤ (F_23 18).toInt ∧ (F_23 18).toInt ≤ 1 := hF_23 18
  have f_30 : (F_23 18).toInt = (F_8 18).toInt := congrArg Int32.toInt (F_23_o 18 (by decide))
  have r_31 : 0 ≤ (F_23 19).toInt ∧ (F_23 19).toInt ≤ 1 := hF_23 19
  have f_32 : (F_23 19).toInt = (F_8 19).toInt := congrArg Int32.toInt (F_23_o 19 (by decide))
  have r_33 : 0 ≤ (F_23 20).toInt ∧ (F_23 20).toInt ≤ 32 := hF_23 20
  have f_34 : (F_23 20).toInt = (F_8 20).toInt := congrArg Int32.toInt (F_23_o 20 (by decide))
  have LF_23A_24 : LSm l A A_24 := LF_8A_9.fr _ A_24_o (by decide)
  have NF_23A_24 : NCm F_23 A_24 := NF_8A_9.fr0 (F_23_o 19 (by decide)) (F_23_o 20 (by decide)) (fun q hq => A_24_o q (by simp))
  have aF_23A_24 : ai A_24 17 (F_23 19).toInt = ai A 17 (F 19).toInt := by rw [ai_fr (A_24_o 17 (by decide)), F_23_o 19 (by decide)] <;> exact aF_8A_9
  have l_35 : (6 : Int32).toInt = 6 := by decide
  have e_36 := i_mulL (c := 6) (k := 6) (x := (F_8 19)) (by decide) (by omega) (by omega)
  have e_37 := i_add (x := (6 * (F_8 19))) (y := v_20) (by omega) (by omega)
  refine ok_st (j := 18) hA_24 (by omega) (by omega) (trivial) ?_
  intro A_38 hA_38 A_38_o A_38_s A_38_n
  have LF_23A_38 : LSm l A A_38 := LF_23A_24.st hl.1 6 rfl A_38_o A_38_n ⟨by omega, by omega⟩ (by omega)
  have NF_23A_38 : NCm F_23 A_38 := NF_23A_24.fr0 rfl rfl (fun q hq => A_38_o q (by omega))
  have aF_23A_38 : ai A_38 17 (F_23 19).toInt = ai A 17 (F 19).toInt := by rw [ai_fr (A_38_o 17 (by decide))] <;> exact aF_23A_24
  refine ok_call (s_d_must hF_23 hA_38) ?_
  rintro ⟨u_39, F_40, A_41, J_42⟩ ⟨hF_40, hA_41, F_40_o, A_41_o, u_39_p⟩
  dsimp only at hF_40 hA_41 F_40_o A_41_o u_39_p ⊢
  have u_39_p : (((F_23 13).toInt = 0 ∧ (F_40 11).toInt = (F_23 11).toInt + 1 ∧ (F_40 13).toInt = 0) ∨ ((F_40 11).toInt = (F_23 11).toInt ∧ 1 ≤ (F_40 13).toInt)) := u_39_p
  have r_43 : 0 ≤ (F_40 11).toInt ∧ (F_40 11).toInt ≤ 400 := hF_40 11
  have r_44 : 0 ≤ (F_40 13).toInt ∧ (F_40 13).toInt ≤ 5 := hF_40 13
  have r_45 : 0 ≤ (F_40 15).toInt ∧ (F_40 15).toInt ≤ 5 := hF_40 15
  have f_46 : (F_40 15).toInt = (F_23 15).toInt := congrArg Int32.toInt (F_40_o 15 (by decide))
  have r_47 : 0 ≤ (F_40 18).toInt ∧ (F_40 18).toInt ≤ 1 := hF_40 18
  have f_48 : (F_40 18).toInt = (F_23 18).toInt := congrArg Int32.toInt (F_40_o 18 (by decide))
  have r_49 : 0 ≤ (F_40 19).toInt ∧ (F_40 19).toInt ≤ 1 := hF_40 19
  have f_50 : (F_40 19).toInt = (F_23 19).toInt := congrArg Int32.toInt (F_40_o 19 (by decide))
  have r_51 : 0 ≤ (F_40 20).toInt ∧ (F_40 20).toInt ≤ 32 := hF_40 20
  have f_52 : (F_40 20).toInt = (F_23 20).toInt := congrArg Int32.toInt (F_40_o 20 (by decide))
  have LF_40A_41 : LSm l A A_41 := LF_23A_38.fr _ A_41_o (by decide)
  have NF_40A_41 : NCm F_40 A_41 := NF_23A_38.fr0 (F_40_o 19 (by decide)) (F_40_o 20 (by decide)) (fun q hq => A_41_o q (by simp))
  have aF_40A_41 : ai A_41 17 (F_40 19).toInt = ai A 17 (F 19).toInt := by rw [ai_fr (A_41_o 17 (by decide)), F_40_o 19 (by decide)] <;> exact aF_23A_38
  refine ok_cond (fun c_53 => ?_) (fun c_53 => ?_)
  · rw [i_le] at c_53
    refine ok_ld (j := 17) hA_41 (by omega) (by omega) ?_
    intro v_54 v_54_e v_54_r
    have v_54_r : 0 ≤ v_54.toInt ∧ v_54.toInt ≤ 6 := v_54_r
    refine ok_call (s_d_notes hF_40 hA_41 (by omega) (by omega) (by omega)) ?_
    rintro ⟨u_55, F_56, A_57, J_58⟩ ⟨hF_56, hA_57, F_56_o, A_57_o, u_55_p⟩
    dsimp only at hF_56 hA_57 F_56_o A_57_o u_55_p ⊢
    have u_55_p : (F_56 20).toInt = (F_40 20).toInt + 1 ∧ ai A_57 9 (F_40 20).toInt = (1 : Int32).toInt ∧ ai A_57 10 (F_40 20).toInt = v_54.toInt ∧ (∀ q, 0 ≤ q → q ≠ (F_40 20).toInt → ai A_57 9 q = ai A_41 9 q ∧ ai A_57 10 q = ai A_41 10 q) := u_55_p
    have r_59 : 0 ≤ (F_56 11).toInt ∧ (F_56 11).toInt ≤ 400 := hF_56 11
    have f_60 : (F_56 11).toInt = (F_40 11).toInt := congrArg Int32.toInt (F_56_o 11 (by decide))
    have r_61 : 0 ≤ (F_56 13).toInt ∧ (F_56 13).toInt ≤ 5 := hF_56 13
    have f_62 : (F_56 13).toInt = (F_40 13).toInt := congrArg Int32.toInt (F_56_o 13 (by decide))
    have r_63 : 0 ≤ (F_56 15).toInt ∧ (F_56 15).toInt ≤ 5 := hF_56 15
    have f_64 : (F_56 15).toInt = (F_40 15).toInt := congrArg Int32.toInt (F_56_o 15 (by decide))
    have r_65 : 0 ≤ (F_56 18).toInt ∧ (F_56 18).toInt ≤ 1 := hF_56 18
    have f_66 : (F_56 18).toInt = (F_40 18).toInt := congrArg Int32.toInt (F_56_o 18 (by decide))
    have r_67 : 0 ≤ (F_56 19).toInt ∧ (F_56 19).toInt ≤ 1 := hF_56 19
    have f_68 : (F_56 19).toInt = (F_40 19).toInt := congrArg Int32.toInt (F_56_o 19 (by decide))
    have r_69 : 0 ≤ (F_56 20).toInt ∧ (F_56 20).toInt ≤ 32 := hF_56 20
    have LF_56A_57 : LSm l A A_57 := LF_40A_41.fr _ A_57_o (by decide)
    have aF_56A_57 : ai A_57 17 (F_56 19).toInt = ai A 17 (F 19).toInt := by rw [ai_fr (A_57_o 17 (by decide)), F_56_o 19 (by decide)] <;> exact aF_40A_41
    refine ok_ld (j := 17) hA_57 (by omega) (by omega) ?_
    intro v_70 v_70_e v_70_r
    have v_70_r : 0 ≤ v_70.toInt ∧ v_70.toInt ≤ 6 := v_70_r
    have l_71 : (1 : Int32).toInt = 1 := by decide
    have e_72 := i_add (x := v_70) (y := 1) (by omega) (by omega)
    refine ok_st (j := 17) hA_57 (by omega) (by omega) (⟨by omega, by omega⟩) ?_
    intro A_73 hA_73 A_73_o A_73_s A_73_n
    have LF_56A_73 : LSm l A A_73 := LF_56A_57.st hl.1 1 rfl A_73_o A_73_n ⟨by omega, by omega⟩ (by omega)
    have e19 : F_56 19 = F_40 19 := F_56_o 19 (by decide)
    have zr : ai A_73 17 (F_40 19).toInt = ai A_41 17 (F_40 19).toInt + 1 := by rw [← e19, A_73_s, ← ai_fr (A_57_o 17 (by decide))]; omega
    have NZ : NCm F_56 A_73 := NCm.add (r := 17) NF_40A_41 (by omega) e19 u_55_p A_57_o A_73_o v_54_e zr
    refine ok_some ?_
    refine ⟨hF_56, hA_73, (fun q hq => ((((F_56_o q (fun e => hq ((by decide : ∀ x, x ∈ ([20] : List Nat) → x ∈ ([11, 13, 14, 15, 16, 20] : List Nat)) q e))).trans (F_40_o q (fun e => hq ((by decide : ∀ x, x ∈ ([11, 13, 14] : List Nat) → x ∈ ([11, 13, 14, 15, 16, 20] : List Nat)) q e)))).trans (F_23_o q (fun e => hq ((by decide : ∀ x, x ∈ ([11, 13, 14, 15, 16] : List Nat) → x ∈ ([11, 13, 14, 15, 16, 20] : List Nat)) q e)))).trans (F_8_o q (fun e => hq ((by decide : ∀ x, x ∈ ([11, 13, 14, 15, 16] : List Nat) → x ∈ ([11, 13, 14, 15, 16, 20] : List Nat)) q e))))), (fun q hq => ((((((A_73_o q (fun e => hq (by rw [e]; decide))).trans (A_57_o q (fun e => hq ((by decide : ∀ x, x ∈ ([9, 10] : List Nat) → x ∈ ([9, 10, 17, 18] : List Nat)) q e)))).trans (A_41_o q (fun e => hq ((by decide : ∀ x, x ∈ ([] : List Nat) → x ∈ ([9, 10, 17, 18] : List Nat)) q e)))).trans (A_38_o q (fun e => hq (by rw [e]; decide)))).trans (A_24_o q (fun e => hq ((by decide : ∀ x, x ∈ ([] : List Nat) → x ∈ ([9, 10, 17, 18] : List Nat)) q e)))).trans (A_9_o q (fun e => hq ((by decide : ∀ x, x ∈ ([] : List Nat) → x ∈ ([9, 10, 17, 18] : List Nat)) q e))))), ?_⟩
    first | exact ⟨NZ, LF_56A_73, by (try dsimp only) <;> omega, by (try dsimp only) <;> omega, by (try dsimp only) <;> omega⟩ | exact ⟨NF_56A_73, LF_56A_73, by (try dsimp only) <;> omega, by (try dsimp only) <;> omega, by (try dsimp only) <;> omega⟩
  · rw [i_nle] at c_53
    refine ok_some ?_
    refine ⟨hF_40, hA_41, (fun q hq => (((F_40_o q (fun e => hq ((by decide : ∀ x, x ∈ ([11, 13, 14] : List Nat) → x ∈ ([11, 13, 14, 15, 16, 20] : List Nat)) q e))).trans (F_23_o q (fun e => hq ((by decide : ∀ x, x ∈ ([11, 13, 14, 15, 16] : List Nat) → x ∈ ([11, 13, 14, 15, 16, 20] : List Nat)) q e)))).trans (F_8_o q (fun e => hq ((by decide : ∀ x, x ∈ ([11, 13, 14, 15, 16] : List Nat) → x ∈ ([11, 13, 14, 15, 16, 20] : List Nat)) q e))))), (fun q hq => ((((A_41_o q (fun e => hq ((by decide : ∀ x, x ∈ ([] : List Nat) → x ∈ ([9, 10, 17, 18] : List Nat)) q e))).trans (A_38_o q (fun e => hq (by rw [e]; decide)))).trans (A_24_o q (fun e => hq ((by decide : ∀ x, x ∈ ([] : List Nat) → x ∈ ([9, 10, 17, 18] : List Nat)) q e)))).trans (A_9_o q (fun e => hq ((by decide : ∀ x, x ∈ ([] : List Nat) → x ∈ ([9, 10, 17, 18] : List Nat)) q e))))), ?_⟩
    first | exact ⟨NZ, LF_40A_41, by (try dsimp only) <;> omega, by (try dsimp only) <;> omega, by (try dsimp only) <;> omega⟩ | exact ⟨NF_40A_41, LF_40A_41, by (try dsimp only) <;> omega, by (try dsimp only) <;> omega, by (try dsimp only) <;> omega⟩
