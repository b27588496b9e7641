set_option maxRecDepth 10000 in
theorem s_d_tellMan_118 {n : Nat} {l : Int} {F : Nat → Int32} {A : Nat → Nat → Int32} {J : Nat → Nat → Int64} {x2 : Int32} (hF : IFm F) (hA : IAm A) (hl : 0 ≤ l ∧ (F 18).toInt = l ∧ (F 19).toInt = 1 - l) (NFA : NCm F A) (hr : ai A 29 (F 19).toInt < 6) (rx2 : 0 ≤ x2.toInt ∧ x2.toInt ≤ 402) : ok (d_tellMan_118 n F A J x2) (fun r => IFm r.2.1 ∧ IAm r.2.2.1 ∧ (∀ q, q ∉ ([11, 13, 14, 20] : List Nat) → r.2.1 q = F q) ∧ (∀ q, q ∉ ([9, 10, 29] : List Nat) → r.2.2.1 q = A q) ∧ NCm r.2.1 r.2.2.1 ∧ LSm l A r.2.2.1 ∧ (F 15).toInt ≤ 5 * (r.2.1 15).toInt ∧ (F 11).toInt ≤ (r.2.1 11).toInt ∧ (F 13).toInt ≤ 5 * (r.2.1 13).toInt ∧ (1 ≤ (r.2.1 13).toInt ∨ ai r.2.2.1 29 (F 19).toInt = ai A 29 (F 19).toInt + 1)) := by
  have r18 : 0 ≤ (F 18).toInt ∧ (F 18).toInt ≤ 1 := hF 18
  have LFA : LSm l A A := LSm.rfl' l A
  have ct := NFA.2
  unfold CTm at ct
  have g11 : 0 ≤ ai A 11 (F 19).toInt ∧ ai A 11 (F 19).toInt ≤ 8 := hA 11 _ (by have := hF 19; exact this.1)
  have g12 : 0 ≤ ai A 12 (F 19).toInt ∧ ai A 12 (F 19).toInt ≤ 12 := hA 12 _ (by have := hF 19; exact this.1)
  have g17 : 0 ≤ ai A 17 (F 19).toInt ∧ ai A 17 (F 19).toInt ≤ 6 := hA 17 _ (by have := hF 19; exact this.1)
  have g19 : 0 ≤ ai A 19 (F 19).toInt ∧ ai A 19 (F 19).toInt ≤ 6 := hA 19 _ (by have := hF 19; exact this.1)
  have g29 : 0 ≤ ai A 29 (F 19).toInt ∧ ai A 29 (F 19).toInt ≤ 6 := hA 29 _ (by have := hF 19; exact this.1)
  have aFA : ai A 29 (F 19).toInt = ai A 29 (F 19).toInt := rfl
  have r_1 : 0 ≤ (F 11).toInt ∧ (F 11).toInt ≤ 400 := hF 11
  have r_2 : 0 ≤ (F 13).toInt ∧ (F 13).toInt ≤ 5 := hF 13
  have r_3 : 0 ≤ (F 15).toInt ∧ (F 15).toInt ≤ 5 := hF 15
  have r_4 : 0 ≤ (F 18).toInt ∧ (F 18).toInt ≤ 1 := hF 18
  have r_5 : 0 ≤ (F 19).toInt ∧ (F 19).toInt ≤ 1 := hF 19
  have r_6 : 0 ≤ (F 20).toInt ∧ (F 20).toInt ≤ 32 := hF 20
  unfold d_tellMan_118
  refine ok_call (l_d_must hF hA) ?_
  rintro ⟨u_7, F_8, A_9, J_10⟩ ⟨hF_8, hA_9, F_8_o, A_9_o, u_7_p⟩
  dsimp only at hF_8 hA_9 F_8_o A_9_o u_7_p ⊢
  change (F 11).toInt ≤ (F_8 11).toInt ∧ (F 13).toInt ≤ 5 * (F_8 13).toInt at u_7_p
  have r_11 : 0 ≤ (F_8 11).toInt ∧ (F_8 11).toInt ≤ 400 := hF_8 11
  have r_12 : 0 ≤ (F_8 13).toInt ∧ (F_8 13).toInt ≤ 5 := hF_8 13
  have r_13 : 0 ≤ (F_8 15).toInt ∧ (F_8 15).toInt ≤ 5 := hF_8 15
  have f_14 : (F_8 15).toInt = (F 15).toInt := congrArg Int32.toInt (F_8_o 15 (by decide))
  have r_15 : 0 ≤ (F_8 18).toInt ∧ (F_8 18).toInt ≤ 1 := hF_8 18
  have f_16 : (F_8 18).toInt = (F 18).toInt := congrArg Int32.toInt (F_8_o 18 (by decide))
  have r_17 : 0 ≤ (F_8 19).toInt ∧ (F_8 19).toInt ≤ 1 := hF_8 19
  have f_18 : (F_8 19).toInt = (F 19).toInt := congrArg Int32.toInt (F_8_o 19 (by decide))
  have r_19 : 0 ≤ (F_8 20).toInt ∧ (F_8 20).toInt ≤ 32 := hF_8 20
  have f_20 : (F_8 20).toInt = (F 20).toInt := congrArg Int32.toInt (F_8_o 20 (by decide))
  have LF_8A_9 : LSm l A A_9 := LFA.fr _ A_9_o (by decide)
  have NF_8A_9 : NCm F_8 A_9 := NFA.fr0 (F_8_o 19 (by decide)) (F_8_o 20 (by decide)) (fun q hq => A_9_o q (by simp))
  have aF_8A_9 : ai A_9 29 (F_8 19).toInt = ai A 29 (F 19).toInt := by rw [ai_fr (A_9_o 29 (by decide)), F_8_o 19 (by decide)] <;> exact aFA
  have l_21 : (0 : Int32).toInt = 0 := by decide
  refine ok_cond (fun c_22 => ?_) (fun c_22 => ?_)
  · rw [i_le] at c_22
    refine ok_ld (j := 29) hA_9 (by omega) (by omega) ?_
    intro v_23 v_23_e v_23_r
    change 0 ≤ v_23.toInt ∧ v_23.toInt ≤ 6 at v_23_r
    refine ok_call (s_d_notes hF_8 hA_9 (by omega) (by omega) (by omega)) ?_
    rintro ⟨u_24, F_25, A_26, J_27⟩ ⟨hF_25, hA_26, F_25_o, A_26_o, u_24_p⟩
    dsimp only at hF_25 hA_26 F_25_o A_26_o u_24_p ⊢
    change (F_25 20).toInt = (F_8 20).toInt + 1 ∧ ai A_26 9 (F_8 20).toInt = (3 : Int32).toInt ∧ ai A_26 10 (F_8 20).toInt = v_23.toInt ∧ (∀ q, 0 ≤ q → q ≠ (F_8 20).toInt → ai A_26 9 q = ai A_9 9 q ∧ ai A_26 10 q = ai A_9 10 q) at u_24_p
    have r_28 : 0 ≤ (F_25 11).toInt ∧ (F_25 11).toInt ≤ 400 := hF_25 11
    have f_29 : (F_25 11).toInt = (F_8 11).toInt := congrArg Int32.toInt (F_25_o 11 (by decide))
    have r_30 : 0 ≤ (F_25 13).toInt ∧ (F_25 13).toInt ≤ 5 := hF_25 13
    have f_31 : (F_25 13).toInt = (F_8 13).toInt := congrArg Int32.toInt (F_25_o 13 (by decide))
    have r_32 : 0 ≤ (F_25 15).toInt ∧ (F_25 15).toInt ≤ 5 := hF_25 15
    have f_33 : (F_25 15).toInt = (F_8 15).toInt := congrArg Int32.toInt (F_25_o 15 (by decide))
    have r_34 : 0 ≤ (F_25 18).toInt ∧ (F_25 18).toInt ≤ 1 := hF_25 18
    have f_35 : (F_25 18).toInt = (F_8 18).toInt := congrArg Int32.toInt (F_25_o 18 (by decide))
    have r_36 : 0 ≤ (F_25 19).toInt ∧ (F_25 19).toInt ≤ 1 := hF_25 19
    have f_37 : (F_25 19).toInt = (F_8 19).toInt := congrArg Int32.toInt (F_25_o 19 (by decide))
    have r_38 : 0 ≤ (F_25 20).toInt ∧ (F_25 20).toInt ≤ 32 := hF_25 20
    have LF_25A_26 : LSm l A A_26 := LF_8A_9.fr _ A_26_o (by decide)
    have aF_25A_26 : ai A_26 29 (F_25 19).toInt = ai A 29 (F 19).toInt := by rw [ai_fr (A_26_o 29 (by decide)), F_25_o 19 (by decide)] <;> exact aF_8A_9
    refine ok_ld (j := 29) hA_26 (by omega) (by omega) ?_
    intro v_39 v_39_e v_39_r
    change 0 ≤ v_39.toInt ∧ v_39.toInt ≤ 6 at v_39_r
    have l_40 : (1 : Int32).toInt = 1 := by decide
    have e_41 := i_add (x := v_39) (y := 1) (by omega) (by omega)
    refine ok_st (j := 29) hA_26 (by omega) (by omega) (⟨by omega, by omega⟩) ?_
    intro A_42 hA_42 A_42_o A_42_s A_42_n
    have LF_25A_42 : LSm l A A_42 := LF_25A_26.st hl.1 1 rfl A_42_o A_42_n ⟨by omega, by omega⟩ (by omega)
    have e19 : F_25 19 = F_8 19 := F_25_o 19 (by decide)
    have zr : ai A_42 29 (F_8 19).toInt = ai A_9 29 (F_8 19).toInt + 1 := by rw [← e19, A_42_s, ← ai_fr (A_26_o 29 (by decide))]; omega
    have NZ : NCm F_25 A_42 := NCm.add (r := 29) NF_8A_9 (.inr (.inr (.inr ⟨rfl, by decide⟩))) e19 u_24_p A_26_o A_42_o v_23_e zr
    have zz : ai A_42 29 (F 19).toInt = ai A 29 (F 19).toInt + 1 := (congrArg (ai A_42 29) (show (F 19).toInt = (F_25 19).toInt by omega)).trans (A_42_s.trans (by omega))
    refine ok_some ?_
    refine ⟨hF_25, hA_42, (fun q hq => ((F_25_o q (fun e => hq ((by decide : ∀ x, x ∈ ([20] : List Nat) → x ∈ ([11, 13, 14, 20] : List Nat)) q e))).trans (F_8_o q (fun e => hq ((by decide : ∀ x, x ∈ ([11, 13, 14] : List Nat) → x ∈ ([11, 13, 14, 20] : List Nat)) q e))))), (fun q hq => (((A_42_o q (fun e => hq (by rw [e]; decide))).trans (A_26_o q (fun e => hq ((by decide : ∀ x, x ∈ ([9, 10] : List Nat) → x ∈ ([9, 10, 29] : List Nat)) q e)))).trans (A_9_o q (fun e => hq ((by decide : ∀ x, x ∈ ([] : List Nat) → x ∈ ([9, 10, 29] : List Nat)) q e))))), ?_⟩
    first | exact ⟨NZ, LF_25A_42, by (try dsimp only) <;> omega, by (try dsimp only) <;> omega, by (try dsimp only) <;> omega, .inr zz⟩ | exact ⟨NF_25A_42, LF_25A_42, by (try dsimp only) <;> omega, by (try dsimp only) <;> omega, by (try dsimp only) <;> omega, .inl (by (try dsimp only) <;> omega)⟩
  · rw [i_nle] at c_22
    refine ok_some ?_
    refine ⟨hF_8, hA_9, (fun q hq => (F_8_o q (fun e => hq ((by decide : ∀ x, x ∈ ([11, 13, 14] : List Nat) → x ∈ ([11, 13, 14, 20] : List Nat)) q e)))), (fun q hq => (A_9_o q (fun e => hq ((by decide : ∀ x, x ∈ ([] : List Nat) → x ∈ ([9, 10, 29] : List Nat)) q e)))), ?_⟩
    first | exact ⟨NZ, LF_8A_9, by (try dsimp only) <;> omega, by (try dsimp only) <;> omega, by (try dsimp only) <;> omega, .inr zz⟩ | exact ⟨NF_8A_9, LF_8A_9, by (try dsimp only) <;> omega, by (try dsimp only) <;> omega, by (try dsimp only) <;> omega, .inl (by (try dsimp only) <;> omega)⟩
set_option maxRecDepth 10000 in
theorem s_d_tellMan_114 {n : Nat} {l : Int} {F : Nat → Int32} {A : Nat → Nat → Int32} {J : Nat → Nat → Int64} {x2 : Int32} {s1 : Int32} {s3 : Int32} {s4 : Int32} (hF : IFm F) (hA : IAm A) (hl : 0 ≤ l ∧ (F 18).toInt = l ∧ (F 19).toInt = 1 - l) (NFA : NCm F A) (hr : ai A 29 (F 19).toInt < 6) (hi : 6 * (F 19).toInt ≤ s1.toInt ∧ s1.toInt < 6 * (F 19).toInt + 6) (rx2 : 0 ≤ x2.toInt ∧ x2.toInt ≤ 402) (rs3 : 0 ≤ s3.toInt ∧ s3.toInt ≤ 1) (rs4 : -1 ≤ s4.toInt ∧ s4.toInt ≤ 9999) : ok (d_tellMan_114 n F A J x2 s1 s3 s4) (fun r => IFm r.2.1 ∧ IAm r.2.2.1 ∧ (∀ q, q ∉ ([11, 13, 14, 15, 16, 20] : List Nat) → r.2.1 q = F q) ∧ (∀ q, q ∉ ([9, 10, 29, 32] : List Nat) → r.2.2.1 q = A q) ∧ NCm r.2.1 r.2.2.1 ∧ LSm l A r.2.2.1 ∧ (F 15).toInt ≤ 5 * (r.2.1 15).toInt ∧ (F 11).toInt ≤ (r.2.1 11).toInt ∧ (F 13).toInt ≤ 5 * (r.2.1 13).toInt ∧ (1 ≤ (r.2.1 13).toInt ∨ ai r.2.2.1 29 (F 19).toInt = ai A 29 (F 19).toInt + 1) ∧ (∀ i, 0 ≤ i → i ≠ s1.toInt → ai r.2.2.1 32 i = ai A 32 i) ∧ 0 ≤ ai r.2.2.1 32 s1.toInt ∧ ai r.2.2.1 32 s1.toInt ≤ s4.toInt + 1000000 * ((r.2.1 13).toInt + (r.2.1 15).toInt)) := by
  have r18 : 0 ≤ (F 18).toInt ∧ (F 18).toInt ≤ 1 := hF 18
  have LFA : LSm l A A := LSm.rfl' l A
  have ct := NFA.2
  unfold CTm at ct
  have g11 : 0 ≤ ai A 11 (F 19).toInt ∧ ai A 11 (F 19).toInt ≤ 8 := hA 11 _ (by have := hF 19; exact this.1)
  have g12 : 0 ≤ ai A 12 (F 19).toInt ∧ ai A 12 (F 19).toInt ≤ 12 := hA 12 _ (by have := hF 19; exact this.1)
  have g17 : 0 ≤ ai A 17 (F 19).toInt ∧ ai A 17 (F 19).toInt ≤ 6 := hA 17 _ (by have := hF 19; exact this.1)
  have g19 : 0 ≤ ai A 19 (F 19).toInt ∧ ai A 19 (F 19).toInt ≤ 6 := hA 19 _ (by have := hF 19; exact this.1)
  have g29 : 0 ≤ ai A 29 (F 19).toInt ∧ ai A 29 (F 19).toInt ≤ 6 := hA 29 _ (by have := hF 19; exact this.1)
  have aFA : ai A 29 (F 19).toInt = ai A 29 (F 19).toInt := rfl
  have dFA : ∀ i, 0 ≤ i → i ≠ s1.toInt → ai A 32 i = ai A 32 i := fun _ _ _ => rfl
  have r_1 : 0 ≤ (F 11).toInt ∧ (F 11).toInt ≤ 400 := hF 11
  have r_2 : 0 ≤ (F 13).toInt ∧ (F 13).toInt ≤ 5 := hF 13
  have r_3 : 0 ≤ (F 15).toInt ∧ (F 15).toInt ≤ 5 := hF 15
  have r_4 : 0 ≤ (F 18).toInt ∧ (F 18).toInt ≤ 1 := hF 18
  have r_5 : 0 ≤ (F 19).toInt ∧ (F 19).toInt ≤ 1 := hF 19
  have r_6 : 0 ≤ (F 20).toInt ∧ (F 20).toInt ≤ 32 := hF 20
  unfold d_tellMan_114
  refine ok_call (l_d_bounded hF hA (by omega) (by omega)) ?_
  rintro ⟨v_7, F_8, A_9, J_10⟩ ⟨hF_8, hA_9, F_8_o, A_9_o, v_7_p⟩
  dsimp only at hF_8 hA_9 F_8_o A_9_o v_7_p ⊢
  change 0 ≤ v_7.toInt ∧ v_7.toInt ≤ 9999 ∧ s3.toInt ≤ v_7.toInt + 10000 * ((F_8 13).toInt + (F_8 15).toInt) ∧ v_7.toInt ≤ s4.toInt + 20000 * ((F_8 13).toInt + (F_8 15).toInt) ∧ (F 11).toInt ≤ (F_8 11).toInt ∧ (F 13).toInt ≤ 5 * (F_8 13).toInt ∧ (F 15).toInt ≤ 5 * (F_8 15).toInt at v_7_p
  have r_11 : 0 ≤ (F_8 11).toInt ∧ (F_8 11).toInt ≤ 400 := hF_8 11
  have r_12 : 0 ≤ (F_8 13).toInt ∧ (F_8 13).toInt ≤ 5 := hF_8 13
  have r_13 : 0 ≤ (F_8 15).toInt ∧ (F_8 15).toInt ≤ 5 := hF_8 15
  have r_14 : 0 ≤ (F_8 18).toInt ∧ (F_8 18).toInt ≤ 1 := hF_8 18
  have f_15 : (F_8 18).toInt = (F 18).toInt := congrArg Int32.toInt (F_8_o 18 (by decide))
  have r_16 : 0 ≤ (F_8 19).toInt ∧ (F_8 19).toInt ≤ 1 := hF_8 19
  have f_17 : (F_8 19).toInt = (F 19).toInt := congrArg Int32.toInt (F_8_o 19 (by decide))
  have r_18 : 0 ≤ (F_8 20).toInt ∧ (F_8 20).toInt ≤ 32 := hF_8 20
  have f_19 : (F_8 20).toInt = (F 20).toInt := congrArg Int32.toInt (F_8_o 20 (by decide))
  have LF_8A_9 : LSm l A A_9 := LFA.fr _ A_9_o (by decide)
  have NF_8A_9 : NCm F_8 A_9 := NFA.fr0 (F_8_o 19 (by decide)) (F_8_o 20 (by decide)) (fun q hq => A_9_o q (by simp))
  have aF_8A_9 : ai A_9 29 (F_8 19).toInt = ai A 29 (F 19).toInt := by rw [ai_fr (A_9_o 29 (by decide)), F_8_o 19 (by decide)] <;> exact aFA
  have dF_8A_9 : ∀ i, 0 ≤ i → i ≠ s1.toInt → ai A_9 32 i = ai A 32 i := by rw [ai_fr (A_9_o 32 (by decide))] <;> exact dFA
  refine ok_st (j := 32) hA_9 (by omega) (by omega) (trivial) ?_
  intro A_20 hA_20 A_20_o A_20_s A_20_n
  have LF_8A_20 : LSm l A A_20 := LF_8A_9.st hl.1 6 rfl A_20_o A_20_n ⟨by omega, by omega⟩ (by omega)
  have NF_8A_20 : NCm F_8 A_20 := NF_8A_9.fr0 rfl rfl (fun q hq => A_20_o q (by omega))
  have aF_8A_20 : ai A_20 29 (F_8 19).toInt = ai A 29 (F 19).toInt := by rw [ai_fr (A_20_o 29 (by decide))] <;> exact aF_8A_9
  have dF_8A_20 : ∀ i, 0 ≤ i → i ≠ s1.toInt → ai A_20 32 i = ai A 32 i := fun i h0 h1 => (A_20_n i h0 (by omega)).trans (dF_8A_9 i h0 h1)
  have wF_8A_20 : ai A_20 32 (s1.toInt) = v_7.toInt := A_20_s
  refine ok_call (l_d_must hF_8 hA_20) ?_
  rintro ⟨u_21, F_22, A_23, J_24⟩ ⟨hF_22, hA_23, F_22_o, A_23_o, u_21_p⟩
  dsimp only at hF_22 hA_23 F_22_o A_23_o u_21_p ⊢
  change (F_8 11).toInt ≤ (F_22 11).toInt ∧ (F_8 13).toInt ≤ 5 * (F_22 13).toInt at u_21_p
  have r_25 : 0 ≤ (F_22 11).toInt ∧ (F_22 11).toInt ≤ 400 := hF_22 11
  have r_26 : 0 ≤ (F_22 13).toInt ∧ (F_22 13).toInt ≤ 5 := hF_22 13
  have r_27 : 0 ≤ (F_22 15).toInt ∧ (F_22 15).toInt ≤ 5 := hF_22 15
  have f_28 : (F_22 15).toInt = (F_8 15).toInt := congrArg Int32.toInt (F_22_o 15 (by decide))
  have r_29 : 0 ≤ (F_22 18).toInt ∧ (F_22 18).toInt ≤ 1 := hF_22 18
  have f_30 : (F_22 18).toInt = (F_8 18).toInt := congrArg Int32.toInt (F_22_o 18 (by decide))
  have r_31 : 0 ≤ (F_22 19).toInt ∧ (F_22 19).toInt ≤ 1 := hF_22 19
  have f_32 : (F_22 19).toInt = (F_8 19).toInt := congrArg Int32.toInt (F_22_o 19 (by decide))
  have r_33 : 0 ≤ (F_22 20).toInt ∧ (F_22 20).toInt ≤ 32 := hF_22 20
  have f_34 : (F_22 20).toInt = (F_8 20).toInt := congrArg Int32.toInt (F_22_o 20 (by decide))
  have LF_22A_23 : LSm l A A_23 := LF_8A_20.fr _ A_23_o (by decide)
  have NF_22A_23 : NCm F_22 A_23 := NF_8A_20.fr0 (F_22_o 19 (by decide)) (F_22_o 20 (by decide)) (fun q hq => A_23_o q (by simp))
  have aF_22A_23 : ai A_23 29 (F_22 19).toInt = ai A 29 (F 19).toInt := by rw [ai_fr (A_23_o 29 (by decide)), F_22_o 19 (by decide)] <;> exact aF_8A_20
  have dF_22A_23 : ∀ i, 0 ≤ i → i ≠ s1.toInt → ai A_23 32 i = ai A 32 i := by rw [ai_fr (A_23_o 32 (by decide))] <;> exact dF_8A_20
  have wF_22A_23 : ai A_23 32 (s1.toInt) = v_7.toInt := by rw [ai_fr (A_23_o 32 (by decide))] <;> exact wF_8A_20
  have l_35 : (0 : Int32).toInt = 0 := by decide
  refine ok_cond (fun c_36 => ?_) (fun c_36 => ?_)
  · rw [i_le] at c_36
    refine ok_ld (j := 29) hA_23 (by omega) (by omega) ?_
    intro v_37 v_37_e v_37_r
    change 0 ≤ v_37.toInt ∧ v_37.toInt ≤ 6 at v_37_r
    refine ok_call (s_d_notes hF_22 hA_23 (by omega) (by omega) (by omega)) ?_
    rintro ⟨u_38, F_39, A_40, J_41⟩ ⟨hF_39, hA_40, F_39_o, A_40_o, u_38_p⟩
    dsimp only at hF_39 hA_40 F_39_o A_40_o u_38_p ⊢
    change (F_39 20).toInt = (F_22 20).toInt + 1 ∧ ai A_40 9 (F_22 20).toInt = (3 : Int32).toInt ∧ ai A_40 10 (F_22 20).toInt = v_37.toInt ∧ (∀ q, 0 ≤ q → q ≠ (F_22 20).toInt → ai A_40 9 q = ai A_23 9 q ∧ ai A_40 10 q = ai A_23 10 q) at u_38_p
    have r_42 : 0 ≤ (F_39 11).toInt ∧ (F_39 11).toInt ≤ 400 := hF_39 11
    have f_43 : (F_39 11).toInt = (F_22 11).toInt := congrArg Int32.toInt (F_39_o 11 (by decide))
    have r_44 : 0 ≤ (F_39 13).toInt ∧ (F_39 13).toInt ≤ 5 := hF_39 13
    have f_45 : (F_39 13).toInt = (F_22 13).toInt := congrArg Int32.toInt (F_39_o 13 (by decide))
    have r_46 : 0 ≤ (F_39 15).toInt ∧ (F_39 15).toInt ≤ 5 := hF_39 15
    have f_47 : (F_39 15).toInt = (F_22 15).toInt := congrArg Int32.toInt (F_39_o 15 (by decide))
    have r_48 : 0 ≤ (F_39 18).toInt ∧ (F_39 18).toInt ≤ 1 := hF_39 18
    have f_49 : (F_39 18).toInt = (F_22 18).toInt := congrArg Int32.toInt (F_39_o 18 (by decide))
    have r_50 : 0 ≤ (F_39 19).toInt ∧ (F_39 19).toInt ≤ 1 := hF_39 19
    have f_51 : (F_39 19).toInt = (F_22 19).toInt := congrArg Int32.toInt (F_39_o 19 (by decide))
    have r_52 : 0 ≤ (F_39 20).toInt ∧ (F_39 20).toInt ≤ 32 := hF_39 20
    have LF_39A_40 : LSm l A A_40 := LF_22A_23.fr _ A_40_o (by decide)
    have aF_39A_40 : ai A_40 29 (F_39 19).toInt = ai A 29 (F 19).toInt := by rw [ai_fr (A_40_o 29 (by decide)), F_39_o 19 (by decide)] <;> exact aF_22A_23
    have dF_39A_40 : ∀ i, 0 ≤ i → i ≠ s1.toInt → ai A_40 32 i = ai A 32 i := by rw [ai_fr (A_40_o 32 (by decide))] <;> exact dF_22A_23
    have wF_39A_40 : ai A_40 32 (s1.toInt) = v_7.toInt := by rw [ai_fr (A_40_o 32 (by decide))] <;> exact wF_22A_23
    refine ok_ld (j := 29) hA_40 (by omega) (by omega) ?_
    intro v_53 v_53_e v_53_r
    change 0 ≤ v_53.toInt ∧ v_53.toInt ≤ 6 at v_53_r
    have l_54 : (1 : Int32).toInt = 1 := by decide
    have e_55 := i_add (x := v_53) (y := 1) (by omega) (by omega)
    refine ok_st (j := 29) hA_40 (by omega) (by omega) (⟨by omega, by omega⟩) ?_
    intro A_56 hA_56 A_56_o A_56_s A_56_n
    have LF_39A_56 : LSm l A A_56 := LF_39A_40.st hl.1 1 rfl A_56_o A_56_n ⟨by omega, by omega⟩ (by omega)
    have dF_39A_56 : ∀ i, 0 ≤ i → i ≠ s1.toInt → ai A_56 32 i = ai A 32 i := by rw [ai_fr (A_56_o 32 (by decide))] <;> exact dF_39A_40
    have wF_39A_56 : ai A_56 32 (s1.toInt) = v_7.toInt := by rw [ai_fr (A_56_o 32 (by decide))] <;> exact wF_39A_40
    have e19 : F_39 19 = F_22 19 := F_39_o 19 (by decide)
    have zr : ai A_56 29 (F_22 19).toInt = ai A_23 29 (F_22 19).toInt + 1 := by rw [← e19, A_56_s, ← ai_fr (A_40_o 29 (by decide))]; omega
    have NZ : NCm F_39 A_56 := NCm.add (r := 29) NF_22A_23 (.inr (.inr (.inr ⟨rfl, by decide⟩))) e19 u_38_p A_40_o A_56_o v_37_e zr
    have zz : ai A_56 29 (F 19).toInt = ai A 29 (F 19).toInt + 1 := (congrArg (ai A_56 29) (show (F 19).toInt = (F_39 19).toInt by omega)).trans (A_56_s.trans (by omega))
    refine ok_some ?_
    refine ⟨hF_39, hA_56, (fun q hq => (((F_39_o q (fun e => hq ((by decide : ∀ x, x ∈ ([20] : List Nat) → x ∈ ([11, 13, 14, 15, 16, 20] : List Nat)) q e))).trans (F_22_o q (fun e => hq ((by decide : ∀ x, x ∈ ([11, 13, 14] : List Nat) → x ∈ ([11, 13, 14, 15, 16, 20] : List Nat)) q e)))).trans (F_8_o q (fun e => hq ((by decide : ∀ x, x ∈ ([11, 13, 14, 15, 16] : List Nat) → x ∈ ([11, 13, 14, 15, 16, 20] : List Nat)) q e))))), (fun q hq => (((((A_56_o q (fun e => hq (by rw [e]; decide))).trans (A_40_o q (fun e => hq ((by decide : ∀ x, x ∈ ([9, 10] : List Nat) → x ∈ ([9, 10, 29, 32] : List Nat)) q e)))).trans (A_23_o q (fun e => hq ((by decide : ∀ x, x ∈ ([] : List Nat) → x ∈ ([9, 10, 29, 32] : List Nat)) q e)))).trans (A_20_o q (fun e => hq (by rw [e]; decide)))).trans (A_9_o q (fun e => hq ((by decide : ∀ x, x ∈ ([] : List Nat) → x ∈ ([9, 10, 29, 32] : List Nat)) q e))))), ?_⟩
    first | exact ⟨NZ, LF_39A_56, by (try dsimp only) <;> omega, by (try dsimp only) <;> omega, by (try dsimp only) <;> omega, .inr zz, dF_39A_56, by rw [wF_39A_56]; omega, by rw [wF_39A_56]; dsimp only; omega⟩ | exact ⟨NF_39A_56, LF_39A_56, by (try dsimp only) <;> omega, by (try dsimp only) <;> omega, by (try dsimp only) <;> omega, .inl (by (try dsimp only) <;> omega), dF_39A_56, by rw [wF_39A_56]; omega, by rw [wF_39A_56]; dsimp only; omega⟩
  · rw [i_nle] at c_36
    refine ok_some ?_
    refine ⟨hF_22, hA_23, (fun q hq => ((F_22_o q (fun e => hq ((by decide : ∀ x, x ∈ ([11, 13, 14] : List Nat) → x ∈ ([11, 13, 14, 15, 16, 20] : List Nat)) q e))).trans (F_8_o q (fun e => hq ((by decide : ∀ x, x ∈ ([11, 13, 14, 15, 16] : List Nat) → x ∈ ([11, 13, 14, 15, 16, 20] : List Nat)) q e))))), (fun q hq => (((A_23_o q (fun e => hq ((by decide : ∀ x, x ∈ ([] : List Nat) → x ∈ ([9, 10, 29, 32] : List Nat)) q e))).trans (A_20_o q (fun e => hq (by rw [e]; decide)))).trans (A_9_o q (fun e => hq ((by decide : ∀ x, x ∈ ([] : List Nat) → x ∈ ([9, 10, 29, 32] : List Nat)) q e))))), ?_⟩
    first | exact ⟨NZ, LF_22A_23, by (try dsimp only) <;> omega, by (try dsimp only) <;> omega, by (try dsimp only) <;> omega, .inr zz, dF_22A_23, by rw [wF_22A_23]; omega, by rw [wF_22A_23]; dsimp only; omega⟩ | exact ⟨NF_22A_23, LF_22A_23, by (try dsimp only) <;> omega, by (try dsimp only) <;> omega, by (try dsimp only) <;> omega, .inl (by (try dsimp only) <;> omega), dF_22A_23, by rw [wF_22A_23]; omega, by rw [wF_22A_23]; dsimp only; omega⟩
