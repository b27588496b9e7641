set_option maxRecDepth 10000 in
set_option maxHeartbeats 4000000 in
theorem s_d_tellMan {n : Nat} {l : Int} {F : Nat → Int32} {A : Nat → Nat → Int32} {J : Nat → Nat → Int64}  (hF : IFm F) (hA : IAm A) (hn : 50 ≤ n) (hl : 0 ≤ l ∧ (F 18).toInt = l ∧ (F 19).toInt = 1 - l) (NFA : NCm F A) (hr : ai A 29 (F 19).toInt < 6) (h13 : (F 13).toInt = 0) : ok (d_tellMan n F A J) (fun r => IFm r.2.1 ∧ IAm r.2.2.1 ∧ (∀ q, q ∉ ([11, 13, 14, 15, 16, 20] : List Nat) → r.2.1 q = F q) ∧ (∀ q, q ∉ ([9, 10, 29, 30, 31, 32] : List Nat) → r.2.2.1 q = A q) ∧ NCm r.2.1 r.2.2.1 ∧ LSm l A r.2.2.1 ∧ (F 15).toInt ≤ 5 * (r.2.1 15).toInt ∧ (F 11).toInt ≤ (r.2.1 11).toInt ∧ (1 ≤ (r.2.1 13).toInt ∨ 1 ≤ (r.2.1 15).toInt ∨ (XMm A (F 19).toInt → XMm r.2.2.1 (F 19).toInt))) := by
  have r18 : 0 ≤ (F 18).toInt ∧ (F 18).toInt ≤ 1 := hF 18
  have LFA : LSm l A A := LSm.rfl' l A
  have g19 : 0 ≤ ai A 19 (F 19).toInt ∧ ai A 19 (F 19).toInt ≤ 6 := hA 19 _ (by have := hF 19; exact this.1)
  have g29 : 0 ≤ ai A 29 (F 19).toInt ∧ ai A 29 (F 19).toInt ≤ 6 := hA 29 _ (by have := hF 19; exact this.1)
  have aFA : ai A 29 (F 19).toInt = ai A 29 (F 19).toInt := rfl
  have tFA : ai A 19 (F 19).toInt = ai A 19 (F 19).toInt := rfl
  have bFA : ∀ i, 0 ≤ i → i ≠ 6 * (F 19).toInt + ai A 29 (F 19).toInt → ai A 30 i = ai A 30 i := fun _ _ _ => rfl
  have cFA : ∀ i, 0 ≤ i → i ≠ 6 * (F 19).toInt + ai A 29 (F 19).toInt → ai A 31 i = ai A 31 i := fun _ _ _ => rfl
  have dFA : ∀ i, 0 ≤ i → i ≠ 6 * (F 19).toInt + ai A 29 (F 19).toInt → ai A 32 i = ai A 32 i := fun _ _ _ => rfl
  have KFA : ∀ q, q = 19 ∨ q = 22 → A q = A q := fun _ _ => rfl
  have r_1 : 0 ≤ (F 11).toInt ∧ (F 11).toInt ≤ 400 := hF 11
  have r_2 : 0 ≤ (F 13).toInt ∧ (F 13).toInt ≤ 5 := hF 13
  have r_3 : 0 ≤ (F 15).toInt ∧ (F 15).toInt ≤ 5 := hF 15
  have r_4 : 0 ≤ (F 18).toInt ∧ (F 18).toInt ≤ 1 := hF 18
  have r_5 : 0 ≤ (F 19).toInt ∧ (F 19).toInt ≤ 1 := hF 19
  unfold d_tellMan
  refine ok_ld (j := 29) hA (by omega) (by omega) ?_
  intro v_6 v_6_e v_6_r
  change 0 ≤ v_6.toInt ∧ v_6.toInt ≤ 6 at v_6_r
  refine ok_call (l_d_named hF hA (by omega)) ?_
  rintro ⟨v_7, F_8, A_9, J_10⟩ ⟨hF_8, hA_9, F_8_o, A_9_o, v_7_p⟩
  dsimp only at hF_8 hA_9 F_8_o A_9_o v_7_p ⊢
  change v_7 = F 11 ∧ (F 11).toInt ≤ (F_8 11).toInt ∧ (F 13).toInt ≤ 5 * (F_8 13).toInt ∧ (F 15).toInt ≤ 5 * (F_8 15).toInt at v_7_p
  have r_11 : 0 ≤ (F_8 11).toInt ∧ (F_8 11).toInt ≤ 400 := hF_8 11
  have r_12 : 0 ≤ (F_8 13).toInt ∧ (F_8 13).toInt ≤ 5 := hF_8 13
  have r_13 : 0 ≤ (F_8 15).toInt ∧ (F_8 15).toInt ≤ 5 := hF_8 15
  have r_14 : 0 ≤ (F_8 18).toInt ∧ (F_8 18).toInt ≤ 1 := hF_8 18
  have f_15 : (F_8 18).toInt = (F 18).toInt := congrArg Int32.toInt (F_8_o 18 (by decide))
  have r_16 : 0 ≤ (F_8 19).toInt ∧ (F_8 19).toInt ≤ 1 := hF_8 19
  have f_17 : (F_8 19).toInt = (F 19).toInt := congrArg Int32.toInt (F_8_o 19 (by decide))
  have LF_8A_9 : LSm l A A_9 := LFA.fr _ A_9_o (by decide)
  have NF_8A_9 : NCm F_8 A_9 := NFA.fr0 (F_8_o 19 (by decide)) (F_8_o 20 (by decide)) (fun q hq => A_9_o q (by simp))
  have aF_8A_9 : ai A_9 29 (F_8 19).toInt = ai A 29 (F 19).toInt := by rw [ai_fr (A_9_o 29 (by decide)), F_8_o 19 (by decide)] <;> exact aFA
  have tF_8A_9 : ai A_9 19 (F_8 19).toInt = ai A 19 (F 19).toInt := by rw [ai_fr (A_9_o 19 (by decide)), F_8_o 19 (by decide)] <;> exact tFA
  have bF_8A_9 : ∀ i, 0 ≤ i → i ≠ 6 * (F 19).toInt + ai A 29 (F 19).toInt → ai A_9 30 i = ai A 30 i := by rw [ai_fr (A_9_o 30 (by decide))] <;> exact bFA
  have cF_8A_9 : ∀ i, 0 ≤ i → i ≠ 6 * (F 19).toInt + ai A 29 (F 19).toInt → ai A_9 31 i = ai A 31 i := by rw [ai_fr (A_9_o 31 (by decide))] <;> exact cFA
  have dF_8A_9 : ∀ i, 0 ≤ i → i ≠ 6 * (F 19).toInt + ai A 29 (F 19).toInt → ai A_9 32 i = ai A 32 i := by rw [ai_fr (A_9_o 32 (by decide))] <;> exact dFA
  have KF_8A_9 : ∀ q, q = 19 ∨ q = 22 → A_9 q = A q := fun q hq => (A_9_o q (by rcases hq with rfl | rfl <;> decide)).trans (KFA q hq)
  rw [v_7_p.1]
  have l_18 : (0 : Int32).toInt = 0 := by decide
  refine ok_call (l_d_known hF_8 hA_9 (by omega) (NF_8A_9.1) (by omega)) ?_
  rintro ⟨v_19, F_20, A_21, J_22⟩ ⟨hF_20, hA_21, F_20_o, A_21_o, v_19_p⟩
  dsimp only at hF_20 hA_21 F_20_o A_21_o v_19_p ⊢
  change -1 ≤ v_19.toInt ∧ v_19.toInt ≤ 7 ∧ 0 ≤ v_19.toInt + (F_20 13).toInt + (F_20 15).toInt ∧ (F_8 11).toInt ≤ (F_20 11).toInt ∧ (F_8 13).toInt ≤ 5 * (F_20 13).toInt ∧ (F_8 15).toInt ≤ 5 * (F_20 15).toInt ∧ ((0 : Int32).toInt = 0 → v_19.toInt < ai A_9 11 (F_8 19).toInt) ∧ ((0 : Int32).toInt = 1 → v_19.toInt < ai A_9 17 (F_8 19).toInt) ∧ ((0 : Int32).toInt = 2 → v_19.toInt < ai A_9 19 (F_8 19).toInt) ∧ ((0 : Int32).toInt = 3 → v_19.toInt < ai A_9 29 (F_8 19).toInt) at v_19_p
  obtain ⟨v_19_0, v_19_1, v_19_2, v_19_3, v_19_4, v_19_5, v_19_6, v_19_7, v_19_8, v_19_9⟩ := v_19_p
  first | have v_19_s := v_19_6 (by decide) | have v_19_s := v_19_7 (by decide) | have v_19_s := v_19_8 (by decide) | have v_19_s := v_19_9 (by decide)
  clear v_19_6 v_19_7 v_19_8 v_19_9
  have r_23 : 0 ≤ (F_20 11).toInt ∧ (F_20 11).toInt ≤ 400 := hF_20 11
  have r_24 : 0 ≤ (F_20 13).toInt ∧ (F_20 13).toInt ≤ 5 := hF_20 13
  have r_25 : 0 ≤ (F_20 15).toInt ∧ (F_20 15).toInt ≤ 5 := hF_20 15
  have r_26 : 0 ≤ (F_20 18).toInt ∧ (F_20 18).toInt ≤ 1 := hF_20 18
  have f_27 : (F_20 18).toInt = (F_8 18).toInt := congrArg Int32.toInt (F_20_o 18 (by decide))
  have r_28 : 0 ≤ (F_20 19).toInt ∧ (F_20 19).toInt ≤ 1 := hF_20 19
  have f_29 : (F_20 19).toInt = (F_8 19).toInt := congrArg Int32.toInt (F_20_o 19 (by decide))
  have LF_20A_21 : LSm l A A_21 := LF_8A_9.fr _ A_21_o (by decide)
  have NF_20A_21 : NCm F_20 A_21 := NF_8A_9.fr0 (F_20_o 19 (by decide)) (F_20_o 20 (by decide)) (fun q hq => A_21_o q (by simp))
  have aF_20A_21 : ai A_21 29 (F_20 19).toInt = ai A 29 (F 19).toInt := by rw [ai_fr (A_21_o 29 (by decide)), F_20_o 19 (by decide)] <;> exact aF_8A_9
  have tF_20A_21 : ai A_21 19 (F_20 19).toInt = ai A 19 (F 19).toInt := by rw [ai_fr (A_21_o 19 (by decide)), F_20_o 19 (by decide)] <;> exact tF_8A_9
  have bF_20A_21 : ∀ i, 0 ≤ i → i ≠ 6 * (F 19).toInt + ai A 29 (F 19).toInt → ai A_21 30 i = ai A 30 i := by rw [ai_fr (A_21_o 30 (by decide))] <;> exact bF_8A_9
  have cF_20A_21 : ∀ i, 0 ≤ i → i ≠ 6 * (F 19).toInt + ai A 29 (F 19).toInt → ai A_21 31 i = ai A 31 i := by rw [ai_fr (A_21_o 31 (by decide))] <;> exact cF_8A_9
  have dF_20A_21 : ∀ i, 0 ≤ i → i ≠ 6 * (F 19).toInt + ai A 29 (F 19).toInt → ai A_21 32 i = ai A 32 i := by rw [ai_fr (A_21_o 32 (by decide))] <;> exact dF_8A_9
  have KF_20A_21 : ∀ q, q = 19 ∨ q = 22 → A_21 q = A q := fun q hq => (A_21_o q (by rcases hq with rfl | rfl <;> decide)).trans (KF_8A_9 q hq)
  have l_30 : (6 : Int32).toInt = 6 := by decide
  have e_31 := i_mulL (c := 6) (k := 6) (x := (F 19)) (by decide) (by omega) (by omega)
  have e_32 := i_add (x := (6 * (F 19))) (y := v_6) (by omega) (by omega)
  refine ok_st (j := 30) hA_21 (by omega) (by omega) (⟨by omega, by omega⟩) ?_
  intro A_33 hA_33 A_33_o A_33_s A_33_n
  have LF_20A_33 : LSm l A A_33 := LF_20A_21.st hl.1 6 rfl A_33_o A_33_n ⟨by omega, by omega⟩ (by omega)
  have NF_20A_33 : NCm F_20 A_33 := NF_20A_21.fr0 rfl rfl (fun q hq => A_33_o q (by omega))
  have aF_20A_33 : ai A_33 29 (F_20 19).toInt = ai A 29 (F 19).toInt := by rw [ai_fr (A_33_o 29 (by decide))] <;> exact aF_20A_21
  have tF_20A_33 : ai A_33 19 (F_20 19).toInt = ai A 19 (F 19).toInt := by rw [ai_fr (A_33_o 19 (by decide))] <;> exact tF_20A_21
  have bF_20A_33 : ∀ i, 0 ≤ i → i ≠ 6 * (F 19).toInt + ai A 29 (F 19).toInt → ai A_33 30 i = ai A 30 i := fun i h0 h1 => (A_33_n i h0 (by omega)).trans (bF_20A_21 i h0 h1)
  have cF_20A_33 : ∀ i, 0 ≤ i → i ≠ 6 * (F 19).toInt + ai A 29 (F 19).toInt → ai A_33 31 i = ai A 31 i := by rw [ai_fr (A_33_o 31 (by decide))] <;> exact cF_20A_21
  have dF_20A_33 : ∀ i, 0 ≤ i → i ≠ 6 * (F 19).toInt + ai A 29 (F 19).toInt → ai A_33 32 i = ai A 32 i := by rw [ai_fr (A_33_o 32 (by decide))] <;> exact dF_20A_21
  have KF_20A_33 : ∀ q, q = 19 ∨ q = 22 → A_33 q = A q := fun q hq => (A_33_o q (by omega)).trans (KF_20A_21 q hq)
  have pF_20A_33 : ai A_33 30 (6 * (F 19).toInt + ai A 29 (F 19).toInt) = v_19.toInt := by rw [show 6 * (F 19).toInt + ai A 29 (F 19).toInt = (6 * F 19 + v_6).toInt by omega]; exact A_33_s
  have l_34 : (-1 : Int32).toInt = -1 := by decide
  refine ok_st (j := 31) hA_33 (by omega) (by omega) (⟨by omega, by omega⟩) ?_
  intro A_35 hA_35 A_35_o A_35_s A_35_n
  have LF_20A_35 : LSm l A A_35 := LF_20A_33.st hl.1 6 rfl A_35_o A_35_n ⟨by omega, by omega⟩ (by omega)
  have NF_20A_35 : NCm F_20 A_35 := NF_20A_33.fr0 rfl rfl (fun q hq => A_35_o q (by omega))
  have aF_20A_35 : ai A_35 29 (F_20 19).toInt = ai A 29 (F 19).toInt := by rw [ai_fr (A_35_o 29 (by decide))] <;> exact aF_20A_33
  have tF_20A_35 : ai A_35 19 (F_20 19).toInt = ai A 19 (F 19).toInt := by rw [ai_fr (A_35_o 19 (by decide))] <;> exact tF_20A_33
  have bF_20A_35 : ∀ i, 0 ≤ i → i ≠ 6 * (F 19).toInt + ai A 29 (F 19).toInt → ai A_35 30 i = ai A 30 i := by rw [ai_fr (A_35_o 30 (by decide))] <;> exact bF_20A_33
  have cF_20A_35 : ∀ i, 0 ≤ i → i ≠ 6 * (F 19).toInt + ai A 29 (F 19).toInt → ai A_35 31 i = ai A 31 i := fun i h0 h1 => (A_35_n i h0 (by omega)).trans (cF_20A_33 i h0 h1)
  have dF_20A_35 : ∀ i, 0 ≤ i → i ≠ 6 * (F 19).toInt + ai A 29 (F 19).toInt → ai A_35 32 i = ai A 32 i := by rw [ai_fr (A_35_o 32 (by decide))] <;> exact dF_20A_33
  have pF_20A_35 : ai A_35 30 (6 * (F 19).toInt + ai A 29 (F 19).toInt) = v_19.toInt := by rw [ai_fr (A_35_o 30 (by decide))] <;> exact pF_20A_33
  have KF_20A_35 : ∀ q, q = 19 ∨ q = 22 → A_35 q = A q := fun q hq => (A_35_o q (by omega)).trans (KF_20A_33 q hq)
  have qF_20A_35 : ai A_35 31 (6 * (F 19).toInt + ai A 29 (F 19).toInt) = -1 := by rw [show 6 * (F 19).toInt + ai A 29 (F 19).toInt = (6 * F 19 + v_6).toInt by omega]; exact A_35_s
  refine ok_st (j := 32) hA_35 (by omega) (by omega) (trivial) ?_
  intro A_36 hA_36 A_36_o A_36_s A_36_n
  have LF_20A_36 : LSm l A A_36 := LF_20A_35.st hl.1 6 rfl A_36_o A_36_n ⟨by omega, by omega⟩ (by omega)
  have NF_20A_36 : NCm F_20 A_36 := NF_20A_35.fr0 rfl rfl (fun q hq => A_36_o q (by omega))
  have aF_20A_36 : ai A_36 29 (F_20 19).toInt = ai A 29 (F 19).toInt := by rw [ai_fr (A_36_o 29 (by decide))] <;> exact aF_20A_35
  have tF_20A_36 : ai A_36 19 (F_20 19).toInt = ai A 19 (F 19).toInt := by rw [ai_fr (A_36_o 19 (by decide))] <;> exact tF_20A_35
  have bF_20A_36 : ∀ i, 0 ≤ i → i ≠ 6 * (F 19).toInt + ai A 29 (F 19).toInt → ai A_36 30 i = ai A 30 i := by rw [ai_fr (A_36_o 30 (by decide))] <;> exact bF_20A_35
  have cF_20A_36 : ∀ i, 0 ≤ i → i ≠ 6 * (F 19).toInt + ai A 29 (F 19).toInt → ai A_36 31 i = ai A 31 i := by rw [ai_fr (A_36_o 31 (by decide))] <;> exact cF_20A_35
  have dF_20A_36 : ∀ i, 0 ≤ i → i ≠ 6 * (F 19).toInt + ai A 29 (F 19).toInt → ai A_36 32 i = ai A 32 i := fun i h0 h1 => (A_36_n i h0 (by omega)).trans (dF_20A_35 i h0 h1)
  have pF_20A_36 : ai A_36 30 (6 * (F 19).toInt + ai A 29 (F 19).toInt) = v_19.toInt := by rw [ai_fr (A_36_o 30 (by decide))] <;> exact pF_20A_35
  have qF_20A_36 : ai A_36 31 (6 * (F 19).toInt + ai A 29 (F 19).toInt) = -1 := by rw [ai_fr (A_36_o 31 (by decide))] <;> exact qF_20A_35
  have KF_20A_36 : ∀ q, q = 19 ∨ q = 22 → A_36 q = A q := fun q hq => (A_36_o q (by omega)).trans (KF_20A_35 q hq)
  refine ok_cond (fun c_37 => ?_) (fun c_37 => ?_)
  · rw [i_ne] at c_37
    refine ok_mono (s_d_tellMan_118 (l := l) hF_20 hA_36 (by omega) (NF_20A_36) (by omega) (by omega)) ?_
    rintro ⟨v_38, F_39, A_40, J_41⟩ ⟨hF_39, hA_40, F_39_o, A_40_o, v_38_p⟩
    dsimp only at hF_39 hA_40 F_39_o A_40_o v_38_p ⊢
    change NCm F_39 A_40 ∧ LSm l A_36 A_40 ∧ (F_20 15).toInt ≤ 5 * (F_39 15).toInt ∧ (F_20 11).toInt ≤ (F_39 11).toInt ∧ (F_20 13).toInt ≤ 5 * (F_39 13).toInt ∧ (1 ≤ (F_39 13).toInt ∨ ai A_40 29 (F_20 19).toInt = ai A_36 29 (F_20 19).toInt + 1) at v_38_p
    have r_42 : 0 ≤ (F_39 11).toInt ∧ (F_39 11).toInt ≤ 400 := hF_39 11
    have r_43 : 0 ≤ (F_39 13).toInt ∧ (F_39 13).toInt ≤ 5 := hF_39 13
    have r_44 : 0 ≤ (F_39 15).toInt ∧ (F_39 15).toInt ≤ 5 := hF_39 15
    have f_45 : (F_39 15).toInt = (F_20 15).toInt := congrArg Int32.toInt (F_39_o 15 (by decide))
    have r_46 : 0 ≤ (F_39 18).toInt ∧ (F_39 18).toInt ≤ 1 := hF_39 18
    have f_47 : (F_39 18).toInt = (F_20 18).toInt := congrArg Int32.toInt (F_39_o 18 (by decide))
    have r_48 : 0 ≤ (F_39 19).toInt ∧ (F_39 19).toInt ≤ 1 := hF_39 19
    have f_49 : (F_39 19).toInt = (F_20 19).toInt := congrArg Int32.toInt (F_39_o 19 (by decide))
    have LF_39A_40 : LSm l A A_40 := LF_20A_36.tr v_38_p.2.1
    have NF_39A_40 : NCm F_39 A_40 := v_38_p.1
    have tF_39A_40 : ai A_40 19 (F_39 19).toInt = ai A 19 (F 19).toInt := by rw [ai_fr (A_40_o 19 (by decide)), F_39_o 19 (by decide)] <;> exact tF_20A_36
    have bF_39A_40 : ∀ i, 0 ≤ i → i ≠ 6 * (F 19).toInt + ai A 29 (F 19).toInt → ai A_40 30 i = ai A 30 i := by rw [ai_fr (A_40_o 30 (by decide))] <;> exact bF_20A_36
    have cF_39A_40 : ∀ i, 0 ≤ i → i ≠ 6 * (F 19).toInt + ai A 29 (F 19).toInt → ai A_40 31 i = ai A 31 i := by rw [ai_fr (A_40_o 31 (by decide))] <;> exact cF_20A_36
    have dF_39A_40 : ∀ i, 0 ≤ i → i ≠ 6 * (F 19).toInt + ai A 29 (F 19).toInt → ai A_40 32 i = ai A 32 i := by rw [ai_fr (A_40_o 32 (by decide))] <;> exact dF_20A_36
    have pF_39A_40 : ai A_40 30 (6 * (F 19).toInt + ai A 29 (F 19).toInt) = v_19.toInt := by rw [ai_fr (A_40_o 30 (by decide))] <;> exact pF_20A_36
    have qF_39A_40 : ai A_40 31 (6 * (F 19).toInt + ai A 29 (F 19).toInt) = -1 := by rw [ai_fr (A_40_o 31 (by decide))] <;> exact qF_20A_36
    have KF_39A_40 : ∀ q, q = 19 ∨ q = 22 → A_40 q = A q := fun q hq => (A_40_o q (by rcases hq with rfl | rfl <;> decide)).trans (KF_20A_36 q hq)
    have xs : 1 ≤ (F_39 13).toInt ∨ 1 ≤ (F_39 15).toInt ∨ (XMm A (F 19).toInt → XMm A_40 (F 19).toInt) := by
      rcases v_38_p.2.2.2.2.2 with h | h
      · exact .inl h
      · have zz : ai A_40 29 (F 19).toInt = ai A 29 (F 19).toInt + 1 := (congrArg (ai A_40 29) (show (F 19).toInt = (F_20 19).toInt by omega)).trans (h.trans (by omega))
        by_cases h13 : 1 ≤ (F_39 13).toInt
        · exact .inl h13
        · exact .inr ((show 1 ≤ (F_39 15).toInt ∨ 0 ≤ v_19.toInt by omega).imp id (fun h x => x.mn zz (KF_39A_40 19 (by omega)) (KF_39A_40 22 (by omega)) bF_39A_40 cF_39A_40 dF_39A_40 ⟨by rw [pF_39A_40]; exact h, fun e => absurd e (by rw [qF_39A_40]; decide)⟩ rfl (by omega)))
    refine ⟨hF_39, hA_40, (fun q hq => (((F_39_o q (fun e => hq ((by decide : ∀ x, x ∈ ([11, 13, 14, 20] : List Nat) → x ∈ ([11, 13, 14, 15, 16, 20] : List Nat)) q e))).trans (F_20_o q (fun e => hq ((by decide : ∀ x, x ∈ ([11, 13, 14, 15, 16] : List Nat) → x ∈ ([11, 13, 14, 15, 16, 20] : List Nat)) q e)))).trans (F_8_o q (fun e => hq ((by decide : ∀ x, x ∈ ([11, 13, 14, 15, 16] : List Nat) → x ∈ ([11, 13, 14, 15, 16, 20] : List Nat)) q e))))), (fun q hq => ((((((A_40_o q (fun e => hq ((by decide : ∀ x, x ∈ ([9, 10, 29] : List Nat) → x ∈ ([9, 10, 29, 30, 31, 32] : List Nat)) q e))).trans (A_36_o q (fun e => hq (by rw [e]; decide)))).trans (A_35_o q (fun e => hq (by rw [e]; decide)))).trans (A_33_o q (fun e => hq (by rw [e]; decide)))).trans (A_21_o q (fun e => hq ((by decide : ∀ x, x ∈ ([] : List Nat) → x ∈ ([9, 10, 29, 30, 31, 32] : List Nat)) q e)))).trans (A_9_o q (fun e => hq ((by decide : ∀ x, x ∈ ([] : List Nat) → x ∈ ([9, 10, 29, 30, 31, 32] : List Nat)) q e))))), ?_⟩
    exact ⟨NF_39A_40, LF_39A_40, by (try dsimp only) <;> omega, by (try dsimp only) <;> omega, xs⟩
  · rw [i_nne] at c_37
    refine ok_call (l_d_is hF_20 hA_36) ?_
    intro v_50 v_50_p
    change 0 ≤ v_50.toInt ∧ v_50.toInt ≤ 1 at v_50_p
    refine ok_cond (fun c_51 => ?_) (fun c_51 => ?_)
    · rw [i_eq] at c_51
      refine ok_mono (s_d_tellMan_118 (l := l) hF_20 hA_36 (by omega) (NF_20A_36) (by omega) (by omega)) ?_
      rintro ⟨v_52, F_53, A_54, J_55⟩ ⟨hF_53, hA_54, F_53_o, A_54_o, v_52_p⟩
      dsimp only at hF_53 hA_54 F_53_o A_54_o v_52_p ⊢
      change NCm F_53 A_54 ∧ LSm l A_36 A_54 ∧ (F_20 15).toInt ≤ 5 * (F_53 15).toInt ∧ (F_20 11).toInt ≤ (F_53 11).toInt ∧ (F_20 13).toInt ≤ 5 * (F_53 13).toInt ∧ (1 ≤ (F_53 13).toInt ∨ ai A_54 29 (F_20 19).toInt = ai A_36 29 (F_20 19).toInt + 1) at v_52_p
      have r_56 : 0 ≤ (F_53 11).toInt ∧ (F_53 11).toInt ≤ 400 := hF_53 11
      have r_57 : 0 ≤ (F_53 13).toInt ∧ (F_53 13).toInt ≤ 5 := hF_53 13
      have r_58 : 0 ≤ (F_53 15).toInt ∧ (F_53 15).toInt ≤ 5 := hF_53 15
      have f_59 : (F_53 15).toInt = (F_20 15).toInt := congrArg Int32.toInt (F_53_o 15 (by decide))
      have r_60 : 0 ≤ (F_53 18).toInt ∧ (F_53 18).toInt ≤ 1 := hF_53 18
      have f_61 : (F_53 18).toInt = (F_20 18).toInt := congrArg Int32.toInt (F_53_o 18 (by decide))
      have r_62 : 0 ≤ (F_53 19).toInt ∧ (F_53 19).toInt ≤ 1 := hF_53 19
      have f_63 : (F_53 19).toInt = (F_20 19).toInt := congrArg Int32.toInt (F_53_o 19 (by decide))
      have LF_53A_54 : LSm l A A_54 := LF_20A_36.tr v_52_p.2.1
      have NF_53A_54 : NCm F_53 A_54 := v_52_p.1
      have tF_53A_54 : ai A_54 19 (F_53 19).toInt = ai A 19 (F 19).toInt := by rw [ai_fr (A_54_o 19 (by decide)), F_53_o 19 (by decide)] <;> exact tF_20A_36
      have bF_53A_54 : ∀ i, 0 ≤ i → i ≠ 6 * (F 19).toInt + ai A 29 (F 19).toInt → ai A_54 30 i = ai A 30 i := by rw [ai_fr (A_54_o 30 (by decide))] <;> exact bF_20A_36
      have cF_53A_54 : ∀ i, 0 ≤ i → i ≠ 6 * (F 19).toInt + ai A 29 (F 19).toInt → ai A_54 31 i = ai A 31 i := by rw [ai_fr (A_54_o 31 (by decide))] <;> exact cF_20A_36
      have dF_53A_54 : ∀ i, 0 ≤ i → i ≠ 6 * (F 19).toInt + ai A 29 (F 19).toInt → ai A_54 32 i = ai A 32 i := by rw [ai_fr (A_54_o 32 (by decide))] <;> exact dF_20A_36
      have pF_53A_54 : ai A_54 30 (6 * (F 19).toInt + ai A 29 (F 19).toInt) = v_19.toInt := by rw [ai_fr (A_54_o 30 (by decide))] <;> exact pF_20A_36
      have qF_53A_54 : ai A_54 31 (6 * (F 19).toInt + ai A 29 (F 19).toInt) = -1 := by rw [ai_fr (A_54_o 31 (by decide))] <;> exact qF_20A_36
      have KF_53A_54 : ∀ q, q = 19 ∨ q = 22 → A_54 q = A q := fun q hq => (A_54_o q (by rcases hq with rfl | rfl <;> decide)).trans (KF_20A_36 q hq)
      have xs : 1 ≤ (F_53 13).toInt ∨ 1 ≤ (F_53 15).toInt ∨ (XMm A (F 19).toInt → XMm A_54 (F 19).toInt) := by
        rcases v_52_p.2.2.2.2.2 with h | h
        · exact .inl h
        · have zz : ai A_54 29 (F 19).toInt = ai A 29 (F 19).toInt + 1 := (congrArg (ai A_54 29) (show (F 19).toInt = (F_20 19).toInt by omega)).trans (h.trans (by omega))
          by_cases h13 : 1 ≤ (F_53 13).toInt
          · exact .inl h13
          · exact .inr ((show 1 ≤ (F_53 15).toInt ∨ 0 ≤ v_19.toInt by omega).imp id (fun h x => x.mn zz (KF_53A_54 19 (by omega)) (KF_53A_54 22 (by omega)) bF_53A_54 cF_53A_54 dF_53A_54 ⟨by rw [pF_53A_54]; exact h, fun e => absurd e (by rw [qF_53A_54]; decide)⟩ rfl (by omega)))
      refine ⟨hF_53, hA_54, (fun q hq => (((F_53_o q (fun e => hq ((by decide : ∀ x, x ∈ ([11, 13, 14, 20] : List Nat) → x ∈ ([11, 13, 14, 15, 16, 20] : List Nat)) q e))).trans (F_20_o q (fun e => hq ((by decide : ∀ x, x ∈ ([11, 13, 14, 15, 16] : List Nat) → x ∈ ([11, 13, 14, 15, 16, 20] : List Nat)) q e)))).trans (F_8_o q (fun e => hq ((by decide : ∀ x, x ∈ ([11, 13, 14, 15, 16] : List Nat) → x ∈ ([11, 13, 14, 15, 16, 20] : List Nat)) q e))))), (fun q hq => ((((((A_54_o q (fun e => hq ((by decide : ∀ x, x ∈ ([9, 10, 29] : List Nat) → x ∈ ([9, 10, 29, 30, 31, 32] : List Nat)) q e))).trans (A_36_o q (fun e => hq (by rw [e]; decide)))).trans (A_35_o q (fun e => hq (by rw [e]; decide)))).trans (A_33_o q (fun e => hq (by rw [e]; decide)))).trans (A_21_o q (fun e => hq ((by decide : ∀ x, x ∈ ([] : List Nat) → x ∈ ([9, 10, 29, 30, 31, 32] : List Nat)) q e)))).trans (A_9_o q (fun e => hq ((by decide : ∀ x, x ∈ ([] : List Nat) → x ∈ ([9, 10, 29, 30, 31, 32] : List Nat)) q e))))), ?_⟩
      exact ⟨NF_53A_54, LF_53A_54, by (try dsimp only) <;> omega, by (try dsimp only) <;> omega, xs⟩
    · rw [i_neq] at c_51
      refine ok_call (l_d_goesOn hF_20 hA_36) ?_
      rintro ⟨u_64, F_65, A_66, J_67⟩ ⟨hF_65, hA_66, F_65_o, A_66_o, u_64_p⟩
      dsimp only at hF_65 hA_66 F_65_o A_66_o u_64_p ⊢
      change (F_20 11).toInt ≤ (F_65 11).toInt ∧ (F_20 13).toInt ≤ 5 * (F_65 13).toInt at u_64_p
      have r_68 : 0 ≤ (F_65 11).toInt ∧ (F_65 11).toInt ≤ 400 := hF_65 11
      have r_69 : 0 ≤ (F_65 13).toInt ∧ (F_65 13).toInt ≤ 5 := hF_65 13
      have r_70 : 0 ≤ (F_65 15).toInt ∧ (F_65 15).toInt ≤ 5 := hF_65 15
      have f_71 : (F_65 15).toInt = (F_20 15).toInt := congrArg Int32.toInt (F_65_o 15 (by decide))
      have r_72 : 0 ≤ (F_65 18).toInt ∧ (F_65 18).toInt ≤ 1 := hF_65 18
      have f_73 : (F_65 18).toInt = (F_20 18).toInt := congrArg Int32.toInt (F_65_o 18 (by decide))
      have r_74 : 0 ≤ (F_65 19).toInt ∧ (F_65 19).toInt ≤ 1 := hF_65 19
      have f_75 : (F_65 19).toInt = (F_20 19).toInt := congrArg Int32.toInt (F_65_o 19 (by decide))
      have LF_65A_66 : LSm l A A_66 := LF_20A_36.fr _ A_66_o (by decide)
      have NF_65A_66 : NCm F_65 A_66 := NF_20A_36.fr0 (F_65_o 19 (by decide)) (F_65_o 20 (by decide)) (fun q hq => A_66_o q (by simp))
      have aF_65A_66 : ai A_66 29 (F_65 19).toInt = ai A 29 (F 19).toInt := by rw [ai_fr (A_66_o 29 (by decide)), F_65_o 19 (by decide)] <;> exact aF_20A_36
      have tF_65A_66 : ai A_66 19 (F_65 19).toInt = ai A 19 (F 19).toInt := by rw [ai_fr (A_66_o 19 (by decide)), F_65_o 19 (by decide)] <;> exact tF_20A_36
      have bF_65A_66 : ∀ i, 0 ≤ i → i ≠ 6 * (F 19).toInt + ai A 29 (F 19).toInt → ai A_66 30 i = ai A 30 i := by rw [ai_fr (A_66_o 30 (by decide))] <;> exact bF_20A_36
      have cF_65A_66 : ∀ i, 0 ≤ i → i ≠ 6 * (F 19).toInt + ai A 29 (F 19).toInt → ai A_66 31 i = ai A 31 i := by rw [ai_fr (A_66_o 31 (by decide))] <;> exact cF_20A_36
      have dF_65A_66 : ∀ i, 0 ≤ i → i ≠ 6 * (F 19).toInt + ai A 29 (F 19).toInt → ai A_66 32 i = ai A 32 i := by rw [ai_fr (A_66_o 32 (by decide))] <;> exact dF_20A_36
      have pF_65A_66 : ai A_66 30 (6 * (F 19).toInt + ai A 29 (F 19).toInt) = v_19.toInt := by rw [ai_fr (A_66_o 30 (by decide))] <;> exact pF_20A_36
      have qF_65A_66 : ai A_66 31 (6 * (F 19).toInt + ai A 29 (F 19).toInt) = -1 := by rw [ai_fr (A_66_o 31 (by decide))] <;> exact qF_20A_36
      have KF_65A_66 : ∀ q, q = 19 ∨ q = 22 → A_66 q = A q := fun q hq => (A_66_o q (by rcases hq with rfl | rfl <;> decide)).trans (KF_20A_36 q hq)
      have l_76 : (2 : Int32).toInt = 2 := by decide
      refine ok_call (l_d_known hF_65 hA_66 (by omega) (NF_65A_66.1) (by omega)) ?_
      rintro ⟨v_77, F_78, A_79, J_80⟩ ⟨hF_78, hA_79, F_78_o, A_79_o, v_77_p⟩
      dsimp only at hF_78 hA_79 F_78_o A_79_o v_77_p ⊢
      change -1 ≤ v_77.toInt ∧ v_77.toInt ≤ 7 ∧ 0 ≤ v_77.toInt + (F_78 13).toInt + (F_78 15).toInt ∧ (F_65 11).toInt ≤ (F_78 11).toInt ∧ (F_65 13).toInt ≤ 5 * (F_78 13).toInt ∧ (F_65 15).toInt ≤ 5 * (F_78 15).toInt ∧ ((2 : Int32).toInt = 0 → v_77.toInt < ai A_66 11 (F_65 19).toInt) ∧ ((2 : Int32).toInt = 1 → v_77.toInt < ai A_66 17 (F_65 19).toInt) ∧ ((2 : Int32).toInt = 2 → v_77.toInt < ai A_66 19 (F_65 19).toInt) ∧ ((2 : Int32).toInt = 3 → v_77.toInt < ai A_66 29 (F_65 19).toInt) at v_77_p
      obtain ⟨v_77_0, v_77_1, v_77_2, v_77_3, v_77_4, v_77_5, v_77_6, v_77_7, v_77_8, v_77_9⟩ := v_77_p
      first | have v_77_s := v_77_6 (by decide) | have v_77_s := v_77_7 (by decide) | have v_77_s := v_77_8 (by decide) | have v_77_s := v_77_9 (by decide)
      clear v_77_6 v_77_7 v_77_8 v_77_9
      have r_81 : 0 ≤ (F_78 11).toInt ∧ (F_78 11).toInt ≤ 400 := hF_78 11
      have r_82 : 0 ≤ (F_78 13).toInt ∧ (F_78 13).toInt ≤ 5 := hF_78 13
      have r_83 : 0 ≤ (F_78 15).toInt ∧ (F_78 15).toInt ≤ 5 := hF_78 15
      have r_84 : 0 ≤ (F_78 18).toInt ∧ (F_78 18).toInt ≤ 1 := hF_78 18
      have f_85 : (F_78 18).toInt = (F_65 18).toInt := congrArg Int32.toInt (F_78_o 18 (by decide))
      have r_86 : 0 ≤ (F_78 19).toInt ∧ (F_78 19).toInt ≤ 1 := hF_78 19
      have f_87 : (F_78 19).toInt = (F_65 19).toInt := congrArg Int32.toInt (F_78_o 19 (by decide))
      have LF_78A_79 : LSm l A A_79 := LF_65A_66.fr _ A_79_o (by decide)
      have NF_78A_79 : NCm F_78 A_79 := NF_65A_66.fr0 (F_78_o 19 (by decide)) (F_78_o 20 (by decide)) (fun q hq => A_79_o q (by simp))
      have aF_78A_79 : ai A_79 29 (F_78 19).toInt = ai A 29 (F 19).toInt := by rw [ai_fr (A_79_o 29 (by decide)), F_78_o 19 (by decide)] <;> exact aF_65A_66
      have tF_78A_79 : ai A_79 19 (F_78 19).toInt = ai A 19 (F 19).toInt := by rw [ai_fr (A_79_o 19 (by decide)), F_78_o 19 (by decide)] <;> exact tF_65A_66
      have bF_78A_79 : ∀ i, 0 ≤ i → i ≠ 6 * (F 19).toInt + ai A 29 (F 19).toInt → ai A_79 30 i = ai A 30 i := by rw [ai_fr (A_79_o 30 (by decide))] <;> exact bF_65A_66
      have cF_78A_79 : ∀ i, 0 ≤ i → i ≠ 6 * (F 19).toInt + ai A 29 (F 19).toInt → ai A_79 31 i = ai A 31 i := by rw [ai_fr (A_79_o 31 (by decide))] <;> exact cF_65A_66
      have dF_78A_79 : ∀ i, 0 ≤ i → i ≠ 6 * (F 19).toInt + ai A 29 (F 19).toInt → ai A_79 32 i = ai A 32 i := by rw [ai_fr (A_79_o 32 (by decide))] <;> exact dF_65A_66
      have pF_78A_79 : ai A_79 30 (6 * (F 19).toInt + ai A 29 (F 19).toInt) = v_19.toInt := by rw [ai_fr (A_79_o 30 (by decide))] <;> exact pF_65A_66
      have qF_78A_79 : ai A_79 31 (6 * (F 19).toInt + ai A 29 (F 19).toInt) = -1 := by rw [ai_fr (A_79_o 31 (by decide))] <;> exact qF_65A_66
      have KF_78A_79 : ∀ q, q = 19 ∨ q = 22 → A_79 q = A q := fun q hq => (A_79_o q (by rcases hq with rfl | rfl <;> decide)).trans (KF_65A_66 q hq)
      refine ok_st (j := 31) hA_79 (by omega) (by omega) (⟨by omega, by omega⟩) ?_
      intro A_88 hA_88 A_88_o A_88_s A_88_n
      have LF_78A_88 : LSm l A A_88 := LF_78A_79.st hl.1 6 rfl A_88_o A_88_n ⟨by omega, by omega⟩ (by omega)
      have NF_78A_88 : NCm F_78 A_88 := NF_78A_79.fr0 rfl rfl (fun q hq => A_88_o q (by omega))
      have aF_78A_88 : ai A_88 29 (F_78 19).toInt = ai A 29 (F 19).toInt := by rw [ai_fr (A_88_o 29 (by decide))] <;> exact aF_78A_79
      have tF_78A_88 : ai A_88 19 (F_78 19).toInt = ai A 19 (F 19).toInt := by rw [ai_fr (A_88_o 19 (by decide))] <;> exact tF_78A_79
      have bF_78A_88 : ∀ i, 0 ≤ i → i ≠ 6 * (F 19).toInt + ai A 29 (F 19).toInt → ai A_88 30 i = ai A 30 i := by rw [ai_fr (A_88_o 30 (by decide))] <;> exact bF_78A_79
      have cF_78A_88 : ∀ i, 0 ≤ i → i ≠ 6 * (F 19).toInt + ai A 29 (F 19).toInt → ai A_88 31 i = ai A 31 i := fun i h0 h1 => (A_88_n i h0 (by omega)).trans (cF_78A_79 i h0 h1)
      have dF_78A_88 : ∀ i, 0 ≤ i → i ≠ 6 * (F 19).toInt + ai A 29 (F 19).toInt → ai A_88 32 i = ai A 32 i := by rw [ai_fr (A_88_o 32 (by decide))] <;> exact dF_78A_79
      have pF_78A_88 : ai A_88 30 (6 * (F 19).toInt + ai A 29 (F 19).toInt) = v_19.toInt := by rw [ai_fr (A_88_o 30 (by decide))] <;> exact pF_78A_79
      have KF_78A_88 : ∀ q, q = 19 ∨ q = 22 → A_88 q = A q := fun q hq => (A_88_o q (by omega)).trans (KF_78A_79 q hq)
      have sF_78A_88 : ai A_88 31 (6 * (F 19).toInt + ai A 29 (F 19).toInt) = v_77.toInt := by rw [show 6 * (F 19).toInt + ai A 29 (F 19).toInt = (6 * F 19 + v_6).toInt by omega]; exact A_88_s
      refine ok_cond (fun c_89 => ?_) (fun c_89 => ?_)
      · rw [i_ge] at c_89
        have e_90 := i_mulL (c := 6) (k := 6) (x := (F_78 19)) (by decide) (by omega) (by omega)
        have e_91 := i_add (x := (6 * (F_78 19))) (y := v_77) (by omega) (by omega)
        refine ok_ld (j := 22) hA_88 (by omega) (by omega) ?_
        intro v_92 v_92_e v_92_r
        change 0 ≤ v_92.toInt ∧ v_92.toInt ≤ 6 at v_92_r
        have w26 : v_92.toInt = ai A 22 (6 * (F 19).toInt + v_77.toInt) := by rw [v_92_e, ai_fr (KF_78A_88 22 (by omega))]; congr 1 <;> omega
        have l_93 : (1 : Int32).toInt = 1 := by decide
        have e_94 := i_sub (x := v_92) (y := 1) (by omega) (by omega)
        refine ok_mono (s_d_tellMan_114 (l := l) hF_78 hA_88 (by omega) (NF_78A_88) (by omega) (by omega) (by omega) (by omega) (by omega)) ?_
        rintro ⟨v_95, F_96, A_97, J_98⟩ ⟨hF_96, hA_97, F_96_o, A_97_o, v_95_p⟩
        dsimp only at hF_96 hA_97 F_96_o A_97_o v_95_p ⊢
        change NCm F_96 A_97 ∧ LSm l A_88 A_97 ∧ (F_78 15).toInt ≤ 5 * (F_96 15).toInt ∧ (F_78 11).toInt ≤ (F_96 11).toInt ∧ (F_78 13).toInt ≤ 5 * (F_96 13).toInt ∧ (1 ≤ (F_96 13).toInt ∨ ai A_97 29 (F_78 19).toInt = ai A_88 29 (F_78 19).toInt + 1) ∧ (∀ i, 0 ≤ i → i ≠ ((6 * (F 19)) + v_6).toInt → ai A_97 32 i = ai A_88 32 i) ∧ 0 ≤ ai A_97 32 ((6 * (F 19)) + v_6).toInt ∧ ai A_97 32 ((6 * (F 19)) + v_6).toInt ≤ (v_92 - 1).toInt + 1000000 * ((F_96 13).toInt + (F_96 15).toInt) at v_95_p
        have r_99 : 0 ≤ (F_96 11).toInt ∧ (F_96 11).toInt ≤ 400 := hF_96 11
        have r_100 : 0 ≤ (F_96 13).toInt ∧ (F_96 13).toInt ≤ 5 := hF_96 13
        have r_101 : 0 ≤ (F_96 15).toInt ∧ (F_96 15).toInt ≤ 5 := hF_96 15
        have r_102 : 0 ≤ (F_96 18).toInt ∧ (F_96 18).toInt ≤ 1 := hF_96 18
        have f_103 : (F_96 18).toInt = (F_78 18).toInt := congrArg Int32.toInt (F_96_o 18 (by decide))
        have r_104 : 0 ≤ (F_96 19).toInt ∧ (F_96 19).toInt ≤ 1 := hF_96 19
        have f_105 : (F_96 19).toInt = (F_78 19).toInt := congrArg Int32.toInt (F_96_o 19 (by decide))
        have LF_96A_97 : LSm l A A_97 := LF_78A_88.tr v_95_p.2.1
        have NF_96A_97 : NCm F_96 A_97 := v_95_p.1
        have tF_96A_97 : ai A_97 19 (F_96 19).toInt = ai A 19 (F 19).toInt := by rw [ai_fr (A_97_o 19 (by decide)), F_96_o 19 (by decide)] <;> exact tF_78A_88
        have bF_96A_97 : ∀ i, 0 ≤ i → i ≠ 6 * (F 19).toInt + ai A 29 (F 19).toInt → ai A_97 30 i = ai A 30 i := by rw [ai_fr (A_97_o 30 (by decide))] <;> exact bF_78A_88
        have cF_96A_97 : ∀ i, 0 ≤ i → i ≠ 6 * (F 19).toInt + ai A 29 (F 19).toInt → ai A_97 31 i = ai A 31 i := by rw [ai_fr (A_97_o 31 (by decide))] <;> exact cF_78A_88
        have dF_96A_97 : ∀ i, 0 ≤ i → i ≠ 6 * (F 19).toInt + ai A 29 (F 19).toInt → ai A_97 32 i = ai A 32 i := fun i h0 h1 => (v_95_p.2.2.2.2.2.2.1 i h0 (by omega)).trans (dF_78A_88 i h0 h1)
        have pF_96A_97 : ai A_97 30 (6 * (F 19).toInt + ai A 29 (F 19).toInt) = v_19.toInt := by rw [ai_fr (A_97_o 30 (by decide))] <;> exact pF_78A_88
        have sF_96A_97 : ai A_97 31 (6 * (F 19).toInt + ai A 29 (F 19).toInt) = v_77.toInt := by rw [ai_fr (A_97_o 31 (by decide))] <;> exact sF_78A_88
        have KF_96A_97 : ∀ q, q = 19 ∨ q = 22 → A_97 q = A q := fun q hq => (A_97_o q (by rcases hq with rfl | rfl <;> decide)).trans (KF_78A_88 q hq)
        have w1 := v_95_p.2.2.2.2.2.2.2.1
        have w2 := v_95_p.2.2.2.2.2.2.2.2
        have k32 : ai A_97 32 (6 * (F 19).toInt + ai A 29 (F 19).toInt) = ai A_97 32 (6 * F 19 + v_6).toInt := by congr 1; omega
        have xs : 1 ≤ (F_96 13).toInt ∨ 1 ≤ (F_96 15).toInt ∨ (XMm A (F 19).toInt → XMm A_97 (F 19).toInt) := by
          rcases v_95_p.2.2.2.2.2.1 with h | h
          · exact .inl h
          · have zz : ai A_97 29 (F 19).toInt = ai A 29 (F 19).toInt + 1 := (congrArg (ai A_97 29) (show (F 19).toInt = (F_78 19).toInt by omega)).trans (h.trans (by omega))
            by_cases h13 : 1 ≤ (F_96 13).toInt
            · exact .inl h13
            · exact .inr ((show 1 ≤ (F_96 15).toInt ∨ (0 ≤ v_19.toInt ∧ v_77.toInt < ai A 19 (F 19).toInt ∧ 0 ≤ ai A_97 32 (6 * F 19 + v_6).toInt ∧ ai A_97 32 (6 * F 19 + v_6).toInt < ai A 22 (6 * (F 19).toInt + v_77.toInt)) by omega).imp id (fun h x => x.mn zz (KF_96A_97 19 (by omega)) (KF_96A_97 22 (by omega)) bF_96A_97 cF_96A_97 dF_96A_97 ⟨by rw [pF_96A_97]; exact h.1, fun e => by rw [sF_96A_97, k32]; exact h.2⟩ rfl (by omega)))
        refine ⟨hF_96, hA_97, (fun q hq => (((((F_96_o q hq).trans (F_78_o q (fun e => hq ((by decide : ∀ x, x ∈ ([11, 13, 14, 15, 16] : List Nat) → x ∈ ([11, 13, 14, 15, 16, 20] : List Nat)) q e)))).trans (F_65_o q (fun e => hq ((by decide : ∀ x, x ∈ ([11, 13, 14] : List Nat) → x ∈ ([11, 13, 14, 15, 16, 20] : List Nat)) q e)))).trans (F_20_o q (fun e => hq ((by decide : ∀ x, x ∈ ([11, 13, 14, 15, 16] : List Nat) → x ∈ ([11, 13, 14, 15, 16, 20] : List Nat)) q e)))).trans (F_8_o q (fun e => hq ((by decide : ∀ x, x ∈ ([11, 13, 14, 15, 16] : List Nat) → x ∈ ([11, 13, 14, 15, 16, 20] : List Nat)) q e))))), (fun q hq => (((((((((A_97_o q (fun e => hq ((by decide : ∀ x, x ∈ ([9, 10, 29, 32] : List Nat) → x ∈ ([9, 10, 29, 30, 31, 32] : List Nat)) q e))).trans (A_88_o q (fun e => hq (by rw [e]; decide)))).trans (A_79_o q (fun e => hq ((by decide : ∀ x, x ∈ ([] : List Nat) → x ∈ ([9, 10, 29, 30, 31, 32] : List Nat)) q e)))).trans (A_66_o q (fun e => hq ((by decide : ∀ x, x ∈ ([] : List Nat) → x ∈ ([9, 10, 29, 30, 31, 32] : List Nat)) q e)))).trans (A_36_o q (fun e => hq (by rw [e]; decide)))).trans (A_35_o q (fun e => hq (by rw [e]; decide)))).trans (A_33_o q (fun e => hq (by rw [e]; decide)))).trans (A_21_o q (fun e => hq ((by decide : ∀ x, x ∈ ([] : List Nat) → x ∈ ([9, 10, 29, 30, 31, 32] : List Nat)) q e)))).trans (A_9_o q (fun e => hq ((by decide : ∀ x, x ∈ ([] : List Nat) → x ∈ ([9, 10, 29, 30, 31, 32] : List Nat)) q e))))), ?_⟩
        exact ⟨NF_96A_97, LF_96A_97, by (try dsimp only) <;> omega, by (try dsimp only) <;> omega, xs⟩
      · rw [i_nge] at c_89
        obtain ⟨g9999, g9999_h⟩ : ∃ c : Int32, c = 9999 := ⟨_, rfl⟩
        have g9999_v : g9999.toInt = 9999 := by rw [g9999_h]; decide
        rw [← g9999_h]
        clear g9999_h
        refine ok_mono (s_d_tellMan_114 (l := l) hF_78 hA_88 (by omega) (NF_78A_88) (by omega) (by omega) (by omega) (by omega) (by omega)) ?_
        rintro ⟨v_106, F_107, A_108, J_109⟩ ⟨hF_107, hA_108, F_107_o, A_108_o, v_106_p⟩
        dsimp only at hF_107 hA_108 F_107_o A_108_o v_106_p ⊢
        change NCm F_107 A_108 ∧ LSm l A_88 A_108 ∧ (F_78 15).toInt ≤ 5 * (F_107 15).toInt ∧ (F_78 11).toInt ≤ (F_107 11).toInt ∧ (F_78 13).toInt ≤ 5 * (F_107 13).toInt ∧ (1 ≤ (F_107 13).toInt ∨ ai A_108 29 (F_78 19).toInt = ai A_88 29 (F_78 19).toInt + 1) ∧ (∀ i, 0 ≤ i → i ≠ ((6 * (F 19)) + v_6).toInt → ai A_108 32 i = ai A_88 32 i) ∧ 0 ≤ ai A_108 32 ((6 * (F 19)) + v_6).toInt ∧ ai A_108 32 ((6 * (F 19)) + v_6).toInt ≤ g9999.toInt + 1000000 * ((F_107 13).toInt + (F_107 15).toInt) at v_106_p
        have r_110 : 0 ≤ (F_107 11).toInt ∧ (F_107 11).toInt ≤ 400 := hF_107 11
        have r_111 : 0 ≤ (F_107 13).toInt ∧ (F_107 13).toInt ≤ 5 := hF_107 13
        have r_112 : 0 ≤ (F_107 15).toInt ∧ (F_107 15).toInt ≤ 5 := hF_107 15
        have r_113 : 0 ≤ (F_107 18).toInt ∧ (F_107 18).toInt ≤ 1 := hF_107 18
        have f_114 : (F_107 18).toInt = (F_78 18).toInt := congrArg Int32.toInt (F_107_o 18 (by decide))
        have r_115 : 0 ≤ (F_107 19).toInt ∧ (F_107 19).toInt ≤ 1 := hF_107 19
        have f_116 : (F_107 19).toInt = (F_78 19).toInt := congrArg Int32.toInt (F_107_o 19 (by decide))
        have LF_107A_108 : LSm l A A_108 := LF_78A_88.tr v_106_p.2.1
        have NF_107A_108 : NCm F_107 A_108 := v_106_p.1
        have tF_107A_108 : ai A_108 19 (F_107 19).toInt = ai A 19 (F 19).toInt := by rw [ai_fr (A_108_o 19 (by decide)), F_107_o 19 (by decide)] <;> exact tF_78A_88
        have bF_107A_108 : ∀ i, 0 ≤ i → i ≠ 6 * (F 19).toInt + ai A 29 (F 19).toInt → ai A_108 30 i = ai A 30 i := by rw [ai_fr (A_108_o 30 (by decide))] <;> exact bF_78A_88
        have cF_107A_108 : ∀ i, 0 ≤ i → i ≠ 6 * (F 19).toInt + ai A 29 (F 19).toInt → ai A_108 31 i = ai A 31 i := by rw [ai_fr (A_108_o 31 (by decide))] <;> exact cF_78A_88
        have dF_107A_108 : ∀ i, 0 ≤ i → i ≠ 6 * (F 19).toInt + ai A 29 (F 19).toInt → ai A_108 32 i = ai A 32 i := fun i h0 h1 => (v_106_p.2.2.2.2.2.2.1 i h0 (by omega)).trans (dF_78A_88 i h0 h1)
        have pF_107A_108 : ai A_108 30 (6 * (F 19).toInt + ai A 29 (F 19).toInt) = v_19.toInt := by rw [ai_fr (A_108_o 30 (by decide))] <;> exact pF_78A_88
        have sF_107A_108 : ai A_108 31 (6 * (F 19).toInt + ai A 29 (F 19).toInt) = v_77.toInt := by rw [ai_fr (A_108_o 31 (by decide))] <;> exact sF_78A_88
        have KF_107A_108 : ∀ q, q = 19 ∨ q = 22 → A_108 q = A q := fun q hq => (A_108_o q (by rcases hq with rfl | rfl <;> decide)).trans (KF_78A_88 q hq)
        have w1 := v_106_p.2.2.2.2.2.2.2.1
        have w2 := v_106_p.2.2.2.2.2.2.2.2
        have k32 : ai A_108 32 (6 * (F 19).toInt + ai A 29 (F 19).toInt) = ai A_108 32 (6 * F 19 + v_6).toInt := by congr 1; omega
        have xs : 1 ≤ (F_107 13).toInt ∨ 1 ≤ (F_107 15).toInt ∨ (XMm A (F 19).toInt → XMm A_108 (F 19).toInt) := by
          rcases v_106_p.2.2.2.2.2.1 with h | h
          · exact .inl h
          · have zz : ai A_108 29 (F 19).toInt = ai A 29 (F 19).toInt + 1 := (congrArg (ai A_108 29) (show (F 19).toInt = (F_78 19).toInt by omega)).trans (h.trans (by omega))
            by_cases h13 : 1 ≤ (F_107 13).toInt
            · exact .inl h13
            · exact .inr ((show 1 ≤ (F_107 15).toInt ∨ (0 ≤ v_19.toInt ∧ v_77.toInt < ai A 19 (F 19).toInt ∧ 0 ≤ ai A_108 32 (6 * F 19 + v_6).toInt ∧ ai A_108 32 (6 * F 19 + v_6).toInt < ai A 22 (6 * (F 19).toInt + v_77.toInt)) by omega).imp id (fun h x => x.mn zz (KF_107A_108 19 (by omega)) (KF_107A_108 22 (by omega)) bF_107A_108 cF_107A_108 dF_107A_108 ⟨by rw [pF_107A_108]; exact h.1, fun e => by rw [sF_107A_108, k32]; exact h.2⟩ rfl (by omega)))
        refine ⟨hF_107, hA_108, (fun q hq => (((((F_107_o q hq).trans (F_78_o q (fun e => hq ((by decide : ∀ x, x ∈ ([11, 13, 14, 15, 16] : List Nat) → x ∈ ([11, 13, 14, 15, 16, 20] : List Nat)) q e)))).trans (F_65_o q (fun e => hq ((by decide : ∀ x, x ∈ ([11, 13, 14] : List Nat) → x ∈ ([11, 13, 14, 15, 16, 20] : List Nat)) q e)))).trans (F_20_o q (fun e => hq ((by decide : ∀ x, x ∈ ([11, 13, 14, 15, 16] : List Nat) → x ∈ ([11, 13, 14, 15, 16, 20] : List Nat)) q e)))).trans (F_8_o q (fun e => hq ((by decide : ∀ x, x ∈ ([11, 13, 14, 15, 16] : List Nat) → x ∈ ([11, 13, 14, 15, 16, 20] : List Nat)) q e))))), (fun q hq => (((((((((A_108_o q (fun e => hq ((by decide : ∀ x, x ∈ ([9, 10, 29, 32] : List Nat) → x ∈ ([9, 10, 29, 30, 31, 32] : List Nat)) q e))).trans (A_88_o q (fun e => hq (by rw [e]; decide)))).trans (A_79_o q (fun e => hq ((by decide : ∀ x, x ∈ ([] : List Nat) → x ∈ ([9, 10, 29, 30, 31, 32] : List Nat)) q e)))).trans (A_66_o q (fun e => hq ((by decide : ∀ x, x ∈ ([] : List Nat) → x ∈ ([9, 10, 29, 30, 31, 32] : List Nat)) q e)))).trans (A_36_o q (fun e => hq (by rw [e]; decide)))).trans (A_35_o q (fun e => hq (by rw [e]; decide)))).trans (A_33_o q (fun e => hq (by rw [e]; decide)))).trans (A_21_o q (fun e => hq ((by decide : ∀ x, x ∈ ([] : List Nat) → x ∈ ([9, 10, 29, 30, 31, 32] : List Nat)) q e)))).trans (A_9_o q (fun e => hq ((by decide : ∀ x, x ∈ ([] : List Nat) → x ∈ ([9, 10, 29, 30, 31, 32] : List Nat)) q e))))), ?_⟩
        exact ⟨NF_107A_108, LF_107A_108, by (try dsimp only) <;> omega, by (try dsimp only) <;> omega, xs⟩
