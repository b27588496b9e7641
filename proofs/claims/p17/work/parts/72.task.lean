set_option maxRecDepth 10000 in
theorem s_d_tellTask {n : Nat} {l : Int} {F : Nat → Int32} {A : Nat → Nat → Int32} {J : Nat → Nat → Int64}  (hF : IFm F) (hA : IAm A) (hn : 50 ≤ n) (hl : 0 ≤ l ∧ (F 18).toInt = l ∧ (F 19).toInt = 1 - l) (NFA : NCm F A) (hr : ai A 19 (F 19).toInt < 6) (h13 : (F 13).toInt = 0) : ok (d_tellTask n F A J) (fun r => IFm r.2.1 ∧ IAm r.2.2.1 ∧ (∀ q, q ∉ ([11, 13, 14, 15, 16, 20] : List Nat) → r.2.1 q = F q) ∧ (∀ q, q ∉ ([9, 10, 19, 20, 21, 22] : List Nat) → r.2.2.1 q = A q) ∧ NCm r.2.1 r.2.2.1 ∧ LSm l A r.2.2.1 ∧ (F 15).toInt ≤ 5 * (r.2.1 15).toInt ∧ (F 11).toInt ≤ (r.2.1 11).toInt ∧ (1 ≤ (r.2.1 13).toInt ∨ 1 ≤ (r.2.1 15).toInt ∨ ((XTm A (F 19).toInt → XTm r.2.2.1 (F 19).toInt) ∧ (XUm A (F 19).toInt → XUm r.2.2.1 (F 19).toInt) ∧ (XMm A (F 19).toInt → XMm r.2.2.1 (F 19).toInt)))) := by
  have r18 : 0 ≤ (F 18).toInt ∧ (F 18).toInt ≤ 1 := hF 18
  have LFA : LSm l A A := LSm.rfl' l A
  have ct := NFA.2
  unfold CTm at ct
  have g11 : 0 ≤ ai A 11 (F 19).toInt ∧ ai A 11 (F 19).toInt ≤ 8 := hA 11 _ (by have := hF 19; exact this.1)
  have g12 : 0 ≤ ai A 12 (F 19).toInt ∧ ai A 12 (F 19).toInt ≤ 12 := hA 12 _ (by have := hF 19; exact this.1)
  have g17 : 0 ≤ ai A 17 (F 19).toInt ∧ ai A 17 (F 19).toInt ≤ 6 := hA 17 _ (by have := hF 19; exact this.1)
  have g19 : 0 ≤ ai A 19 (F 19).toInt ∧ ai A 19 (F 19).toInt ≤ 6 := hA 19 _ (by have := hF 19; exact this.1)
  have g29 : 0 ≤ ai A 29 (F 19).toInt ∧ ai A 29 (F 19).toInt ≤ 6 := hA 29 _ (by have := hF 19; exact this.1)
  have aFA : ai A 19 (F 19).toInt = ai A 19 (F 19).toInt := rfl
  have bFA : ∀ i, 0 ≤ i → i ≠ 6 * (F 19).toInt + ai A 19 (F 19).toInt → ai A 20 i = ai A 20 i := fun _ _ _ => rfl
  have cFA : ∀ i, 0 ≤ i → i ≠ 6 * (F 19).toInt + ai A 19 (F 19).toInt → ai A 22 i = ai A 22 i := fun _ _ _ => rfl
  have KFA : ∀ q, q = 28 ∨ q = 29 ∨ q = 30 ∨ q = 31 ∨ q = 32 → A q = A q := fun _ _ => rfl
  have r_1 : 0 ≤ (F 11).toInt ∧ (F 11).toInt ≤ 400 := hF 11
  have r_2 : 0 ≤ (F 13).toInt ∧ (F 13).toInt ≤ 5 := hF 13
  have r_3 : 0 ≤ (F 15).toInt ∧ (F 15).toInt ≤ 5 := hF 15
  have r_4 : 0 ≤ (F 18).toInt ∧ (F 18).toInt ≤ 1 := hF 18
  have r_5 : 0 ≤ (F 19).toInt ∧ (F 19).toInt ≤ 1 := hF 19
  have r_6 : 0 ≤ (F 20).toInt ∧ (F 20).toInt ≤ 32 := hF 20
  unfold d_tellTask
  refine ok_ld (j := 19) hA (by omega) (by omega) ?_
  intro v_7 v_7_e v_7_r
  change 0 ≤ v_7.toInt ∧ v_7.toInt ≤ 6 at v_7_r
  refine ok_call (l_d_named hF hA (by omega)) ?_
  rintro ⟨v_8, F_9, A_10, J_11⟩ ⟨hF_9, hA_10, F_9_o, A_10_o, v_8_p⟩
  dsimp only at hF_9 hA_10 F_9_o A_10_o v_8_p ⊢
  change v_8 = F 11 ∧ (F 11).toInt ≤ (F_9 11).toInt ∧ (F 13).toInt ≤ 5 * (F_9 13).toInt ∧ (F 15).toInt ≤ 5 * (F_9 15).toInt at v_8_p
  have r_12 : 0 ≤ (F_9 11).toInt ∧ (F_9 11).toInt ≤ 400 := hF_9 11
  have r_13 : 0 ≤ (F_9 13).toInt ∧ (F_9 13).toInt ≤ 5 := hF_9 13
  have r_14 : 0 ≤ (F_9 15).toInt ∧ (F_9 15).toInt ≤ 5 := hF_9 15
  have r_15 : 0 ≤ (F_9 18).toInt ∧ (F_9 18).toInt ≤ 1 := hF_9 18
  have f_16 : (F_9 18).toInt = (F 18).toInt := congrArg Int32.toInt (F_9_o 18 (by decide))
  have r_17 : 0 ≤ (F_9 19).toInt ∧ (F_9 19).toInt ≤ 1 := hF_9 19
  have f_18 : (F_9 19).toInt = (F 19).toInt := congrArg Int32.toInt (F_9_o 19 (by decide))
  have r_19 : 0 ≤ (F_9 20).toInt ∧ (F_9 20).toInt ≤ 32 := hF_9 20
  have f_20 : (F_9 20).toInt = (F 20).toInt := congrArg Int32.toInt (F_9_o 20 (by decide))
  have LF_9A_10 : LSm l A A_10 := LFA.fr _ A_10_o (by decide)
  have NF_9A_10 : NCm F_9 A_10 := NFA.fr0 (F_9_o 19 (by decide)) (F_9_o 20 (by decide)) (fun q hq => A_10_o q (by simp))
  have aF_9A_10 : ai A_10 19 (F_9 19).toInt = ai A 19 (F 19).toInt := by rw [ai_fr (A_10_o 19 (by decide)), F_9_o 19 (by decide)] <;> exact aFA
  have bF_9A_10 : ∀ i, 0 ≤ i → i ≠ 6 * (F 19).toInt + ai A 19 (F 19).toInt → ai A_10 20 i = ai A 20 i := by rw [ai_fr (A_10_o 20 (by decide))] <;> exact bFA
  have cF_9A_10 : ∀ i, 0 ≤ i → i ≠ 6 * (F 19).toInt + ai A 19 (F 19).toInt → ai A_10 22 i = ai A 22 i := by rw [ai_fr (A_10_o 22 (by decide))] <;> exact cFA
  have KF_9A_10 : ∀ q, q = 28 ∨ q = 29 ∨ q = 30 ∨ q = 31 ∨ q = 32 → A_10 q = A q := fun q hq => (A_10_o q (by rcases hq with rfl | rfl | rfl | rfl | rfl <;> decide)).trans (KFA q hq)
  rw [v_8_p.1]
  have l_21 : (0 : Int32).toInt = 0 := by decide
  refine ok_call (l_d_known hF_9 hA_10 (by omega) (NF_9A_10.1) (by omega)) ?_
  rintro ⟨v_22, F_23, A_24, J_25⟩ ⟨hF_23, hA_24, F_23_o, A_24_o, v_22_p⟩
  dsimp only at hF_23 hA_24 F_23_o A_24_o v_22_p ⊢
  change -1 ≤ v_22.toInt ∧ v_22.toInt ≤ 7 ∧ 0 ≤ v_22.toInt + (F_23 13).toInt + (F_23 15).toInt ∧ (F_9 11).toInt ≤ (F_23 11).toInt ∧ (F_9 13).toInt ≤ 5 * (F_23 13).toInt ∧ (F_9 15).toInt ≤ 5 * (F_23 15).toInt ∧ ((0 : Int32).toInt = 0 → v_22.toInt < ai A_10 11 (F_9 19).toInt) ∧ ((0 : Int32).toInt = 1 → v_22.toInt < ai A_10 17 (F_9 19).toInt) ∧ ((0 : Int32).toInt = 2 → v_22.toInt < ai A_10 19 (F_9 19).toInt) ∧ ((0 : Int32).toInt = 3 → v_22.toInt < ai A_10 29 (F_9 19).toInt) at v_22_p
  obtain ⟨v_22_0, v_22_1, v_22_2, v_22_3, v_22_4, v_22_5, v_22_6, v_22_7, v_22_8, v_22_9⟩ := v_22_p
  first | have v_22_s := v_22_6 (by decide) | have v_22_s := v_22_7 (by decide) | have v_22_s := v_22_8 (by decide) | have v_22_s := v_22_9 (by decide)
  clear v_22_6 v_22_7 v_22_8 v_22_9
  have r_26 : 0 ≤ (F_23 11).toInt ∧ (F_23 11).toInt ≤ 400 := hF_23 11
  have r_27 : 0 ≤ (F_23 13).toInt ∧ (F_23 13).toInt ≤ 5 := hF_23 13
  have r_28 : 0 ≤ (F_23 15).toInt ∧ (F_23 15).toInt ≤ 5 := hF_23 15
  have r_29 : 0 ≤ (F_23 18).toInt ∧ (F_23 18).toInt ≤ 1 := hF_23 18
  have f_30 : (F_23 18).toInt = (F_9 18).toInt := congrArg Int32.toInt (F_23_o 18 (by decide))
  have r_31 : 0 ≤ (F_23 19).toInt ∧ (F_23 19).toInt ≤ 1 := hF_23 19
  have f_32 : (F_23 19).toInt = (F_9 19).toInt := congrArg Int32.toInt (F_23_o 19 (by decide))
  have r_33 : 0 ≤ (F_23 20).toInt ∧ (F_23 20).toInt ≤ 32 := hF_23 20
  have f_34 : (F_23 20).toInt = (F_9 20).toInt := congrArg Int32.toInt (F_23_o 20 (by decide))
  have LF_23A_24 : LSm l A A_24 := LF_9A_10.fr _ A_24_o (by decide)
  have NF_23A_24 : NCm F_23 A_24 := NF_9A_10.fr0 (F_23_o 19 (by decide)) (F_23_o 20 (by decide)) (fun q hq => A_24_o q (by simp))
  have aF_23A_24 : ai A_24 19 (F_23 19).toInt = ai A 19 (F 19).toInt := by rw [ai_fr (A_24_o 19 (by decide)), F_23_o 19 (by decide)] <;> exact aF_9A_10
  have bF_23A_24 : ∀ i, 0 ≤ i → i ≠ 6 * (F 19).toInt + ai A 19 (F 19).toInt → ai A_24 20 i = ai A 20 i := by rw [ai_fr (A_24_o 20 (by decide))] <;> exact bF_9A_10
  have cF_23A_24 : ∀ i, 0 ≤ i → i ≠ 6 * (F 19).toInt + ai A 19 (F 19).toInt → ai A_24 22 i = ai A 22 i := by rw [ai_fr (A_24_o 22 (by decide))] <;> exact cF_9A_10
  have KF_23A_24 : ∀ q, q = 28 ∨ q = 29 ∨ q = 30 ∨ q = 31 ∨ q = 32 → A_24 q = A q := fun q hq => (A_24_o q (by rcases hq with rfl | rfl | rfl | rfl | rfl <;> decide)).trans (KF_9A_10 q hq)
  have l_35 : (6 : Int32).toInt = 6 := by decide
  have e_36 := i_mulL (c := 6) (k := 6) (x := (F 19)) (by decide) (by omega) (by omega)
  have e_37 := i_add (x := (6 * (F 19))) (y := v_7) (by omega) (by omega)
  refine ok_st (j := 20) hA_24 (by omega) (by omega) (⟨by omega, by omega⟩) ?_
  intro A_38 hA_38 A_38_o A_38_s A_38_n
  have LF_23A_38 : LSm l A A_38 := LF_23A_24.st hl.1 6 rfl A_38_o A_38_n ⟨by omega, by omega⟩ (by omega)
  have NF_23A_38 : NCm F_23 A_38 := NF_23A_24.fr0 rfl rfl (fun q hq => A_38_o q (by omega))
  have aF_23A_38 : ai A_38 19 (F_23 19).toInt = ai A 19 (F 19).toInt := by rw [ai_fr (A_38_o 19 (by decide))] <;> exact aF_23A_24
  have bF_23A_38 : ∀ i, 0 ≤ i → i ≠ 6 * (F 19).toInt + ai A 19 (F 19).toInt → ai A_38 20 i = ai A 20 i := fun i h0 h1 => (A_38_n i h0 (by omega)).trans (bF_23A_24 i h0 h1)
  have cF_23A_38 : ∀ i, 0 ≤ i → i ≠ 6 * (F 19).toInt + ai A 19 (F 19).toInt → ai A_38 22 i = ai A 22 i := by rw [ai_fr (A_38_o 22 (by decide))] <;> exact cF_23A_24
  have KF_23A_38 : ∀ q, q = 28 ∨ q = 29 ∨ q = 30 ∨ q = 31 ∨ q = 32 → A_38 q = A q := fun q hq => (A_38_o q (by omega)).trans (KF_23A_24 q hq)
  have pF_23A_38 : ai A_38 20 (6 * (F 19).toInt + ai A 19 (F 19).toInt) = v_22.toInt := by rw [show 6 * (F 19).toInt + ai A 19 (F 19).toInt = (6 * F 19 + v_7).toInt by omega]; exact A_38_s
  have l_39 : (999 : Int32).toInt = 999 := by decide
  refine ok_call (l_d_bounded hF_23 hA_38 (by omega) (by omega)) ?_
  rintro ⟨v_40, F_41, A_42, J_43⟩ ⟨hF_41, hA_42, F_41_o, A_42_o, v_40_p⟩
  dsimp only at hF_41 hA_42 F_41_o A_42_o v_40_p ⊢
  change 0 ≤ v_40.toInt ∧ v_40.toInt ≤ 9999 ∧ (0 : Int32).toInt ≤ v_40.toInt + 10000 * ((F_41 13).toInt + (F_41 15).toInt) ∧ v_40.toInt ≤ (999 : Int32).toInt + 20000 * ((F_41 13).toInt + (F_41 15).toInt) ∧ (F_23 11).toInt ≤ (F_41 11).toInt ∧ (F_23 13).toInt ≤ 5 * (F_41 13).toInt ∧ (F_23 15).toInt ≤ 5 * (F_41 15).toInt at v_40_p
  have r_44 : 0 ≤ (F_41 11).toInt ∧ (F_41 11).toInt ≤ 400 := hF_41 11
  have r_45 : 0 ≤ (F_41 13).toInt ∧ (F_41 13).toInt ≤ 5 := hF_41 13
  have r_46 : 0 ≤ (F_41 15).toInt ∧ (F_41 15).toInt ≤ 5 := hF_41 15
  have r_47 : 0 ≤ (F_41 18).toInt ∧ (F_41 18).toInt ≤ 1 := hF_41 18
  have f_48 : (F_41 18).toInt = (F_23 18).toInt := congrArg Int32.toInt (F_41_o 18 (by decide))
  have r_49 : 0 ≤ (F_41 19).toInt ∧ (F_41 19).toInt ≤ 1 := hF_41 19
  have f_50 : (F_41 19).toInt = (F_23 19).toInt := congrArg Int32.toInt (F_41_o 19 (by decide))
  have r_51 : 0 ≤ (F_41 20).toInt ∧ (F_41 20).toInt ≤ 32 := hF_41 20
  have f_52 : (F_41 20).toInt = (F_23 20).toInt := congrArg Int32.toInt (F_41_o 20 (by decide))
  have LF_41A_42 : LSm l A A_42 := LF_23A_38.fr _ A_42_o (by decide)
  have NF_41A_42 : NCm F_41 A_42 := NF_23A_38.fr0 (F_41_o 19 (by decide)) (F_41_o 20 (by decide)) (fun q hq => A_42_o q (by simp))
  have aF_41A_42 : ai A_42 19 (F_41 19).toInt = ai A 19 (F 19).toInt := by rw [ai_fr (A_42_o 19 (by decide)), F_41_o 19 (by decide)] <;> exact aF_23A_38
  have bF_41A_42 : ∀ i, 0 ≤ i → i ≠ 6 * (F 19).toInt + ai A 19 (F 19).toInt → ai A_42 20 i = ai A 20 i := by rw [ai_fr (A_42_o 20 (by decide))] <;> exact bF_23A_38
  have cF_41A_42 : ∀ i, 0 ≤ i → i ≠ 6 * (F 19).toInt + ai A 19 (F 19).toInt → ai A_42 22 i = ai A 22 i := by rw [ai_fr (A_42_o 22 (by decide))] <;> exact cF_23A_38
  have pF_41A_42 : ai A_42 20 (6 * (F 19).toInt + ai A 19 (F 19).toInt) = v_22.toInt := by rw [ai_fr (A_42_o 20 (by decide))] <;> exact pF_23A_38
  have KF_41A_42 : ∀ q, q = 28 ∨ q = 29 ∨ q = 30 ∨ q = 31 ∨ q = 32 → A_42 q = A q := fun q hq => (A_42_o q (by rcases hq with rfl | rfl | rfl | rfl | rfl <;> decide)).trans (KF_23A_38 q hq)
  refine ok_st (j := 21) hA_42 (by omega) (by omega) (trivial) ?_
  intro A_53 hA_53 A_53_o A_53_s A_53_n
  have LF_41A_53 : LSm l A A_53 := LF_41A_42.st hl.1 6 rfl A_53_o A_53_n ⟨by omega, by omega⟩ (by omega)
  have NF_41A_53 : NCm F_41 A_53 := NF_41A_42.fr0 rfl rfl (fun q hq => A_53_o q (by omega))
  have aF_41A_53 : ai A_53 19 (F_41 19).toInt = ai A 19 (F 19).toInt := by rw [ai_fr (A_53_o 19 (by decide))] <;> exact aF_41A_42
  have bF_41A_53 : ∀ i, 0 ≤ i → i ≠ 6 * (F 19).toInt + ai A 19 (F 19).toInt → ai A_53 20 i = ai A 20 i := by rw [ai_fr (A_53_o 20 (by decide))] <;> exact bF_41A_42
  have cF_41A_53 : ∀ i, 0 ≤ i → i ≠ 6 * (F 19).toInt + ai A 19 (F 19).toInt → ai A_53 22 i = ai A 22 i := by rw [ai_fr (A_53_o 22 (by decide))] <;> exact cF_41A_42
  have pF_41A_53 : ai A_53 20 (6 * (F 19).toInt + ai A 19 (F 19).toInt) = v_22.toInt := by rw [ai_fr (A_53_o 20 (by decide))] <;> exact pF_41A_42
  have KF_41A_53 : ∀ q, q = 28 ∨ q = 29 ∨ q = 30 ∨ q = 31 ∨ q = 32 → A_53 q = A q := fun q hq => (A_53_o q (by omega)).trans (KF_41A_42 q hq)
  refine ok_st (j := 22) hA_53 (by omega) (by omega) (⟨by omega, by omega⟩) ?_
  intro A_54 hA_54 A_54_o A_54_s A_54_n
  have LF_41A_54 : LSm l A A_54 := LF_41A_53.st hl.1 6 rfl A_54_o A_54_n ⟨by omega, by omega⟩ (by omega)
  have NF_41A_54 : NCm F_41 A_54 := NF_41A_53.fr0 rfl rfl (fun q hq => A_54_o q (by omega))
  have aF_41A_54 : ai A_54 19 (F_41 19).toInt = ai A 19 (F 19).toInt := by rw [ai_fr (A_54_o 19 (by decide))] <;> exact aF_41A_53
  have bF_41A_54 : ∀ i, 0 ≤ i → i ≠ 6 * (F 19).toInt + ai A 19 (F 19).toInt → ai A_54 20 i = ai A 20 i := by rw [ai_fr (A_54_o 20 (by decide))] <;> exact bF_41A_53
  have cF_41A_54 : ∀ i, 0 ≤ i → i ≠ 6 * (F 19).toInt + ai A 19 (F 19).toInt → ai A_54 22 i = ai A 22 i := fun i h0 h1 => (A_54_n i h0 (by omega)).trans (cF_41A_53 i h0 h1)
  have pF_41A_54 : ai A_54 20 (6 * (F 19).toInt + ai A 19 (F 19).toInt) = v_22.toInt := by rw [ai_fr (A_54_o 20 (by decide))] <;> exact pF_41A_53
  have KF_41A_54 : ∀ q, q = 28 ∨ q = 29 ∨ q = 30 ∨ q = 31 ∨ q = 32 → A_54 q = A q := fun q hq => (A_54_o q (by omega)).trans (KF_41A_53 q hq)
  have qF_41A_54 : ai A_54 22 (6 * (F 19).toInt + ai A 19 (F 19).toInt) = 0 := by rw [show 6 * (F 19).toInt + ai A 19 (F 19).toInt = (6 * F 19 + v_7).toInt by omega]; exact A_54_s
  refine ok_call (l_d_must hF_41 hA_54) ?_
  rintro ⟨u_55, F_56, A_57, J_58⟩ ⟨hF_56, hA_57, F_56_o, A_57_o, u_55_p⟩
  dsimp only at hF_56 hA_57 F_56_o A_57_o u_55_p ⊢
  change (F_41 11).toInt ≤ (F_56 11).toInt ∧ (F_41 13).toInt ≤ 5 * (F_56 13).toInt at u_55_p
  have r_59 : 0 ≤ (F_56 11).toInt ∧ (F_56 11).toInt ≤ 400 := hF_56 11
  have r_60 : 0 ≤ (F_56 13).toInt ∧ (F_56 13).toInt ≤ 5 := hF_56 13
  have r_61 : 0 ≤ (F_56 15).toInt ∧ (F_56 15).toInt ≤ 5 := hF_56 15
  have f_62 : (F_56 15).toInt = (F_41 15).toInt := congrArg Int32.toInt (F_56_o 15 (by decide))
  have r_63 : 0 ≤ (F_56 18).toInt ∧ (F_56 18).toInt ≤ 1 := hF_56 18
  have f_64 : (F_56 18).toInt = (F_41 18).toInt := congrArg Int32.toInt (F_56_o 18 (by decide))
  have r_65 : 0 ≤ (F_56 19).toInt ∧ (F_56 19).toInt ≤ 1 := hF_56 19
  have f_66 : (F_56 19).toInt = (F_41 19).toInt := congrArg Int32.toInt (F_56_o 19 (by decide))
  have r_67 : 0 ≤ (F_56 20).toInt ∧ (F_56 20).toInt ≤ 32 := hF_56 20
  have f_68 : (F_56 20).toInt = (F_41 20).toInt := congrArg Int32.toInt (F_56_o 20 (by decide))
  have LF_56A_57 : LSm l A A_57 := LF_41A_54.fr _ A_57_o (by decide)
  have NF_56A_57 : NCm F_56 A_57 := NF_41A_54.fr0 (F_56_o 19 (by decide)) (F_56_o 20 (by decide)) (fun q hq => A_57_o q (by simp))
  have aF_56A_57 : ai A_57 19 (F_56 19).toInt = ai A 19 (F 19).toInt := by rw [ai_fr (A_57_o 19 (by decide)), F_56_o 19 (by decide)] <;> exact aF_41A_54
  have bF_56A_57 : ∀ i, 0 ≤ i → i ≠ 6 * (F 19).toInt + ai A 19 (F 19).toInt → ai A_57 20 i = ai A 20 i := by rw [ai_fr (A_57_o 20 (by decide))] <;> exact bF_41A_54
  have cF_56A_57 : ∀ i, 0 ≤ i → i ≠ 6 * (F 19).toInt + ai A 19 (F 19).toInt → ai A_57 22 i = ai A 22 i := by rw [ai_fr (A_57_o 22 (by decide))] <;> exact cF_41A_54
  have pF_56A_57 : ai A_57 20 (6 * (F 19).toInt + ai A 19 (F 19).toInt) = v_22.toInt := by rw [ai_fr (A_57_o 20 (by decide))] <;> exact pF_41A_54
  have qF_56A_57 : ai A_57 22 (6 * (F 19).toInt + ai A 19 (F 19).toInt) = 0 := by rw [ai_fr (A_57_o 22 (by decide))] <;> exact qF_41A_54
  have KF_56A_57 : ∀ q, q = 28 ∨ q = 29 ∨ q = 30 ∨ q = 31 ∨ q = 32 → A_57 q = A q := fun q hq => (A_57_o q (by rcases hq with rfl | rfl | rfl | rfl | rfl <;> decide)).trans (KF_41A_54 q hq)
  refine ok_cond (fun c_69 => ?_) (fun c_69 => ?_)
  · rw [i_le] at c_69
    refine ok_ld (j := 19) hA_57 (by omega) (by omega) ?_
    intro v_70 v_70_e v_70_r
    change 0 ≤ v_70.toInt ∧ v_70.toInt ≤ 6 at v_70_r
    refine ok_call (s_d_notes hF_56 hA_57 (by omega) (by omega) (by omega)) ?_
    rintro ⟨u_71, F_72, A_73, J_74⟩ ⟨hF_72, hA_73, F_72_o, A_73_o, u_71_p⟩
    dsimp only at hF_72 hA_73 F_72_o A_73_o u_71_p ⊢
    change (F_72 20).toInt = (F_56 20).toInt + 1 ∧ ai A_73 9 (F_56 20).toInt = (2 : Int32).toInt ∧ ai A_73 10 (F_56 20).toInt = v_70.toInt ∧ (∀ q, 0 ≤ q → q ≠ (F_56 20).toInt → ai A_73 9 q = ai A_57 9 q ∧ ai A_73 10 q = ai A_57 10 q) at u_71_p
    have r_75 : 0 ≤ (F_72 11).toInt ∧ (F_72 11).toInt ≤ 400 := hF_72 11
    have f_76 : (F_72 11).toInt = (F_56 11).toInt := congrArg Int32.toInt (F_72_o 11 (by decide))
    have r_77 : 0 ≤ (F_72 13).toInt ∧ (F_72 13).toInt ≤ 5 := hF_72 13
    have f_78 : (F_72 13).toInt = (F_56 13).toInt := congrArg Int32.toInt (F_72_o 13 (by decide))
    have r_79 : 0 ≤ (F_72 15).toInt ∧ (F_72 15).toInt ≤ 5 := hF_72 15
    have f_80 : (F_72 15).toInt = (F_56 15).toInt := congrArg Int32.toInt (F_72_o 15 (by decide))
    have r_81 : 0 ≤ (F_72 18).toInt ∧ (F_72 18).toInt ≤ 1 := hF_72 18
    have f_82 : (F_72 18).toInt = (F_56 18).toInt := congrArg Int32.toInt (F_72_o 18 (by decide))
    have r_83 : 0 ≤ (F_72 19).toInt ∧ (F_72 19).toInt ≤ 1 := hF_72 19
    have f_84 : (F_72 19).toInt = (F_56 19).toInt := congrArg Int32.toInt (F_72_o 19 (by decide))
    have r_85 : 0 ≤ (F_72 20).toInt ∧ (F_72 20).toInt ≤ 32 := hF_72 20
    have LF_72A_73 : LSm l A A_73 := LF_56A_57.fr _ A_73_o (by decide)
    have aF_72A_73 : ai A_73 19 (F_72 19).toInt = ai A 19 (F 19).toInt := by rw [ai_fr (A_73_o 19 (by decide)), F_72_o 19 (by decide)] <;> exact aF_56A_57
    have bF_72A_73 : ∀ i, 0 ≤ i → i ≠ 6 * (F 19).toInt + ai A 19 (F 19).toInt → ai A_73 20 i = ai A 20 i := by rw [ai_fr (A_73_o 20 (by decide))] <;> exact bF_56A_57
    have cF_72A_73 : ∀ i, 0 ≤ i → i ≠ 6 * (F 19).toInt + ai A 19 (F 19).toInt → ai A_73 22 i = ai A 22 i := by rw [ai_fr (A_73_o 22 (by decide))] <;> exact cF_56A_57
    have pF_72A_73 : ai A_73 20 (6 * (F 19).toInt + ai A 19 (F 19).toInt) = v_22.toInt := by rw [ai_fr (A_73_o 20 (by decide))] <;> exact pF_56A_57
    have qF_72A_73 : ai A_73 22 (6 * (F 19).toInt + ai A 19 (F 19).toInt) = 0 := by rw [ai_fr (A_73_o 22 (by decide))] <;> exact qF_56A_57
    have KF_72A_73 : ∀ q, q = 28 ∨ q = 29 ∨ q = 30 ∨ q = 31 ∨ q = 32 → A_73 q = A q := fun q hq => (A_73_o q (by rcases hq with rfl | rfl | rfl | rfl | rfl <;> decide)).trans (KF_56A_57 q hq)
    refine ok_ld (j := 19) hA_73 (by omega) (by omega) ?_
    intro v_86 v_86_e v_86_r
    change 0 ≤ v_86.toInt ∧ v_86.toInt ≤ 6 at v_86_r
    have l_87 : (1 : Int32).toInt = 1 := by decide
    have e_88 := i_add (x := v_86) (y := 1) (by omega) (by omega)
    refine ok_st (j := 19) hA_73 (by omega) (by omega) (⟨by omega, by omega⟩) ?_
    intro A_89 hA_89 A_89_o A_89_s A_89_n
    have LF_72A_89 : LSm l A A_89 := LF_72A_73.st hl.1 1 rfl A_89_o A_89_n ⟨by omega, by omega⟩ (by omega)
    have bF_72A_89 : ∀ i, 0 ≤ i → i ≠ 6 * (F 19).toInt + ai A 19 (F 19).toInt → ai A_89 20 i = ai A 20 i := by rw [ai_fr (A_89_o 20 (by decide))] <;> exact bF_72A_73
    have cF_72A_89 : ∀ i, 0 ≤ i → i ≠ 6 * (F 19).toInt + ai A 19 (F 19).toInt → ai A_89 22 i = ai A 22 i := by rw [ai_fr (A_89_o 22 (by decide))] <;> exact cF_72A_73
    have pF_72A_89 : ai A_89 20 (6 * (F 19).toInt + ai A 19 (F 19).toInt) = v_22.toInt := by rw [ai_fr (A_89_o 20 (by decide))] <;> exact pF_72A_73
    have qF_72A_89 : ai A_89 22 (6 * (F 19).toInt + ai A 19 (F 19).toInt) = 0 := by rw [ai_fr (A_89_o 22 (by decide))] <;> exact qF_72A_73
    have KF_72A_89 : ∀ q, q = 28 ∨ q = 29 ∨ q = 30 ∨ q = 31 ∨ q = 32 → A_89 q = A q := fun q hq => (A_89_o q (by omega)).trans (KF_72A_73 q hq)
    have e19 : F_72 19 = F_56 19 := F_72_o 19 (by decide)
    have zr : ai A_89 19 (F_56 19).toInt = ai A_57 19 (F_56 19).toInt + 1 := by rw [← e19, A_89_s, ← ai_fr (A_73_o 19 (by decide))]; omega
    have NZ : NCm F_72 A_89 := NCm.add (r := 19) NF_56A_57 (.inr (.inr (.inl ⟨rfl, by decide⟩))) e19 u_71_p A_73_o A_89_o v_70_e zr
    have zz : ai A_89 19 (F 19).toInt = ai A 19 (F 19).toInt + 1 := (congrArg (ai A_89 19) (show (F 19).toInt = (F_72 19).toInt by omega)).trans (A_89_s.trans (by omega))
    have xs : 1 ≤ (F_72 15).toInt ∨ ((XTm A (F 19).toInt → XTm A_89 (F 19).toInt) ∧ (XUm A (F 19).toInt → XUm A_89 (F 19).toInt) ∧ (XMm A (F 19).toInt → XMm A_89 (F 19).toInt)) := (show 1 ≤ (F_72 15).toInt ∨ 0 ≤ v_22.toInt by omega).imp id (fun h => ⟨fun x => x.up zz bF_72A_89 (by rw [pF_72A_89]; exact h) rfl (by omega), fun x => x.up zz cF_72A_89 qF_72A_89 (KF_72A_89 28 (by omega)) rfl (by omega), fun x => x.up zz cF_72A_89 (fun q hq => KF_72A_89 q (by omega)) rfl (by omega)⟩)
    refine ok_some ?_
    refine ⟨hF_72, hA_89, (fun q hq => (((((F_72_o q (fun e => hq ((by decide : ∀ x, x ∈ ([20] : List Nat) → x ∈ ([11, 13, 14, 15, 16, 20] : List Nat)) q e))).trans (F_56_o q (fun e => hq ((by decide : ∀ x, x ∈ ([11, 13, 14] : List Nat) → x ∈ ([11, 13, 14, 15, 16, 20] : List Nat)) q e)))).trans (F_41_o q (fun e => hq ((by decide : ∀ x, x ∈ ([11, 13, 14, 15, 16] : List Nat) → x ∈ ([11, 13, 14, 15, 16, 20] : List Nat)) q e)))).trans (F_23_o q (fun e => hq ((by decide : ∀ x, x ∈ ([11, 13, 14, 15, 16] : List Nat) → x ∈ ([11, 13, 14, 15, 16, 20] : List Nat)) q e)))).trans (F_9_o q (fun e => hq ((by decide : ∀ x, x ∈ ([11, 13, 14, 15, 16] : List Nat) → x ∈ ([11, 13, 14, 15, 16, 20] : List Nat)) q e))))), (fun q hq => (((((((((A_89_o q (fun e => hq (by rw [e]; decide))).trans (A_73_o q (fun e => hq ((by decide : ∀ x, x ∈ ([9, 10] : List Nat) → x ∈ ([9, 10, 19, 20, 21, 22] : List Nat)) q e)))).trans (A_57_o q (fun e => hq ((by decide : ∀ x, x ∈ ([] : List Nat) → x ∈ ([9, 10, 19, 20, 21, 22] : List Nat)) q e)))).trans (A_54_o q (fun e => hq (by rw [e]; decide)))).trans (A_53_o q (fun e => hq (by rw [e]; decide)))).trans (A_42_o q (fun e => hq ((by decide : ∀ x, x ∈ ([] : List Nat) → x ∈ ([9, 10, 19, 20, 21, 22] : List Nat)) q e)))).trans (A_38_o q (fun e => hq (by rw [e]; decide)))).trans (A_24_o q (fun e => hq ((by decide : ∀ x, x ∈ ([] : List Nat) → x ∈ ([9, 10, 19, 20, 21, 22] : List Nat)) q e)))).trans (A_10_o q (fun e => hq ((by decide : ∀ x, x ∈ ([] : List Nat) → x ∈ ([9, 10, 19, 20, 21, 22] : List Nat)) q e))))), ?_⟩
    first | exact ⟨NZ, LF_72A_89, by (try dsimp only) <;> omega, by (try dsimp only) <;> omega, .inr xs⟩ | exact ⟨NF_72A_89, LF_72A_89, by (try dsimp only) <;> omega, by (try dsimp only) <;> omega, .inl (by (try dsimp only) <;> omega)⟩
  · rw [i_nle] at c_69
    refine ok_some ?_
    refine ⟨hF_56, hA_57, (fun q hq => ((((F_56_o q (fun e => hq ((by decide : ∀ x, x ∈ ([11, 13, 14] : List Nat) → x ∈ ([11, 13, 14, 15, 16, 20] : List Nat)) q e))).trans (F_41_o q (fun e => hq ((by decide : ∀ x, x ∈ ([11, 13, 14, 15, 16] : List Nat) → x ∈ ([11, 13, 14, 15, 16, 20] : List Nat)) q e)))).trans (F_23_o q (fun e => hq ((by decide : ∀ x, x ∈ ([11, 13, 14, 15, 16] : List Nat) → x ∈ ([11, 13, 14, 15, 16, 20] : List Nat)) q e)))).trans (F_9_o q (fun e => hq ((by decide : ∀ x, x ∈ ([11, 13, 14, 15, 16] : List Nat) → x ∈ ([11, 13, 14, 15, 16, 20] : List Nat)) q e))))), (fun q hq => (((((((A_57_o q (fun e => hq ((by decide : ∀ x, x ∈ ([] : List Nat) → x ∈ ([9, 10, 19, 20, 21, 22] : List Nat)) q e))).trans (A_54_o q (fun e => hq (by rw [e]; decide)))).trans (A_53_o q (fun e => hq (by rw [e]; decide)))).trans (A_42_o q (fun e => hq ((by decide : ∀ x, x ∈ ([] : List Nat) → x ∈ ([9, 10, 19, 20, 21, 22] : List Nat)) q e)))).trans (A_38_o q (fun e => hq (by rw [e]; decide)))).trans (A_24_o q (fun e => hq ((by decide : ∀ x, x ∈ ([] : List Nat) → x ∈ ([9, 10, 19, 20, 21, 22] : List Nat)) q e)))).trans (A_10_o q (fun e => hq ((by decide : ∀ x, x ∈ ([] : List Nat) → x ∈ ([9, 10, 19, 20, 21, 22] : List Nat)) q e))))), ?_⟩
    first | exact ⟨NZ, LF_56A_57, by (try dsimp only) <;> omega, by (try dsimp only) <;> omega, .inr xs⟩ | exact ⟨NF_56A_57, LF_56A_57, by (try dsimp only) <;> omega, by (try dsimp only) <;> omega, .inl (by (try dsimp only) <;> omega)⟩
