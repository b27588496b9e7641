section Qz57
/-! what holds while the reference reads -/
/-- a side's share of a row -/
def sgm (j : Nat) : Int := match j with
  | 11 => 1 | 12 => 1 | 17 => 1 | 19 => 1 | 29 => 1 | 33 => 1 | 41 => 1
  | 13 => 12 | 14 => 12 | 15 => 12 | 16 => 12
  | 18 => 6 | 20 => 6 | 21 => 6 | 22 => 6 | 30 => 6 | 31 => 6 | 32 => 6 | 34 => 6 | 35 => 6
  | 23 => 36 | 24 => 36 | 25 => 36 | 26 => 36 | 27 => 36 | 28 => 36
  | 36 => 50 | 37 => 50 | 38 => 50 | 39 => 50 | 40 => 50
  | 42 => 420 | 43 => 420
  | _ => 0
def LSm (l : Int) (A A' : Nat → Nat → Int32) : Prop := ∀ j i, sgm j * l ≤ i → i < sgm j * l + sgm j → ai A' j i = ai A j i
section LS
variable {l i : Int} {A A' A1 : Nat → Nat → Int32} {j : Nat}
theorem LSm.rfl' (l : Int) (A : Nat → Nat → Int32) : LSm l A A := fun _ _ _ _ => rfl
theorem LSm.tr (h : LSm l A A1) (h' : LSm l A1 A') : LSm l A A' := fun j i a b => (h' j i a b).trans (h j i a b)
theorem LSm.st (h : LSm l A A1) (hl : 0 ≤ l) (s : Int) (hs : sgm j = s) (o : ∀ q, q ≠ j → A' q = A1 q) (n : ∀ q, 0 ≤ q → q ≠ i → ai A' j q = ai A1 j q) (hi : 0 ≤ s ∧ (i < s * l ∨ s * l + s ≤ i)) (hp : 0 ≤ s * l) : LSm l A A' := fun q p a b => by
  by_cases e : q = j
  · subst e
    rw [hs] at a b
    rw [n p (by omega) (by omega)]
    exact h q p (by rw [hs]; exact a) (by rw [hs]; exact b)
  · rw [ai_fr (o q e)]
    exact h q p a b
theorem LSm.fr (h : LSm l A A1) (W : List Nat) (o : ∀ q, q ∉ W → A' q = A1 q) (hW : ∀ q, q ∈ W → sgm q = 0) : LSm l A A' := fun q p a b => by
  by_cases e : q ∈ W
  · rw [hW q e] at a b
    omega
  · rw [ai_fr (o q e)]
    exact h q p a b
end LS
def NMm (F : Nat → Int32) (A : Nat → Nat → Int32) : Prop := ∀ q, 0 ≤ q → q < (F 20).toInt → (ai A 9 q = 0 → ai A 10 q < ai A 11 (F 19).toInt) ∧ (ai A 9 q = 1 → ai A 10 q < ai A 17 (F 19).toInt) ∧ (ai A 9 q = 2 → ai A 10 q < ai A 19 (F 19).toInt) ∧ (ai A 9 q = 3 → ai A 10 q < ai A 29 (F 19).toInt)
section NM
variable {F F' : Nat → Int32} {A A' : Nat → Nat → Int32}
theorem NMm.fr (h : NMm F A) (h19 : F' 19 = F 19) (h20 : F' 20 = F 20) (r9 : A' 9 = A 9) (r10 : A' 10 = A 10) (g1 : ai A 11 (F 19).toInt ≤ ai A' 11 (F 19).toInt) (g2 : ai A 17 (F 19).toInt ≤ ai A' 17 (F 19).toInt) (g3 : ai A 19 (F 19).toInt ≤ ai A' 19 (F 19).toInt) (g4 : ai A 29 (F 19).toInt ≤ ai A' 29 (F 19).toInt) : NMm F' A' := by
  intro q h0 h1
  rw [h20] at h1
  obtain ⟨a, b, c, d⟩ := h q h0 h1
  rw [h19, ai_fr r9, ai_fr r10]
  exact ⟨fun e => by have := a e; omega, fun e => by have := b e; omega, fun e => by have := c e; omega, fun e => by have := d e; omega⟩
theorem NMm.fr0 (h : NMm F A) (h19 : F' 19 = F 19) (h20 : F' 20 = F 20) (r : ∀ q, q = 9 ∨ q = 10 ∨ q = 11 ∨ q = 17 ∨ q = 19 ∨ q = 29 → A' q = A q) : NMm F' A' :=
  h.fr h19 h20 (r 9 (by omega)) (r 10 (by omega)) (by rw [ai_fr (r 11 (by omega))]; omega) (by rw [ai_fr (r 17 (by omega))]; omega) (by rw [ai_fr (r 19 (by omega))]; omega) (by rw [ai_fr (r 29 (by omega))]; omega)
end NM
end Qz57
section Qz58
set_option maxRecDepth 10000 in
theorem s_d_is {F : Nat → Int32} {A : Nat → Nat → Int32} {J : Nat → Nat → Int64} {x1 : Int32} (hF : IFm F) (hA : IAm A) : ok (d_is F A J x1) (fun v => (v.toInt = 0 ∨ (v.toInt = 1 ∧ (F 13).toInt = 0 ∧ ai A 3 (F 11).toInt = x1.toInt)) ∧ (v.toInt ≠ 0 ∨ (F 13).toInt ≠ 0 ∨ ai A 3 (F 11).toInt ≠ x1.toInt)) := by
  have r18 : 0 ≤ (F 18).toInt ∧ (F 18).toInt ≤ 1 := hF 18
  have r_1 : 0 ≤ (F 11).toInt ∧ (F 11).toInt ≤ 400 := hF 11
  have r_2 : 0 ≤ (F 13).toInt ∧ (F 13).toInt ≤ 5 := hF 13
  have r_3 : 0 ≤ (F 15).toInt ∧ (F 15).toInt ≤ 5 := hF 15
  have r_4 : 0 ≤ (F 18).toInt ∧ (F 18).toInt ≤ 1 := hF 18
  unfold d_is
  have l_5 : (0 : Int32).toInt = 0 := by decide
  refine ok_cond (fun c_6 => ?_) (fun c_6 => ?_)
  · rw [i_ne] at c_6
    refine ok_some ?_
    exact ⟨by omega, by omega⟩
  · rw [i_nne] at c_6
    refine ok_ld (j := 3) hA (by omega) (by omega) ?_
    intro v_7 v_7_e v_7_r
    refine ok_cond (fun c_8 => ?_) (fun c_8 => ?_)
    · rw [i_ne] at c_8
      refine ok_some ?_
      exact ⟨by omega, by omega⟩
    · rw [i_nne] at c_8
      refine ok_some ?_
      have l_9 : (1 : Int32).toInt = 1 := by decide
      exact ⟨by omega, by omega⟩
set_option maxRecDepth 10000 in
theorem s_d_fail {F : Nat → Int32} {A : Nat → Nat → Int32} {J : Nat → Nat → Int64} {x1 : Int32} (hF : IFm F) (hA : IAm A) (rx1 : 1 ≤ x1.toInt ∧ x1.toInt ≤ 5) : ok (d_fail F A J x1) (fun r => IFm r.2.1 ∧ IAm r.2.2.1 ∧ (∀ q, q ∉ ([13, 14] : List Nat) → r.2.1 q = F q) ∧ (∀ q, q ∉ ([] : List Nat) → r.2.2.1 q = A q) ∧ 1 ≤ (r.2.1 13).toInt) := by
  have r18 : 0 ≤ (F 18).toInt ∧ (F 18).toInt ≤ 1 := hF 18
  have r_1 : 0 ≤ (F 11).toInt ∧ (F 11).toInt ≤ 400 := hF 11
  have r_2 : 0 ≤ (F 13).toInt ∧ (F 13).toInt ≤ 5 := hF 13
  have r_3 : 0 ≤ (F 15).toInt ∧ (F 15).toInt ≤ 5 := hF 15
  have r_4 : 0 ≤ (F 18).toInt ∧ (F 18).toInt ≤ 1 := hF 18
  unfold d_fail
  have l_5 : (0 : Int32).toInt = 0 := by decide
  refine ok_cond (fun c_6 => ?_) (fun c_6 => ?_)
  · rw [i_le] at c_6
    refine ok_pf hF (⟨by omega, by omega⟩) ?_
    intro F_7 hF_7 F_7_k F_7_o
    have r_8 : 0 ≤ (F_7 11).toInt ∧ (F_7 11).toInt ≤ 400 := hF_7 11
    have f_9 : (F_7 11).toInt = (F 11).toInt := congrArg Int32.toInt (F_7_o 11 (by decide))
    have r_10 : 0 ≤ (F_7 13).toInt ∧ (F_7 13).toInt ≤ 5 := hF_7 13
    have f_11 : (F_7 13).toInt = (x1).toInt := congrArg Int32.toInt F_7_k
    have r_12 : 0 ≤ (F_7 15).toInt ∧ (F_7 15).toInt ≤ 5 := hF_7 15
    have f_13 : (F_7 15).toInt = (F 15).toInt := congrArg Int32.toInt (F_7_o 15 (by decide))
    have r_14 : 0 ≤ (F_7 18).toInt ∧ (F_7 18).toInt ≤ 1 := hF_7 18
    have f_15 : (F_7 18).toInt = (F 18).toInt := congrArg Int32.toInt (F_7_o 18 (by decide))
    refine ok_ld (j := 4) hA (by omega) (by omega) ?_
    intro v_16 v_16_e v_16_r
    refine ok_pf hF_7 (trivial) ?_
    intro F_17 hF_17 F_17_k F_17_o
    have r_18 : 0 ≤ (F_17 11).toInt ∧ (F_17 11).toInt ≤ 400 := hF_17 11
    have f_19 : (F_17 11).toInt = (F_7 11).toInt := congrArg Int32.toInt (F_17_o 11 (by decide))
    have r_20 : 0 ≤ (F_17 13).toInt ∧ (F_17 13).toInt ≤ 5 := hF_17 13
    have f_21 : (F_17 13).toInt = (F_7 13).toInt := congrArg Int32.toInt (F_17_o 13 (by decide))
    have r_22 : 0 ≤ (F_17 15).toInt ∧ (F_17 15).toInt ≤ 5 := hF_17 15
    have f_23 : (F_17 15).toInt = (F_7 15).toInt := congrArg Int32.toInt (F_17_o 15 (by decide))
    have r_24 : 0 ≤ (F_17 18).toInt ∧ (F_17 18).toInt ≤ 1 := hF_17 18
    have f_25 : (F_17 18).toInt = (F_7 18).toInt := congrArg Int32.toInt (F_17_o 18 (by decide))
    refine ok_some ?_
    refine ⟨hF_17, hA, (fun q hq => ((F_17_o q (fun e => hq (by rw [e]; decide))).trans (F_7_o q (fun e => hq (by rw [e]; decide))))), (fun q hq => rfl), ?_⟩
    (try dsimp only) <;> omega
  · rw [i_nle] at c_6
    refine ok_some ?_
    refine ⟨hF, hA, (fun q hq => rfl), (fun q hq => rfl), ?_⟩
    (try dsimp only) <;> omega
set_option maxRecDepth 10000 in
theorem s_d_failAt {F : Nat → Int32} {A : Nat → Nat → Int32} {J : Nat → Nat → Int64} {x1 : Int32} {x2 : Int32} (hF : IFm F) (hA : IAm A) (rx1 : 1 ≤ x1.toInt ∧ x1.toInt ≤ 5) (rx2 : 0 ≤ x2.toInt ∧ x2.toInt ≤ 402) : ok (d_failAt F A J x1 x2) (fun r => IFm r.2.1 ∧ IAm r.2.2.1 ∧ (∀ q, q ∉ ([13, 14] : List Nat) → r.2.1 q = F q) ∧ (∀ q, q ∉ ([] : List Nat) → r.2.2.1 q = A q) ∧ 1 ≤ (r.2.1 13).toInt) := by
  have r18 : 0 ≤ (F 18).toInt ∧ (F 18).toInt ≤ 1 := hF 18
  have r_1 : 0 ≤ (F 11).toInt ∧ (F 11).toInt ≤ 400 := hF 11
  have r_2 : 0 ≤ (F 13).toInt ∧ (F 13).toInt ≤ 5 := hF 13
  have r_3 : 0 ≤ (F 15).toInt ∧ (F 15).toInt ≤ 5 := hF 15
  have r_4 : 0 ≤ (F 18).toInt ∧ (F 18).toInt ≤ 1 := hF 18
  unfold d_failAt
  have l_5 : (0 : Int32).toInt = 0 := by decide
  refine ok_cond (fun c_6 => ?_) (fun c_6 => ?_)
  · rw [i_le] at c_6
    refine ok_pf hF (⟨by omega, by omega⟩) ?_
    intro F_7 hF_7 F_7_k F_7_o
    have r_8 : 0 ≤ (F_7 11).toInt ∧ (F_7 11).toInt ≤ 400 := hF_7 11
    have f_9 : (F_7 11).toInt = (F 11).toInt := congrArg Int32.toInt (F_7_o 11 (by decide))
    have r_10 : 0 ≤ (F_7 13).toInt ∧ (F_7 13).toInt ≤ 5 := hF_7 13
    have f_11 : (F_7 13).toInt = (x1).toInt := congrArg Int32.toInt F_7_k
    have r_12 : 0 ≤ (F_7 15).toInt ∧ (F_7 15).toInt ≤ 5 := hF_7 15
    have f_13 : (F_7 15).toInt = (F 15).toInt := congrArg Int32.toInt (F_7_o 15 (by decide))
    have r_14 : 0 ≤ (F_7 18).toInt ∧ (F_7 18).toInt ≤ 1 := hF_7 18
    have f_15 : (F_7 18).toInt = (F 18).toInt := congrArg Int32.toInt (F_7_o 18 (by decide))
    refine ok_ld (j := 4) hA (by omega) (by omega) ?_
    intro v_16 v_16_e v_16_r
    refine ok_pf hF_7 (trivial) ?_
    intro F_17 hF_17 F_17_k F_17_o
    have r_18 : 0 ≤ (F_17 11).toInt ∧ (F_17 11).toInt ≤ 400 := hF_17 11
    have f_19 : (F_17 11).toInt = (F_7 11).toInt := congrArg Int32.toInt (F_17_o 11 (by decide))
    have r_20 : 0 ≤ (F_17 13).toInt ∧ (F_17 13).toInt ≤ 5 := hF_17 13
    have f_21 : (F_17 13).toInt = (F_7 13).toInt := congrArg Int32.toInt (F_17_o 13 (by decide))
    have r_22 : 0 ≤ (F_17 15).toInt ∧ (F_17 15).toInt ≤ 5 := hF_17 15
    have f_23 : (F_17 15).toInt = (F_7 15).toInt := congrArg Int32.toInt (F_17_o 15 (by decide))
    have r_24 : 0 ≤ (F_17 18).toInt ∧ (F_17 18).toInt ≤ 1 := hF_17 18
    have f_25 : (F_17 18).toInt = (F_7 18).toInt := congrArg Int32.toInt (F_17_o 18 (by decide))
    refine ok_some ?_
    refine ⟨hF_17, hA, (fun q hq => ((F_17_o q (fun e => hq (by rw [e]; decide))).trans (F_7_o q (fun e => hq (by rw [e]; decide))))), (fun q hq => rfl), ?_⟩
    (try dsimp only) <;> omega
  · rw [i_nle] at c_6
    refine ok_some ?_
    refine ⟨hF, hA, (fun q hq => rfl), (fun q hq => rfl), ?_⟩
    (try dsimp only) <;> omega
set_option maxRecDepth 10000 in
theorem s_d_wrong {F : Nat → Int32} {A : Nat → Nat → Int32} {J : Nat → Nat → Int64} {x1 : Int32} {x2 : Int32} (hF : IFm F) (hA : IAm A) (rx1 : 3 ≤ x1.toInt ∧ x1.toInt ≤ 5) (rx2 : 0 ≤ x2.toInt ∧ x2.toInt ≤ 402) : ok (d_wrong F A J x1 x2) (fun r => IFm r.2.1 ∧ IAm r.2.2.1 ∧ (∀ q, q ∉ ([15, 16] : List Nat) → r.2.1 q = F q) ∧ (∀ q, q ∉ ([] : List Nat) → r.2.2.1 q = A q) ∧ (1 ≤ (F 13).toInt ∨ 1 ≤ (r.2.1 15).toInt) ∧ ((F 15).toInt = 0 ∨ 1 ≤ (r.2.1 15).toInt)) := by
  have r18 : 0 ≤ (F 18).toInt ∧ (F 18).toInt ≤ 1 := hF 18
  have r_1 : 0 ≤ (F 11).toInt ∧ (F 11).toInt ≤ 400 := hF 11
  have r_2 : 0 ≤ (F 13).toInt ∧ (F 13).toInt ≤ 5 := hF 13
  have r_3 : 0 ≤ (F 15).toInt ∧ (F 15).toInt ≤ 5 := hF 15
  have r_4 : 0 ≤ (F 18).toInt ∧ (F 18).toInt ≤ 1 := hF 18
  unfold d_wrong
  refine ok_ld (j := 4) hA (by omega) (by omega) ?_
  intro v_5 v_5_e v_5_r
  have l_6 : (0 : Int32).toInt = 0 := by decide
  refine ok_cond (fun c_7 => ?_) (fun c_7 => ?_)
  · rw [i_gt] at c_7
    refine ok_some ?_
    refine ⟨hF, hA, (fun q hq => rfl), (fun q hq => rfl), ?_⟩
    (try dsimp only) <;> exact ⟨by omega, by omega⟩
  · rw [i_ngt] at c_7
    refine ok_cond (fun c_8 => ?_) (fun c_8 => ?_)
    · rw [i_eq] at c_8
      unfold d_wrong_46
      refine ok_pf hF (⟨by omega, by omega⟩) ?_
      intro F_9 hF_9 F_9_k F_9_o
      have r_10 : 0 ≤ (F_9 11).toInt ∧ (F_9 11).toInt ≤ 400 := hF_9 11
      have f_11 : (F_9 11).toInt = (F 11).toInt := congrArg Int32.toInt (F_9_o 11 (by decide))
      have r_12 : 0 ≤ (F_9 13).toInt ∧ (F_9 13).toInt ≤ 5 := hF_9 13
      have f_13 : (F_9 13).toInt = (F 13).toInt := congrArg Int32.toInt (F_9_o 13 (by decide))
      have r_14 : 0 ≤ (F_9 15).toInt ∧ (F_9 15).toInt ≤ 5 := hF_9 15
      have f_15 : (F_9 15).toInt = (x1).toInt := congrArg Int32.toInt F_9_k
      have r_16 : 0 ≤ (F_9 18).toInt ∧ (F_9 18).toInt ≤ 1 := hF_9 18
      have f_17 : (F_9 18).toInt = (F 18).toInt := congrArg Int32.toInt (F_9_o 18 (by decide))
      refine ok_pf hF_9 (trivial) ?_
      intro F_18 hF_18 F_18_k F_18_o
      have r_19 : 0 ≤ (F_18 11).toInt ∧ (F_18 11).toInt ≤ 400 := hF_18 11
      have f_20 : (F_18 11).toInt = (F_9 11).toInt := congrArg Int32.toInt (F_18_o 11 (by decide))
      have r_21 : 0 ≤ (F_18 13).toInt ∧ (F_18 13).toInt ≤ 5 := hF_18 13
      have f_22 : (F_18 13).toInt = (F_9 13).toInt := congrArg Int32.toInt (F_18_o 13 (by decide))
      have r_23 : 0 ≤ (F_18 15).toInt ∧ (F_18 15).toInt ≤ 5 := hF_18 15
      have f_24 : (F_18 15).toInt = (F_9 15).toInt := congrArg Int32.toInt (F_18_o 15 (by decide))
      have r_25 : 0 ≤ (F_18 18).toInt ∧ (F_18 18).toInt ≤ 1 := hF_18 18
      have f_26 : (F_18 18).toInt = (F_9 18).toInt := congrArg Int32.toInt (F_18_o 18 (by decide))
      refine ok_some ?_
      refine ⟨hF_18, hA, (fun q hq => ((F_18_o q (fun e => hq (by rw [e]; decide))).trans (F_9_o q (fun e => hq (by rw [e]; decide))))), (fun q hq => rfl), ?_⟩
      (try dsimp only) <;> exact ⟨by omega, by omega⟩
    · rw [i_neq] at c_8
      refine ok_cond (fun c_27 => ?_) (fun c_27 => ?_)
      · rw [i_gt] at c_27
        refine ok_some ?_
        refine ⟨hF, hA, (fun q hq => rfl), (fun q hq => rfl), ?_⟩
        (try dsimp only) <;> exact ⟨by omega, by omega⟩
      · rw [i_ngt] at c_27
        refine ok_cond (fun c_28 => ?_) (fun c_28 => ?_)
        · rw [i_ne] at c_28
          unfold d_wrong_46
          refine ok_pf hF (⟨by omega, by omega⟩) ?_
          intro F_29 hF_29 F_29_k F_29_o
          have r_30 : 0 ≤ (F_29 11).toInt ∧ (F_29 11).toInt ≤ 400 := hF_29 11
          have f_31 : (F_29 11).toInt = (F 11).toInt := congrArg Int32.toInt (F_29_o 11 (by decide))
          have r_32 : 0 ≤ (F_29 13).toInt ∧ (F_29 13).toInt ≤ 5 := hF_29 13
          have f_33 : (F_29 13).toInt = (F 13).toInt := congrArg Int32.toInt (F_29_o 13 (by decide))
          have r_34 : 0 ≤ (F_29 15).toInt ∧ (F_29 15).toInt ≤ 5 := hF_29 15
          have f_35 : (F_29 15).toInt = (x1).toInt := congrArg Int32.toInt F_29_k
          have r_36 : 0 ≤ (F_29 18).toInt ∧ (F_29 18).toInt ≤ 1 := hF_29 18
          have f_37 : (F_29 18).toInt = (F 18).toInt := congrArg Int32.toInt (F_29_o 18 (by decide))
          refine ok_pf hF_29 (trivial) ?_
          intro F_38 hF_38 F_38_k F_38_o
          have r_39 : 0 ≤ (F_38 11).toInt ∧ (F_38 11).toInt ≤ 400 := hF_38 11
          have f_40 : (F_38 11).toInt = (F_29 11).toInt := congrArg Int32.toInt (F_38_o 11 (by decide))
          have r_41 : 0 ≤ (F_38 13).toInt ∧ (F_38 13).toInt ≤ 5 := hF_38 13
          have f_42 : (F_38 13).toInt = (F_29 13).toInt := congrArg Int32.toInt (F_38_o 13 (by decide))
          have r_43 : 0 ≤ (F_38 15).toInt ∧ (F_38 15).toInt ≤ 5 := hF_38 15
          have f_44 : (F_38 15).toInt = (F_29 15).toInt := congrArg Int32.toInt (F_38_o 15 (by decide))
          have r_45 : 0 ≤ (F_38 18).toInt ∧ (F_38 18).toInt ≤ 1 := hF_38 18
          have f_46 : (F_38 18).toInt = (F_29 18).toInt := congrArg Int32.toInt (F_38_o 18 (by decide))
          refine ok_some ?_
          refine ⟨hF_38, hA, (fun q hq => ((F_38_o q (fun e => hq (by rw [e]; decide))).trans (F_29_o q (fun e => hq (by rw [e]; decide))))), (fun q hq => rfl), ?_⟩
          (try dsimp only) <;> exact ⟨by omega, by omega⟩
        · rw [i_nne] at c_28
          refine ok_cond (fun c_47 => ?_) (fun c_47 => ?_)
          · rw [i_lt] at c_47
            unfold d_wrong_46
            refine ok_pf hF (⟨by omega, by omega⟩) ?_
            intro F_48 hF_48 F_48_k F_48_o
            have r_49 : 0 ≤ (F_48 11).toInt ∧ (F_48 11).toInt ≤ 400 := hF_48 11
            have f_50 : (F_48 11).toInt = (F 11).toInt := congrArg Int32.toInt (F_48_o 11 (by decide))
            have r_51 : 0 ≤ (F_48 13).toInt ∧ (F_48 13).toInt ≤ 5 := hF_48 13
            have f_52 : (F_48 13).toInt = (F 13).toInt := congrArg Int32.toInt (F_48_o 13 (by decide))
            have r_53 : 0 ≤ (F_48 15).toInt ∧ (F_48 15).toInt ≤ 5 := hF_48 15
            have f_54 : (F_48 15).toInt = (x1).toInt := congrArg Int32.toInt F_48_k
            have r_55 : 0 ≤ (F_48 18).toInt ∧ (F_48 18).toInt ≤ 1 := hF_48 18
            have f_56 : (F_48 18).toInt = (F 18).toInt := congrArg Int32.toInt (F_48_o 18 (by decide))
            refine ok_pf hF_48 (trivial) ?_
            intro F_57 hF_57 F_57_k F_57_o
            have r_58 : 0 ≤ (F_57 11).toInt ∧ (F_57 11).toInt ≤ 400 := hF_57 11
            have f_59 : (F_57 11).toInt = (F_48 11).toInt := congrArg Int32.toInt (F_57_o 11 (by decide))
            have r_60 : 0 ≤ (F_57 13).toInt ∧ (F_57 13).toInt ≤ 5 := hF_57 13
            have f_61 : (F_57 13).toInt = (F_48 13).toInt := congrArg Int32.toInt (F_57_o 13 (by decide))
            have r_62 : 0 ≤ (F_57 15).toInt ∧ (F_57 15).toInt ≤ 5 := hF_57 15
            have f_63 : (F_57 15).toInt = (F_48 15).toInt := congrArg Int32.toInt (F_57_o 15 (by decide))
            have r_64 : 0 ≤ (F_57 18).toInt ∧ (F_57 18).toInt ≤ 1 := hF_57 18
            have f_65 : (F_57 18).toInt = (F_48 18).toInt := congrArg Int32.toInt (F_57_o 18 (by decide))
            refine ok_some ?_
            refine ⟨hF_57, hA, (fun q hq => ((F_57_o q (fun e => hq (by rw [e]; decide))).trans (F_48_o q (fun e => hq (by rw [e]; decide))))), (fun q hq => rfl), ?_⟩
            (try dsimp only) <;> exact ⟨by omega, by omega⟩
          · rw [i_nlt] at c_47
            refine ok_some ?_
            refine ⟨hF, hA, (fun q hq => rfl), (fun q hq => rfl), ?_⟩
            (try dsimp only) <;> exact ⟨by omega, by omega⟩
set_option maxRecDepth 10000 in
theorem s_d_goesOn {F : Nat → Int32} {A : Nat → Nat → Int32} {J : Nat → Nat → Int64}  (hF : IFm F) (hA : IAm A) : ok (d_goesOn F A J) (fun r => IFm r.2.1 ∧ IAm r.2.2.1 ∧ (∀ q, q ∉ ([11, 13, 14] : List Nat) → r.2.1 q = F q) ∧ (∀ q, q ∉ ([] : List Nat) → r.2.2.1 q = A q) ∧ (((r.2.1 11).toInt = (F 11).toInt + 1 ∧ (r.2.1 13).toInt = (F 13).toInt) ∨ ((r.2.1 11).toInt = (F 11).toInt ∧ 1 ≤ (r.2.1 13).toInt))) := by
  have r18 : 0 ≤ (F 18).toInt ∧ (F 18).toInt ≤ 1 := hF 18
  have r_1 : 0 ≤ (F 11).toInt ∧ (F 11).toInt ≤ 400 := hF 11
  have r_2 : 0 ≤ (F 13).toInt ∧ (F 13).toInt ≤ 5 := hF 13
  have r_3 : 0 ≤ (F 15).toInt ∧ (F 15).toInt ≤ 5 := hF 15
  have r_4 : 0 ≤ (F 18).toInt ∧ (F 18).toInt ≤ 1 := hF 18
  unfold d_goesOn
  have l_5 : (400 : Int32).toInt = 400 := by decide
  refine ok_cond (fun c_6 => ?_) (fun c_6 => ?_)
  · rw [i_ne] at c_6
    have l_7 : (1 : Int32).toInt = 1 := by decide
    have e_8 := i_add (x := (F 11)) (y := 1) (by omega) (by omega)
    refine ok_pf hF (⟨by omega, by omega⟩) ?_
    intro F_9 hF_9 F_9_k F_9_o
    have r_10 : 0 ≤ (F_9 11).toInt ∧ (F_9 11).toInt ≤ 400 := hF_9 11
    have f_11 : (F_9 11).toInt = (((F 11) + 1)).toInt := congrArg Int32.toInt F_9_k
    have r_12 : 0 ≤ (F_9 13).toInt ∧ (F_9 13).toInt ≤ 5 := hF_9 13
    have f_13 : (F_9 13).toInt = (F 13).toInt := congrArg Int32.toInt (F_9_o 13 (by decide))
    have r_14 : 0 ≤ (F_9 15).toInt ∧ (F_9 15).toInt ≤ 5 := hF_9 15
    have f_15 : (F_9 15).toInt = (F 15).toInt := congrArg Int32.toInt (F_9_o 15 (by decide))
    have r_16 : 0 ≤ (F_9 18).toInt ∧ (F_9 18).toInt ≤ 1 := hF_9 18
    have f_17 : (F_9 18).toInt = (F 18).toInt := congrArg Int32.toInt (F_9_o 18 (by decide))
    refine ok_some ?_
    refine ⟨hF_9, hA, (fun q hq => (F_9_o q (fun e => hq (by rw [e]; decide)))), (fun q hq => rfl), ?_⟩
    (try dsimp only) <;> omega
  · rw [i_nne] at c_6
    have l_18 : (2 : Int32).toInt = 2 := by decide
    refine ok_call (s_d_fail hF hA (by omega)) ?_
    rintro ⟨u_19, F_20, A_21, J_22⟩ ⟨hF_20, hA_21, F_20_o, A_21_o, u_19_p⟩
    dsimp only at hF_20 hA_21 F_20_o A_21_o u_19_p ⊢
    have u_19_p : 1 ≤ (F_20 13).toInt := u_19_p
    have r_23 : 0 ≤ (F_20 11).toInt ∧ (F_20 11).toInt ≤ 400 := hF_20 11
    have f_24 : (F_20 11).toInt = (F 11).toInt := congrArg Int32.toInt (F_20_o 11 (by decide))
    have r_25 : 0 ≤ (F_20 13).toInt ∧ (F_20 13).toInt ≤ 5 := hF_20 13
    have r_26 : 0 ≤ (F_20 15).toInt ∧ (F_20 15).toInt ≤ 5 := hF_20 15
    have f_27 : (F_20 15).toInt = (F 15).toInt := congrArg Int32.toInt (F_20_o 15 (by decide))
    have r_28 : 0 ≤ (F_20 18).toInt ∧ (F_20 18).toInt ≤ 1 := hF_20 18
    have f_29 : (F_20 18).toInt = (F 18).toInt := congrArg Int32.toInt (F_20_o 18 (by decide))
    refine ok_some ?_
    refine ⟨hF_20, hA_21, (fun q hq => (F_20_o q (fun e => hq ((by decide : ∀ x, x ∈ ([13, 14] : List Nat) → x ∈ ([11, 13, 14] : List Nat)) q e)))), (fun q hq => (A_21_o q hq)), ?_⟩
    (try dsimp only) <;> omega
set_option maxRecDepth 10000 in
theorem s_d_must {F : Nat → Int32} {A : Nat → Nat → Int32} {J : Nat → Nat → Int64} {x1 : Int32} (hF : IFm F) (hA : IAm A) : ok (d_must F A J x1) (fun r => IFm r.2.1 ∧ IAm r.2.2.1 ∧ (∀ q, q ∉ ([11, 13, 14] : List Nat) → r.2.1 q = F q) ∧ (∀ q, q ∉ ([] : List Nat) → r.2.2.1 q = A q) ∧ (((F 13).toInt = 0 ∧ (r.2.1 11).toInt = (F 11).toInt + 1 ∧ (r.2.1 13).toInt = 0) ∨ ((r.2.1 11).toInt = (F 11).toInt ∧ 1 ≤ (r.2.1 13).toInt))) := by
  have r18 : 0 ≤ (F 18).toInt ∧ (F 18).toInt ≤ 1 := hF 18
  have r_1 : 0 ≤ (F 11).toInt ∧ (F 11).toInt ≤ 400 := hF 11
  have r_2 : 0 ≤ (F 13).toInt ∧ (F 13).toInt ≤ 5 := hF 13
  have r_3 : 0 ≤ (F 15).toInt ∧ (F 15).toInt ≤ 5 := hF 15
  have r_4 : 0 ≤ (F 18).toInt ∧ (F 18).toInt ≤ 1 := hF 18
  unfold d_must
  refine ok_call (s_d_is hF hA) ?_
  intro v_5 v_5_p
  have v_5_p : (v_5.toInt = 0 ∨ (v_5.toInt = 1 ∧ (F 13).toInt = 0 ∧ ai A 3 (F 11).toInt = x1.toInt)) ∧ (v_5.toInt ≠ 0 ∨ (F 13).toInt ≠ 0 ∨ ai A 3 (F 11).toInt ≠ x1.toInt) := v_5_p
  have l_6 : (0 : Int32).toInt = 0 := by decide
  refine ok_cond (fun c_7 => ?_) (fun c_7 => ?_)
  · rw [i_eq] at c_7
    have l_8 : (1 : Int32).toInt = 1 := by decide
    refine ok_call (s_d_fail hF hA (by omega)) ?_
    rintro ⟨u_9, F_10, A_11, J_12⟩ ⟨hF_10, hA_11, F_10_o, A_11_o, u_9_p⟩
    dsimp only at hF_10 hA_11 F_10_o A_11_o u_9_p ⊢
    have u_9_p : 1 ≤ (F_10 13).toInt := u_9_p
    have r_13 : 0 ≤ (F_10 11).toInt ∧ (F_10 11).toInt ≤ 400 := hF_10 11
    have f_14 : (F_10 11).toInt = (F 11).toInt := congrArg Int32.toInt (F_10_o 11 (by decide))
    have r_15 : 0 ≤ (F_10 13).toInt ∧ (F_10 13).toInt ≤ 5 := hF_10 13
    have r_16 : 0 ≤ (F_10 15).toInt ∧ (F_10 15).toInt ≤ 5 := hF_10 15
    have f_17 : (F_10 15).toInt = (F 15).toInt := congrArg Int32.toInt (F_10_o 15 (by decide))
    have r_18 : 0 ≤ (F_10 18).toInt ∧ (F_10 18).toInt ≤ 1 := hF_10 18
    have f_19 : (F_10 18).toInt = (F 18).toInt := congrArg Int32.toInt (F_10_o 18 (by decide))
    refine ok_some ?_
    refine ⟨hF_10, hA_11, (fun q hq => (F_10_o q (fun e => hq ((by decide : ∀ x, x ∈ ([13, 14] : List Nat) → x ∈ ([11, 13, 14] : List Nat)) q e)))), (fun q hq => (A_11_o q hq)), ?_⟩
    (try dsimp only) <;> omega
  · rw [i_neq] at c_7
    refine ok_call (s_d_goesOn hF hA) ?_
    rintro ⟨u_20, F_21, A_22, J_23⟩ ⟨hF_21, hA_22, F_21_o, A_22_o, u_20_p⟩
    dsimp only at hF_21 hA_22 F_21_o A_22_o u_20_p ⊢
    have u_20_p : (((F_21 11).toInt = (F 11).toInt + 1 ∧ (F_21 13).toInt = (F 13).toInt) ∨ ((F_21 11).toInt = (F 11).toInt ∧ 1 ≤ (F_21 13).toInt)) := u_20_p
    have r_24 : 0 ≤ (F_21 11).toInt ∧ (F_21 11).toInt ≤ 400 := hF_21 11
    have r_25 : 0 ≤ (F_21 13).toInt ∧ (F_21 13).toInt ≤ 5 := hF_21 13
    have r_26 : 0 ≤ (F_21 15).toInt ∧ (F_21 15).toInt ≤ 5 := hF_21 15
    have f_27 : (F_21 15).toInt = (F 15).toInt := congrArg Int32.toInt (F_21_o 15 (by decide))
    have r_28 : 0 ≤ (F_21 18).toInt ∧ (F_21 18).toInt ≤ 1 := hF_21 18
    have f_29 : (F_21 18).toInt = (F 18).toInt := congrArg Int32.toInt (F_21_o 18 (by decide))
    refine ok_some ?_
    refine ⟨hF_21, hA_22, (fun q hq => (F_21_o q hq)), (fun q hq => (A_22_o q hq)), ?_⟩
    (try dsimp only) <;> omega
set_option maxRecDepth 10000 in
theorem s_d_roomFor {F : Nat → Int32} {A : Nat → Nat → Int32} {J : Nat → Nat → Int64} {x1 : Int32} {x2 : Int32} (hF : IFm F) (hA : IAm A) : ok (d_roomFor F A J x1 x2) (fun r => IFm r.2.1 ∧ IAm r.2.2.1 ∧ (∀ q, q ∉ ([11, 13, 14] : List Nat) → r.2.1 q = F q) ∧ (∀ q, q ∉ ([] : List Nat) → r.2.2.1 q = A q) ∧ (((F 13).toInt = 0 ∧ x1.toInt ≠ x2.toInt ∧ (r.2.1 11).toInt = (F 11).toInt + 1 ∧ (r.2.1 13).toInt = 0) ∨ ((r.2.1 11).toInt = (F 11).toInt ∧ 1 ≤ (r.2.1 13).toInt))) := by
  have r18 : 0 ≤ (F 18).toInt ∧ (F 18).toInt ≤ 1 := hF 18
  have r_1 : 0 ≤ (F 11).toInt ∧ (F 11).toInt ≤ 400 := hF 11
  have r_2 : 0 ≤ (F 13).toInt ∧ (F 13).toInt ≤ 5 := hF 13
  have r_3 : 0 ≤ (F 15).toInt ∧ (F 15).toInt ≤ 5 := hF 15
  have r_4 : 0 ≤ (F 18).toInt ∧ (F 18).toInt ≤ 1 := hF 18
  unfold d_roomFor
  refine ok_cond (fun c_5 => ?_) (fun c_5 => ?_)
  · rw [i_ne] at c_5
    unfold d_roomFor_10
    have l_6 : (0 : Int32).toInt = 0 := by decide
    refine ok_cond (fun c_7 => ?_) (fun c_7 => ?_)
    · rw [i_ne] at c_7
      refine ok_some ?_
      refine ⟨hF, hA, (fun q hq => rfl), (fun q hq => rfl), ?_⟩
      (try dsimp only) <;> omega
    · rw [i_nne] at c_7
      refine ok_call (s_d_goesOn hF hA) ?_
      rintro ⟨u_8, F_9, A_10, J_11⟩ ⟨hF_9, hA_10, F_9_o, A_10_o, u_8_p⟩
      dsimp only at hF_9 hA_10 F_9_o A_10_o u_8_p ⊢
      have u_8_p : (((F_9 11).toInt = (F 11).toInt + 1 ∧ (F_9 13).toInt = (F 13).toInt) ∨ ((F_9 11).toInt = (F 11).toInt ∧ 1 ≤ (F_9 13).toInt)) := u_8_p
      have r_12 : 0 ≤ (F_9 11).toInt ∧ (F_9 11).toInt ≤ 400 := hF_9 11
      have r_13 : 0 ≤ (F_9 13).toInt ∧ (F_9 13).toInt ≤ 5 := hF_9 13
      have r_14 : 0 ≤ (F_9 15).toInt ∧ (F_9 15).toInt ≤ 5 := hF_9 15
      have f_15 : (F_9 15).toInt = (F 15).toInt := congrArg Int32.toInt (F_9_o 15 (by decide))
      have r_16 : 0 ≤ (F_9 18).toInt ∧ (F_9 18).toInt ≤ 1 := hF_9 18
      have f_17 : (F_9 18).toInt = (F 18).toInt := congrArg Int32.toInt (F_9_o 18 (by decide))
      refine ok_some ?_
      refine ⟨hF_9, hA_10, (fun q hq => (F_9_o q hq)), (fun q hq => (A_10_o q hq)), ?_⟩
      (try dsimp only) <;> omega
  · rw [i_nne] at c_5
    have l_18 : (2 : Int32).toInt = 2 := by decide
    refine ok_call (s_d_fail hF hA (by omega)) ?_
    rintro ⟨u_19, F_20, A_21, J_22⟩ ⟨hF_20, hA_21, F_20_o, A_21_o, u_19_p⟩
    dsimp only at hF_20 hA_21 F_20_o A_21_o u_19_p ⊢
    have u_19_p : 1 ≤ (F_20 13).toInt := u_19_p
    have r_23 : 0 ≤ (F_20 11).toInt ∧ (F_20 11).toInt ≤ 400 := hF_20 11
    have f_24 : (F_20 11).toInt = (F 11).toInt := congrArg Int32.toInt (F_20_o 11 (by decide))
    have r_25 : 0 ≤ (F_20 13).toInt ∧ (F_20 13).toInt ≤ 5 := hF_20 13
    have r_26 : 0 ≤ (F_20 15).toInt ∧ (F_20 15).toInt ≤ 5 := hF_20 15
    have f_27 : (F_20 15).toInt = (F 15).toInt := congrArg Int32.toInt (F_20_o 15 (by decide))
    have r_28 : 0 ≤ (F_20 18).toInt ∧ (F_20 18).toInt ≤ 1 := hF_20 18
    have f_29 : (F_20 18).toInt = (F 18).toInt := congrArg Int32.toInt (F_20_o 18 (by decide))
    have l_30 : (0 : Int32).toInt = 0 := by decide
    refine ok_cond (fun c_31 => ?_) (fun c_31 => ?_)
    · rw [i_ne] at c_31
      refine ok_some ?_
      refine ⟨hF_20, hA_21, (fun q hq => (F_20_o q (fun e => hq ((by decide : ∀ x, x ∈ ([13, 14] : List Nat) → x ∈ ([11, 13, 14] : List Nat)) q e)))), (fun q hq => (A_21_o q hq)), ?_⟩
      (try dsimp only) <;> omega
    · rw [i_nne] at c_31
      refine ok_call (s_d_goesOn hF_20 hA_21) ?_
      rintro ⟨u_32, F_33, A_34, J_35⟩ ⟨hF_33, hA_34, F_33_o, A_34_o, u_32_p⟩
      dsimp only at hF_33 hA_34 F_33_o A_34_o u_32_p ⊢
      have u_32_p : (((F_33 11).toInt = (F_20 11).toInt + 1 ∧ (F_33 13).toInt = (F_20 13).toInt) ∨ ((F_33 11).toInt = (F_20 11).toInt ∧ 1 ≤ (F_33 13).toInt)) := u_32_p
      have r_36 : 0 ≤ (F_33 11).toInt ∧ (F_33 11).toInt ≤ 400 := hF_33 11
      have r_37 : 0 ≤ (F_33 13).toInt ∧ (F_33 13).toInt ≤ 5 := hF_33 13
      have r_38 : 0 ≤ (F_33 15).toInt ∧ (F_33 15).toInt ≤ 5 := hF_33 15
      have f_39 : (F_33 15).toInt = (F_20 15).toInt := congrArg Int32.toInt (F_33_o 15 (by decide))
      have r_40 : 0 ≤ (F_33 18).toInt ∧ (F_33 18).toInt ≤ 1 := hF_33 18
      have f_41 : (F_33 18).toInt = (F_20 18).toInt := congrArg Int32.toInt (F_33_o 18 (by decide))
      refine ok_some ?_
      refine ⟨hF_33, hA_34, (fun q hq => ((F_33_o q hq).trans (F_20_o q (fun e => hq ((by decide : ∀ x, x ∈ ([13, 14] : List Nat) → x ∈ ([11, 13, 14] : List Nat)) q e))))), (fun q hq => ((A_34_o q hq).trans (A_21_o q hq))), ?_⟩
      (try dsimp only) <;> omega
set_option maxRecDepth 10000 in
theorem s_d_named_12  {n : Nat} {F : Nat → Int32} {A : Nat → Nat → Int32} {J : Nat → Nat → Int64} {x1 : Int32} {x2 : Int32} (hF : IFm F) (hA : IAm A) (rx1 : 0 ≤ x1.toInt ∧ x1.toInt ≤ 402) (rx2 : 0 ≤ x2.toInt ∧ x2.toInt ≤ 32) (hn : 33 - x2.toInt < (n : Int)) : ok (d_named_12 n F A J x1 x2) (fun r => IFm r.2.1 ∧ IAm r.2.2.1 ∧ (∀ q, q ∉ ([15, 16] : List Nat) → r.2.1 q = F q) ∧ (∀ q, q ∉ ([] : List Nat) → r.2.2.1 q = A q) ∧ r.1 = x1 ∧ ((F 15).toInt = 0 ∨ 1 ≤ (r.2.1 15).toInt)) := by
  induction n generalizing F A J x2 with
  | zero => exact absurd hn (by omega)
  | succ n ih =>
    have r18 : 0 ≤ (F 18).toInt ∧ (F 18).toInt ≤ 1 := hF 18
    have r_1 : 0 ≤ (F 11).toInt ∧ (F 11).toInt ≤ 400 := hF 11
    have r_2 : 0 ≤ (F 13).toInt ∧ (F 13).toInt ≤ 5 := hF 13
    have r_3 : 0 ≤ (F 15).toInt ∧ (F 15).toInt ≤ 5 := hF 15
    have r_4 : 0 ≤ (F 18).toInt ∧ (F 18).toInt ≤ 1 := hF 18
    have r_5 : 0 ≤ (F 19).toInt ∧ (F 19).toInt ≤ 1 := hF 19
    have r_6 : 0 ≤ (F 20).toInt ∧ (F 20).toInt ≤ 32 := hF 20
    unfold d_named_12
    refine ok_cond (fun c_7 => ?_) (fun c_7 => ?_)
    · rw [i_ge] at c_7
      refine ok_some ?_
      refine ⟨hF, hA, (fun q hq => rfl), (fun q hq => rfl), ?_⟩
      exact ⟨rfl, by (try dsimp only) <;> omega⟩
    · rw [i_nge] at c_7
      have l_8 : (0 : Int32).toInt = 0 := by decide
      refine ok_cond (fun c_9 => ?_) (fun c_9 => ?_)
      · rw [i_ne] at c_9
        refine ok_some ?_
        refine ⟨hF, hA, (fun q hq => rfl), (fun q hq => rfl), ?_⟩
        exact ⟨rfl, by (try dsimp only) <;> omega⟩
      · rw [i_nne] at c_9
        refine ok_ldJ1 (by omega) (by omega) ?_
        intro v_10
        refine ok_ldJ1 (by omega) (by omega) ?_
        intro v_11
        refine ok_cond (fun c_12 => ?_) (fun c_12 => ?_)
        · rw [i_ne] at c_12
          unfold d_named_49
          have l_13 : (1 : Int32).toInt = 1 := by decide
          have e_14 := i_add (x := x2) (y := 1) (by omega) (by omega)
          refine ok_mono (ih hF hA (by omega) (by omega)) ?_
          rintro ⟨v_15, F_16, A_17, J_18⟩ ⟨hF_16, hA_17, F_16_o, A_17_o, v_15_p⟩
          dsimp only at hF_16 hA_17 F_16_o A_17_o v_15_p ⊢
          have v_15_p : v_15 = x1 ∧ ((F 15).toInt = 0 ∨ 1 ≤ (F_16 15).toInt) := v_15_p
          have r_19 : 0 ≤ (F_16 11).toInt ∧ (F_16 11).toInt ≤ 400 := hF_16 11
          have f_20 : (F_16 11).toInt = (F 11).toInt := congrArg Int32.toInt (F_16_o 11 (by decide))
          have r_21 : 0 ≤ (F_16 13).toInt ∧ (F_16 13).toInt ≤ 5 := hF_16 13
          have f_22 : (F_16 13).toInt = (F 13).toInt := congrArg Int32.toInt (F_16_o 13 (by decide))
          have r_23 : 0 ≤ (F_16 15).toInt ∧ (F_16 15).toInt ≤ 5 := hF_16 15
          have r_24 : 0 ≤ (F_16 18).toInt ∧ (F_16 18).toInt ≤ 1 := hF_16 18
          have f_25 : (F_16 18).toInt = (F 18).toInt := congrArg Int32.toInt (F_16_o 18 (by decide))
          have r_26 : 0 ≤ (F_16 19).toInt ∧ (F_16 19).toInt ≤ 1 := hF_16 19
          have f_27 : (F_16 19).toInt = (F 19).toInt := congrArg Int32.toInt (F_16_o 19 (by decide))
          have r_28 : 0 ≤ (F_16 20).toInt ∧ (F_16 20).toInt ≤ 32 := hF_16 20
          have f_29 : (F_16 20).toInt = (F 20).toInt := congrArg Int32.toInt (F_16_o 20 (by decide))
          refine ⟨hF_16, hA_17, (fun q hq => (F_16_o q hq)), (fun q hq => (A_17_o q hq)), ?_⟩
          exact ⟨v_15_p.1, by (try dsimp only) <;> omega⟩
        · rw [i_nne] at c_12
          have l_30 : (3 : Int32).toInt = 3 := by decide
          refine ok_call (s_d_wrong hF hA (by omega) (by omega)) ?_
          rintro ⟨u_31, F_32, A_33, J_34⟩ ⟨hF_32, hA_33, F_32_o, A_33_o, u_31_p⟩
          dsimp only at hF_32 hA_33 F_32_o A_33_o u_31_p ⊢
          have u_31_p : (1 ≤ (F 13).toInt ∨ 1 ≤ (F_32 15).toInt) ∧ ((F 15).toInt = 0 ∨ 1 ≤ (F_32 15).toInt) := u_31_p
          have r_35 : 0 ≤ (F_32 11).toInt ∧ (F_32 11).toInt ≤ 400 := hF_32 11
          have f_36 : (F_32 11).toInt = (F 11).toInt := congrArg Int32.toInt (F_32_o 11 (by decide))
          have r_37 : 0 ≤ (F_32 13).toInt ∧ (F_32 13).toInt ≤ 5 := hF_32 13
          have f_38 : (F_32 13).toInt = (F 13).toInt := congrArg Int32.toInt (F_32_o 13 (by decide))
          have r_39 : 0 ≤ (F_32 15).toInt ∧ (F_32 15).toInt ≤ 5 := hF_32 15
          have r_40 : 0 ≤ (F_32 18).toInt ∧ (F_32 18).toInt ≤ 1 := hF_32 18
          have f_41 : (F_32 18).toInt = (F 18).toInt := congrArg Int32.toInt (F_32_o 18 (by decide))
          have r_42 : 0 ≤ (F_32 19).toInt ∧ (F_32 19).toInt ≤ 1 := hF_32 19
          have f_43 : (F_32 19).toInt = (F 19).toInt := congrArg Int32.toInt (F_32_o 19 (by decide))
          have r_44 : 0 ≤ (F_32 20).toInt ∧ (F_32 20).toInt ≤ 32 := hF_32 20
          have f_45 : (F_32 20).toInt = (F 20).toInt := congrArg Int32.toInt (F_32_o 20 (by decide))
          have l_46 : (1 : Int32).toInt = 1 := by decide
          have e_47 := i_add (x := x2) (y := 1) (by omega) (by omega)
          refine ok_mono (ih hF_32 hA_33 (by omega) (by omega)) ?_
          rintro ⟨v_48, F_49, A_50, J_51⟩ ⟨hF_49, hA_50, F_49_o, A_50_o, v_48_p⟩
          dsimp only at hF_49 hA_50 F_49_o A_50_o v_48_p ⊢
          have v_48_p : v_48 = x1 ∧ ((F_32 15).toInt = 0 ∨ 1 ≤ (F_49 15).toInt) := v_48_p
          have r_52 : 0 ≤ (F_49 11).toInt ∧ (F_49 11).toInt ≤ 400 := hF_49 11
          have f_53 : (F_49 11).toInt = (F_32 11).toInt := congrArg Int32.toInt (F_49_o 11 (by decide))
          have r_54 : 0 ≤ (F_49 13).toInt ∧ (F_49 13).toInt ≤ 5 := hF_49 13
          have f_55 : (F_49 13).toInt = (F_32 13).toInt := congrArg Int32.toInt (F_49_o 13 (by decide))
          have r_56 : 0 ≤ (F_49 15).toInt ∧ (F_49 15).toInt ≤ 5 := hF_49 15
          have r_57 : 0 ≤ (F_49 18).toInt ∧ (F_49 18).toInt ≤ 1 := hF_49 18
          have f_58 : (F_49 18).toInt = (F_32 18).toInt := congrArg Int32.toInt (F_49_o 18 (by decide))
          have r_59 : 0 ≤ (F_49 19).toInt ∧ (F_49 19).toInt ≤ 1 := hF_49 19
          have f_60 : (F_49 19).toInt = (F_32 19).toInt := congrArg Int32.toInt (F_49_o 19 (by decide))
          have r_61 : 0 ≤ (F_49 20).toInt ∧ (F_49 20).toInt ≤ 32 := hF_49 20
          have f_62 : (F_49 20).toInt = (F_32 20).toInt := congrArg Int32.toInt (F_49_o 20 (by decide))
          refine ⟨hF_49, hA_50, (fun q hq => ((F_49_o q hq).trans (F_32_o q hq))), (fun q hq => ((A_50_o q hq).trans (A_33_o q hq))), ?_⟩
          exact ⟨v_48_p.1, by (try dsimp only) <;> omega⟩
set_option maxRecDepth 10000 in
theorem s_d_named {n : Nat} {F : Nat → Int32} {A : Nat → Nat → Int32} {J : Nat → Nat → Int64}  (hF : IFm F) (hA : IAm A) (hn : 40 ≤ n) : ok (d_named n F A J) (fun r => IFm r.2.1 ∧ IAm r.2.2.1 ∧ (∀ q, q ∉ ([11, 13, 14, 15, 16] : List Nat) → r.2.1 q = F q) ∧ (∀ q, q ∉ ([] : List Nat) → r.2.2.1 q = A q) ∧ r.1 = F 11 ∧ (((F 13).toInt = 0 ∧ (r.2.1 11).toInt = (F 11).toInt + 1 ∧ (r.2.1 13).toInt = 0) ∨ ((r.2.1 11).toInt = (F 11).toInt ∧ 1 ≤ (r.2.1 13).toInt)) ∧ ((F 15).toInt = 0 ∨ 1 ≤ (r.2.1 15).toInt)) := by
  have r18 : 0 ≤ (F 18).toInt ∧ (F 18).toInt ≤ 1 := hF 18
  have r_1 : 0 ≤ (F 11).toInt ∧ (F 11).toInt ≤ 400 := hF 11
  have r_2 : 0 ≤ (F 13).toInt ∧ (F 13).toInt ≤ 5 := hF 13
  have r_3 : 0 ≤ (F 15).toInt ∧ (F 15).toInt ≤ 5 := hF 15
  have r_4 : 0 ≤ (F 18).toInt ∧ (F 18).toInt ≤ 1 := hF 18
  have r_5 : 0 ≤ (F 19).toInt ∧ (F 19).toInt ≤ 1 := hF 19
  have r_6 : 0 ≤ (F 20).toInt ∧ (F 20).toInt ≤ 32 := hF 20
  unfold d_named
  refine ok_call (s_d_must hF hA) ?_
  rintro ⟨u_7, F_8, A_9, J_10⟩ ⟨hF_8, hA_9, F_8_o, A_9_o, u_7_p⟩
  dsimp only at hF_8 hA_9 F_8_o A_9_o u_7_p ⊢
  have u_7_p : (((F 13).toInt = 0 ∧ (F_8 11).toInt = (F 11).toInt + 1 ∧ (F_8 13).toInt = 0) ∨ ((F_8 11).toInt = (F 11).toInt ∧ 1 ≤ (F_8 13).toInt)) := u_7_p
  have r_11 : 0 ≤ (F_8 11).toInt ∧ (F_8 11).toInt ≤ 400 := hF_8 11
  have r_12 : 0 ≤ (F_8 13).toInt ∧ (F_8 13).toInt ≤ 5 := hF_8 13
  have r_13 : 0 ≤ (F_8 15).toInt ∧ (F_8 15).toInt ≤ 5 := hF_8 15
  have f_14 : (F_8 15).toInt = (F 15).toInt := congrArg Int32.toInt (F_8_o 15 (by decide))
  have r_15 : 0 ≤ (F_8 18).toInt ∧ (F_8 18).toInt ≤ 1 := hF_8 18
  have f_16 : (F_8 18).toInt = (F 18).toInt := congrArg Int32.toInt (F_8_o 18 (by decide))
  have r_17 : 0 ≤ (F_8 19).toInt ∧ (F_8 19).toInt ≤ 1 := hF_8 19
  have f_18 : (F_8 19).toInt = (F 19).toInt := congrArg Int32.toInt (F_8_o 19 (by decide))
  have r_19 : 0 ≤ (F_8 20).toInt ∧ (F_8 20).toInt ≤ 32 := hF_8 20
  have f_20 : (F_8 20).toInt = (F 20).toInt := congrArg Int32.toInt (F_8_o 20 (by decide))
  have l_21 : (0 : Int32).toInt = 0 := by decide
  refine ok_mono (s_d_named_12 hF_8 hA_9 (by omega) (by omega) (by omega)) ?_
  rintro ⟨v_22, F_23, A_24, J_25⟩ ⟨hF_23, hA_24, F_23_o, A_24_o, v_22_p⟩
  dsimp only at hF_23 hA_24 F_23_o A_24_o v_22_p ⊢
  have v_22_p : v_22 = (F 11) ∧ ((F_8 15).toInt = 0 ∨ 1 ≤ (F_23 15).toInt) := v_22_p
  have r_26 : 0 ≤ (F_23 11).toInt ∧ (F_23 11).toInt ≤ 400 := hF_23 11
  have f_27 : (F_23 11).toInt = (F_8 11).toInt := congrArg Int32.toInt (F_23_o 11 (by decide))
  have r_28 : 0 ≤ (F_23 13).toInt ∧ (F_23 13).toInt ≤ 5 := hF_23 13
  have f_29 : (F_23 13).toInt = (F_8 13).toInt := congrArg Int32.toInt (F_23_o 13 (by decide))
  have r_30 : 0 ≤ (F_23 15).toInt ∧ (F_23 15).toInt ≤ 5 := hF_23 15
  have r_31 : 0 ≤ (F_23 18).toInt ∧ (F_23 18).toInt ≤ 1 := hF_23 18
  have f_32 : (F_23 18).toInt = (F_8 18).toInt := congrArg Int32.toInt (F_23_o 18 (by decide))
  have r_33 : 0 ≤ (F_23 19).toInt ∧ (F_23 19).toInt ≤ 1 := hF_23 19
  have f_34 : (F_23 19).toInt = (F_8 19).toInt := congrArg Int32.toInt (F_23_o 19 (by decide))
  have r_35 : 0 ≤ (F_23 20).toInt ∧ (F_23 20).toInt ≤ 32 := hF_23 20
  have f_36 : (F_23 20).toInt = (F_8 20).toInt := congrArg Int32.toInt (F_23_o 20 (by decide))
  refine ⟨hF_23, hA_24, (fun q hq => ((F_23_o q (fun e => hq ((by decide : ∀ x, x ∈ ([15, 16] : List Nat) → x ∈ ([11, 13, 14, 15, 16] : List Nat)) q e))).trans (F_8_o q (fun e => hq ((by decide : ∀ x, x ∈ ([11, 13, 14] : List Nat) → x ∈ ([11, 13, 14, 15, 16] : List Nat)) q e))))), (fun q hq => ((A_24_o q hq).trans (A_9_o q hq))), ?_⟩
  exact ⟨v_22_p.1, by (try dsimp only) <;> omega, by (try dsimp only) <;> omega⟩
set_option maxRecDepth 10000 in
theorem s_d_notes {F : Nat → Int32} {A : Nat → Nat → Int32} {J : Nat → Nat → Int64} {x1 : Int32} {x2 : Int32} {x3 : Int32} (hF : IFm F) (hA : IAm A) (h20 : (F 20).toInt ≤ 31) (rx1 : 0 ≤ x1.toInt ∧ x1.toInt ≤ 402) (rx3 : 0 ≤ x3.toInt ∧ x3.toInt ≤ 7) : ok (d_notes F A J x1 x2 x3) (fun r => IFm r.2.1 ∧ IAm r.2.2.1 ∧ (∀ q, q ∉ ([20] : List Nat) → r.2.1 q = F q) ∧ (∀ q, q ∉ ([9, 10] : List Nat) → r.2.2.1 q = A q) ∧ (r.2.1 20).toInt = (F 20).toInt + 1 ∧ ai r.2.2.1 9 (F 20).toInt = x2.toInt ∧ ai r.2.2.1 10 (F 20).toInt = x3.toInt ∧ (∀ q, 0 ≤ q → q ≠ (F 20).toInt → ai r.2.2.1 9 q = ai A 9 q ∧ ai r.2.2.1 10 q = ai A 10 q)) := by
  have r18 : 0 ≤ (F 18).toInt ∧ (F 18).toInt ≤ 1 := hF 18
  have r_1 : 0 ≤ (F 11).toInt ∧ (F 11).toInt ≤ 400 := hF 11
  have r_2 : 0 ≤ (F 13).toInt ∧ (F 13).toInt ≤ 5 := hF 13
  have r_3 : 0 ≤ (F 15).toInt ∧ (F 15).toInt ≤ 5 := hF 15
  have r_4 : 0 ≤ (F 18).toInt ∧ (F 18).toInt ≤ 1 := hF 18
  have r_5 : 0 ≤ (F 19).toInt ∧ (F 19).toInt ≤ 1 := hF 19
  have r_6 : 0 ≤ (F 20).toInt ∧ (F 20).toInt ≤ 32 := hF 20
  unfold d_notes
  refine ok_ldJ1 (by omega) (by omega) ?_
  intro v_7
  refine ok_stJ1 (by omega) (by omega) ?_
  intro J_8
  refine ok_st (j := 9) hA (by omega) (by omega) (trivial) ?_
  intro A_9 hA_9 A_9_o A_9_s A_9_n
  refine ok_st (j := 10) hA_9 (by omega) (by omega) (⟨by omega, by omega⟩) ?_
  intro A_10 hA_10 A_10_o A_10_s A_10_n
  have l_11 : (1 : Int32).toInt = 1 := by decide
  have e_12 := i_add (x := (F 20)) (y := 1) (by omega) (by omega)
  refine ok_pf hF (⟨by omega, by omega⟩) ?_
  intro F_13 hF_13 F_13_k F_13_o
  have r_14 : 0 ≤ (F_13 11).toInt ∧ (F_13 11).toInt ≤ 400 := hF_13 11
  have f_15 : (F_13 11).toInt = (F 11).toInt := congrArg Int32.toInt (F_13_o 11 (by decide))
  have r_16 : 0 ≤ (F_13 13).toInt ∧ (F_13 13).toInt ≤ 5 := hF_13 13
  have f_17 : (F_13 13).toInt = (F 13).toInt := congrArg Int32.toInt (F_13_o 13 (by decide))
  have r_18 : 0 ≤ (F_13 15).toInt ∧ (F_13 15).toInt ≤ 5 := hF_13 15
  have f_19 : (F_13 15).toInt = (F 15).toInt := congrArg Int32.toInt (F_13_o 15 (by decide))
  have r_20 : 0 ≤ (F_13 18).toInt ∧ (F_13 18).toInt ≤ 1 := hF_13 18
  have f_21 : (F_13 18).toInt = (F 18).toInt := congrArg Int32.toInt (F_13_o 18 (by decide))
  have r_22 : 0 ≤ (F_13 19).toInt ∧ (F_13 19).toInt ≤ 1 := hF_13 19
  have f_23 : (F_13 19).toInt = (F 19).toInt := congrArg Int32.toInt (F_13_o 19 (by decide))
  have r_24 : 0 ≤ (F_13 20).toInt ∧ (F_13 20).toInt ≤ 32 := hF_13 20
  have f_25 : (F_13 20).toInt = (((F 20) + 1)).toInt := congrArg Int32.toInt F_13_k
  have f20 : (F_13 20).toInt = (F 20).toInt + 1 := by rw [F_13_k]; omega
  have nt : ai A_10 9 (F 20).toInt = x2.toInt ∧ ai A_10 10 (F 20).toInt = x3.toInt ∧ (∀ q, 0 ≤ q → q ≠ (F 20).toInt → ai A_10 9 q = ai A 9 q ∧ ai A_10 10 q = ai A 10 q) := ⟨by rw [ai_fr (A_10_o 9 (by decide))]; exact A_9_s, A_10_s, fun q h0 h1 => ⟨by rw [ai_fr (A_10_o 9 (by decide))]; exact A_9_n q h0 h1, by rw [A_10_n q h0 h1, ai_fr (A_9_o 10 (by decide))]⟩⟩
  refine ok_some ?_
  refine ⟨hF_13, hA_10, (fun q hq => (F_13_o q (fun e => hq (by rw [e]; decide)))), (fun q hq => ((A_10_o q (fun e => hq (by rw [e]; decide))).trans (A_9_o q (fun e => hq (by rw [e]; decide))))), ?_⟩
  exact ⟨f20, nt⟩
set_option maxRecDepth 10000 in
theorem s_d_known_21  {n : Nat} {F : Nat → Int32} {A : Nat → Nat → Int32} {J : Nat → Nat → Int64} {x1 : Int32} {x2 : Int32} {x3 : Int32} (hF : IFm F) (hA : IAm A) (NFA : NMm F A) (rx1 : 0 ≤ x1.toInt ∧ x1.toInt ≤ 3) (rx2 : 0 ≤ x2.toInt ∧ x2.toInt ≤ 402) (rx3 : 0 ≤ x3.toInt ∧ x3.toInt ≤ 32) (hn : 33 - x3.toInt < (n : Int)) : ok (d_known_21 n F A J x1 x2 x3) (fun r => IFm r.2.1 ∧ IAm r.2.2.1 ∧ (∀ q, q ∉ ([15, 16] : List Nat) → r.2.1 q = F q) ∧ (∀ q, q ∉ ([] : List Nat) → r.2.2.1 q = A q) ∧ -1 ≤ r.1.toInt ∧ r.1.toInt ≤ 7 ∧ (0 ≤ r.1.toInt ∨ 1 ≤ (r.2.1 13).toInt ∨ 1 ≤ (r.2.1 15).toInt) ∧ ((F 15).toInt = 0 ∨ 1 ≤ (r.2.1 15).toInt) ∧ (r.1.toInt < 0 ∨ (x1.toInt = 0 ∧ r.1.toInt < ai A 11 (F 19).toInt) ∨ (x1.toInt = 1 ∧ r.1.toInt < ai A 17 (F 19).toInt) ∨ (x1.toInt = 2 ∧ r.1.toInt < ai A 19 (F 19).toInt) ∨ (x1.toInt = 3 ∧ r.1.toInt < ai A 29 (F 19).toInt))) := by
  induction n generalizing F A J x3 with
  | zero => exact absurd hn (by omega)
  | succ n ih =>
    have r18 : 0 ≤ (F 18).toInt ∧ (F 18).toInt ≤ 1 := hF 18
    have r_1 : 0 ≤ (F 11).toInt ∧ (F 11).toInt ≤ 400 := hF 11
    have r_2 : 0 ≤ (F 13).toInt ∧ (F 13).toInt ≤ 5 := hF 13
    have r_3 : 0 ≤ (F 15).toInt ∧ (F 15).toInt ≤ 5 := hF 15
    have r_4 : 0 ≤ (F 18).toInt ∧ (F 18).toInt ≤ 1 := hF 18
    have r_5 : 0 ≤ (F 19).toInt ∧ (F 19).toInt ≤ 1 := hF 19
    have r_6 : 0 ≤ (F 20).toInt ∧ (F 20).toInt ≤ 32 := hF 20
    unfold d_known_21
    refine ok_cond (fun c_7 => ?_) (fun c_7 => ?_)
    · rw [i_ge] at c_7
      have l_8 : (4 : Int32).toInt = 4 := by decide
      refine ok_call (s_d_wrong hF hA (by omega) (by omega)) ?_
      rintro ⟨u_9, F_10, A_11, J_12⟩ ⟨hF_10, hA_11, F_10_o, A_11_o, u_9_p⟩
      dsimp only at hF_10 hA_11 F_10_o A_11_o u_9_p ⊢
      have u_9_p : (1 ≤ (F 13).toInt ∨ 1 ≤ (F_10 15).toInt) ∧ ((F 15).toInt = 0 ∨ 1 ≤ (F_10 15).toInt) := u_9_p
      have r_13 : 0 ≤ (F_10 11).toInt ∧ (F_10 11).toInt ≤ 400 := hF_10 11
      have f_14 : (F_10 11).toInt = (F 11).toInt := congrArg Int32.toInt (F_10_o 11 (by decide))
      have r_15 : 0 ≤ (F_10 13).toInt ∧ (F_10 13).toInt ≤ 5 := hF_10 13
      have f_16 : (F_10 13).toInt = (F 13).toInt := congrArg Int32.toInt (F_10_o 13 (by decide))
      have r_17 : 0 ≤ (F_10 15).toInt ∧ (F_10 15).toInt ≤ 5 := hF_10 15
      have r_18 : 0 ≤ (F_10 18).toInt ∧ (F_10 18).toInt ≤ 1 := hF_10 18
      have f_19 : (F_10 18).toInt = (F 18).toInt := congrArg Int32.toInt (F_10_o 18 (by decide))
      have r_20 : 0 ≤ (F_10 19).toInt ∧ (F_10 19).toInt ≤ 1 := hF_10 19
      have f_21 : (F_10 19).toInt = (F 19).toInt := congrArg Int32.toInt (F_10_o 19 (by decide))
      have r_22 : 0 ≤ (F_10 20).toInt ∧ (F_10 20).toInt ≤ 32 := hF_10 20
      have f_23 : (F_10 20).toInt = (F 20).toInt := congrArg Int32.toInt (F_10_o 20 (by decide))
      have NF_10A_11 : NMm F_10 A_11 := NFA.fr0 (F_10_o 19 (by decide)) (F_10_o 20 (by decide)) (fun q hq => A_11_o q (by simp))
      refine ok_some ?_
      have l_24 : (-1 : Int32).toInt = -1 := by decide
      refine ⟨hF_10, hA_11, (fun q hq => (F_10_o q hq)), (fun q hq => (A_11_o q hq)), ?_⟩
      exact ⟨by (try dsimp only) <;> omega, by (try dsimp only) <;> omega, by (try dsimp only) <;> omega, by (try dsimp only) <;> omega, by (try dsimp only) <;> omega⟩
    · rw [i_nge] at c_7
      refine ok_ldJ1 (by omega) (by omega) ?_
      intro v_25
      refine ok_ldJ1 (by omega) (by omega) ?_
      intro v_26
      have l_27 : (0 : Int32).toInt = 0 := by decide
      refine ok_cond (fun c_28 => ?_) (fun c_28 => ?_)
      · rw [i_ne] at c_28
        unfold d_known_62
        have l_29 : (1 : Int32).toInt = 1 := by decide
        have e_30 := i_add (x := x3) (y := 1) (by omega) (by omega)
        refine ok_mono (ih hF hA (NFA) (by omega) (by omega)) ?_
        rintro ⟨v_31, F_32, A_33, J_34⟩ ⟨hF_32, hA_33, F_32_o, A_33_o, v_31_p⟩
        dsimp only at hF_32 hA_33 F_32_o A_33_o v_31_p ⊢
        have v_31_p : -1 ≤ v_31.toInt ∧ v_31.toInt ≤ 7 ∧ (0 ≤ v_31.toInt ∨ 1 ≤ (F_32 13).toInt ∨ 1 ≤ (F_32 15).toInt) ∧ ((F 15).toInt = 0 ∨ 1 ≤ (F_32 15).toInt) ∧ (v_31.toInt < 0 ∨ (x1.toInt = 0 ∧ v_31.toInt < ai A 11 (F 19).toInt) ∨ (x1.toInt = 1 ∧ v_31.toInt < ai A 17 (F 19).toInt) ∨ (x1.toInt = 2 ∧ v_31.toInt < ai A 19 (F 19).toInt) ∨ (x1.toInt = 3 ∧ v_31.toInt < ai A 29 (F 19).toInt)) := v_31_p
        have r_35 : 0 ≤ (F_32 11).toInt ∧ (F_32 11).toInt ≤ 400 := hF_32 11
        have f_36 : (F_32 11).toInt = (F 11).toInt := congrArg Int32.toInt (F_32_o 11 (by decide))
        have r_37 : 0 ≤ (F_32 13).toInt ∧ (F_32 13).toInt ≤ 5 := hF_32 13
        have f_38 : (F_32 13).toInt = (F 13).toInt := congrArg Int32.toInt (F_32_o 13 (by decide))
        have r_39 : 0 ≤ (F_32 15).toInt ∧ (F_32 15).toInt ≤ 5 := hF_32 15
        have r_40 : 0 ≤ (F_32 18).toInt ∧ (F_32 18).toInt ≤ 1 := hF_32 18
        have f_41 : (F_32 18).toInt = (F 18).toInt := congrArg Int32.toInt (F_32_o 18 (by decide))
        have r_42 : 0 ≤ (F_32 19).toInt ∧ (F_32 19).toInt ≤ 1 := hF_32 19
        have f_43 : (F_32 19).toInt = (F 19).toInt := congrArg Int32.toInt (F_32_o 19 (by decide))
        have r_44 : 0 ≤ (F_32 20).toInt ∧ (F_32 20).toInt ≤ 32 := hF_32 20
        have f_45 : (F_32 20).toInt = (F 20).toInt := congrArg Int32.toInt (F_32_o 20 (by decide))
        have NF_32A_33 : NMm F_32 A_33 := NFA.fr0 (F_32_o 19 (by decide)) (F_32_o 20 (by decide)) (fun q hq => A_33_o q (by simp))
        refine ⟨hF_32, hA_33, (fun q hq => (F_32_o q hq)), (fun q hq => (A_33_o q hq)), ?_⟩
        exact ⟨by (try dsimp only) <;> omega, by (try dsimp only) <;> omega, by (try dsimp only) <;> omega, by (try dsimp only) <;> omega, by (try dsimp only) <;> omega⟩
      · rw [i_nne] at c_28
        refine ok_ld (j := 9) hA (by omega) (by omega) ?_
        intro v_46 v_46_e v_46_r
        refine ok_cond (fun c_47 => ?_) (fun c_47 => ?_)
        · rw [i_ne] at c_47
          unfold d_known_62
          have l_48 : (1 : Int32).toInt = 1 := by decide
          have e_49 := i_add (x := x3) (y := 1) (by omega) (by omega)
          refine ok_mono (ih hF hA (NFA) (by omega) (by omega)) ?_
          rintro ⟨v_50, F_51, A_52, J_53⟩ ⟨hF_51, hA_52, F_51_o, A_52_o, v_50_p⟩
          dsimp only at hF_51 hA_52 F_51_o A_52_o v_50_p ⊢
          have v_50_p : -1 ≤ v_50.toInt ∧ v_50.toInt ≤ 7 ∧ (0 ≤ v_50.toInt ∨ 1 ≤ (F_51 13).toInt ∨ 1 ≤ (F_51 15).toInt) ∧ ((F 15).toInt = 0 ∨ 1 ≤ (F_51 15).toInt) ∧ (v_50.toInt < 0 ∨ (x1.toInt = 0 ∧ v_50.toInt < ai A 11 (F 19).toInt) ∨ (x1.toInt = 1 ∧ v_50.toInt < ai A 17 (F 19).toInt) ∨ (x1.toInt = 2 ∧ v_50.toInt < ai A 19 (F 19).toInt) ∨ (x1.toInt = 3 ∧ v_50.toInt < ai A 29 (F 19).toInt)) := v_50_p
          have r_54 : 0 ≤ (F_51 11).toInt ∧ (F_51 11).toInt ≤ 400 := hF_51 11
          have f_55 : (F_51 11).toInt = (F 11).toInt := congrArg Int32.toInt (F_51_o 11 (by decide))
          have r_56 : 0 ≤ (F_51 13).toInt ∧ (F_51 13).toInt ≤ 5 := hF_51 13
          have f_57 : (F_51 13).toInt = (F 13).toInt := congrArg Int32.toInt (F_51_o 13 (by decide))
          have r_58 : 0 ≤ (F_51 15).toInt ∧ (F_51 15).toInt ≤ 5 := hF_51 15
          have r_59 : 0 ≤ (F_51 18).toInt ∧ (F_51 18).toInt ≤ 1 := hF_51 18
          have f_60 : (F_51 18).toInt = (F 18).toInt := congrArg Int32.toInt (F_51_o 18 (by decide))
          have r_61 : 0 ≤ (F_51 19).toInt ∧ (F_51 19).toInt ≤ 1 := hF_51 19
          have f_62 : (F_51 19).toInt = (F 19).toInt := congrArg Int32.toInt (F_51_o 19 (by decide))
          have r_63 : 0 ≤ (F_51 20).toInt ∧ (F_51 20).toInt ≤ 32 := hF_51 20
          have f_64 : (F_51 20).toInt = (F 20).toInt := congrArg Int32.toInt (F_51_o 20 (by decide))
          have NF_51A_52 : NMm F_51 A_52 := NFA.fr0 (F_51_o 19 (by decide)) (F_51_o 20 (by decide)) (fun q hq => A_52_o q (by simp))
          refine ⟨hF_51, hA_52, (fun q hq => (F_51_o q hq)), (fun q hq => (A_52_o q hq)), ?_⟩
          exact ⟨by (try dsimp only) <;> omega, by (try dsimp only) <;> omega, by (try dsimp only) <;> omega, by (try dsimp only) <;> omega, by (try dsimp only) <;> omega⟩
        · rw [i_nne] at c_47
          refine ok_ld (j := 10) hA (by omega) (by omega) ?_
          intro v_65 v_65_e v_65_r
          have v_65_r : 0 ≤ v_65.toInt ∧ v_65.toInt ≤ 7 := v_65_r
          have nm := NFA x3.toInt (by omega) (by omega)
          obtain ⟨n0, n1, n2, n3⟩ := nm
          refine ok_some ?_
          refine ⟨hF, hA, (fun q hq => rfl), (fun q hq => rfl), ?_⟩
          exact ⟨by (try dsimp only) <;> omega, by (try dsimp only) <;> omega, by (try dsimp only) <;> omega, by (try dsimp only) <;> omega, by (try dsimp only) <;> omega⟩
set_option maxRecDepth 10000 in
theorem s_d_known {n : Nat} {F : Nat → Int32} {A : Nat → Nat → Int32} {J : Nat → Nat → Int64} {x1 : Int32} (hF : IFm F) (hA : IAm A) (hn : 40 ≤ n) (NFA : NMm F A) (rx1 : 0 ≤ x1.toInt ∧ x1.toInt ≤ 3) : ok (d_known n F A J x1) (fun r => IFm r.2.1 ∧ IAm r.2.2.1 ∧ (∀ q, q ∉ ([11, 13, 14, 15, 16] : List Nat) → r.2.1 q = F q) ∧ (∀ q, q ∉ ([] : List Nat) → r.2.2.1 q = A q) ∧ -1 ≤ r.1.toInt ∧ r.1.toInt ≤ 7 ∧ (0 ≤ r.1.toInt ∨ 1 ≤ (r.2.1 13).toInt ∨ 1 ≤ (r.2.1 15).toInt) ∧ ((F 15).toInt = 0 ∨ 1 ≤ (r.2.1 15).toInt) ∧ (r.1.toInt < 0 ∨ (x1.toInt = 0 ∧ r.1.toInt < ai A 11 (F 19).toInt) ∨ (x1.toInt = 1 ∧ r.1.toInt < ai A 17 (F 19).toInt) ∨ (x1.toInt = 2 ∧ r.1.toInt < ai A 19 (F 19).toInt) ∨ (x1.toInt = 3 ∧ r.1.toInt < ai A 29 (F 19).toInt)) ∧ (((F 13).toInt = 0 ∧ (r.2.1 11).toInt = (F 11).toInt + 1 ∧ (r.2.1 13).toInt = 0) ∨ ((r.2.1 11).toInt = (F 11).toInt ∧ 1 ≤ (r.2.1 13).toInt))) := by
  have r18 : 0 ≤ (F 18).toInt ∧ (F 18).toInt ≤ 1 := hF 18
  have r_1 : 0 ≤ (F 11).toInt ∧ (F 11).toInt ≤ 400 := hF 11
  have r_2 : 0 ≤ (F 13).toInt ∧ (F 13).toInt ≤ 5 := hF 13
  have r_3 : 0 ≤ (F 15).toInt ∧ (F 15).toInt ≤ 5 := hF 15
  have r_4 : 0 ≤ (F 18).toInt ∧ (F 18).toInt ≤ 1 := hF 18
  have r_5 : 0 ≤ (F 19).toInt ∧ (F 19).toInt ≤ 1 := hF 19
  have r_6 : 0 ≤ (F 20).toInt ∧ (F 20).toInt ≤ 32 := hF 20
  unfold d_known
  refine ok_call (s_d_must hF hA) ?_
  rintro ⟨u_7, F_8, A_9, J_10⟩ ⟨hF_8, hA_9, F_8_o, A_9_o, u_7_p⟩
  dsimp only at hF_8 hA_9 F_8_o A_9_o u_7_p ⊢
  have u_7_p : (((F 13).toInt = 0 ∧ (F_8 11).toInt = (F 11).toInt + 1 ∧ (F_8 13).toInt = 0) ∨ ((F_8 11).toInt = (F 11).toInt ∧ 1 ≤ (F_8 13).toInt)) := u_7_p
  have r_11 : 0 ≤ (F_8 11).toInt ∧ (F_8 11).toInt ≤ 400 := hF_8 11
  have r_12 : 0 ≤ (F_8 13).toInt ∧ (F_8 13).toInt ≤ 5 := hF_8 13
  have r_13 : 0 ≤ (F_8 15).toInt ∧ (F_8 15).toInt ≤ 5 := hF_8 15
  have f_14 : (F_8 15).toInt = (F 15).toInt := congrArg Int32.toInt (F_8_o 15 (by decide))
  have r_15 : 0 ≤ (F_8 18).toInt ∧ (F_8 18).toInt ≤ 1 := hF_8 18
  have f_16 : (F_8 18).toInt = (F 18).toInt := congrArg Int32.toInt (F_8_o 18 (by decide))
  have r_17 : 0 ≤ (F_8 19).toInt ∧ (F_8 19).toInt ≤ 1 := hF_8 19
  have f_18 : (F_8 19).toInt = (F 19).toInt := congrArg Int32.toInt (F_8_o 19 (by decide))
  have r_19 : 0 ≤ (F_8 20).toInt ∧ (F_8 20).toInt ≤ 32 := hF_8 20
  have f_20 : (F_8 20).toInt = (F 20).toInt := congrArg Int32.toInt (F_8_o 20 (by decide))
  have NF_8A_9 : NMm F_8 A_9 := NFA.fr0 (F_8_o 19 (by decide)) (F_8_o 20 (by decide)) (fun q hq => A_9_o q (by simp))
  have q11 : ai A_9 11 (F_8 19).toInt = ai A 11 (F 19).toInt := by rw [ai_fr (A_9_o 11 (by decide)), F_8_o 19 (by decide)]
  have q17 : ai A_9 17 (F_8 19).toInt = ai A 17 (F 19).toInt := by rw [ai_fr (A_9_o 17 (by decide)), F_8_o 19 (by decide)]
  have q19 : ai A_9 19 (F_8 19).toInt = ai A 19 (F 19).toInt := by rw [ai_fr (A_9_o 19 (by decide)), F_8_o 19 (by decide)]
  have q29 : ai A_9 29 (F_8 19).toInt = ai A 29 (F 19).toInt := by rw [ai_fr (A_9_o 29 (by decide)), F_8_o 19 (by decide)]
  have l_21 : (0 : Int32).toInt = 0 := by decide
  refine ok_cond (fun c_22 => ?_) (fun c_22 => ?_)
  · rw [i_le] at c_22
    refine ok_mono (s_d_known_21 hF_8 hA_9 (NF_8A_9) (by omega) (by omega) (by omega) (by omega)) ?_
    rintro ⟨v_23, F_24, A_25, J_26⟩ ⟨hF_24, hA_25, F_24_o, A_25_o, v_23_p⟩
    dsimp only at hF_24 hA_25 F_24_o A_25_o v_23_p ⊢
    have v_23_p : -1 ≤ v_23.toInt ∧ v_23.toInt ≤ 7 ∧ (0 ≤ v_23.toInt ∨ 1 ≤ (F_24 13).toInt ∨ 1 ≤ (F_24 15).toInt) ∧ ((F_8 15).toInt = 0 ∨ 1 ≤ (F_24 15).toInt) ∧ (v_23.toInt < 0 ∨ (x1.toInt = 0 ∧ v_23.toInt < ai A_9 11 (F_8 19).toInt) ∨ (x1.toInt = 1 ∧ v_23.toInt < ai A_9 17 (F_8 19).toInt) ∨ (x1.toInt = 2 ∧ v_23.toInt < ai A_9 19 (F_8 19).toInt) ∨ (x1.toInt = 3 ∧ v_23.toInt < ai A_9 29 (F_8 19).toInt)) := v_23_p
    have r_27 : 0 ≤ (F_24 11).toInt ∧ (F_24 11).toInt ≤ 400 := hF_24 11
    have f_28 : (F_24 11).toInt = (F_8 11).toInt := congrArg Int32.toInt (F_24_o 11 (by decide))
    have r_29 : 0 ≤ (F_24 13).toInt ∧ (F_24 13).toInt ≤ 5 := hF_24 13
    have f_30 : (F_24 13).toInt = (F_8 13).toInt := congrArg Int32.toInt (F_24_o 13 (by decide))
    have r_31 : 0 ≤ (F_24 15).toInt ∧ (F_24 15).toInt ≤ 5 := hF_24 15
    have r_32 : 0 ≤ (F_24 18).toInt ∧ (F_24 18).toInt ≤ 1 := hF_24 18
    have f_33 : (F_24 18).toInt = (F_8 18).toInt := congrArg Int32.toInt (F_24_o 18 (by decide))
    have r_34 : 0 ≤ (F_24 19).toInt ∧ (F_24 19).toInt ≤ 1 := hF_24 19
    have f_35 : (F_24 19).toInt = (F_8 19).toInt := congrArg Int32.toInt (F_24_o 19 (by decide))
    have r_36 : 0 ≤ (F_24 20).toInt ∧ (F_24 20).toInt ≤ 32 := hF_24 20
    have f_37 : (F_24 20).toInt = (F_8 20).toInt := congrArg Int32.toInt (F_24_o 20 (by decide))
    have NF_24A_25 : NMm F_24 A_25 := NF_8A_9.fr0 (F_24_o 19 (by decide)) (F_24_o 20 (by decide)) (fun q hq => A_25_o q (by simp))
    refine ⟨hF_24, hA_25, (fun q hq => ((F_24_o q (fun e => hq ((by decide : ∀ x, x ∈ ([15, 16] : List Nat) → x ∈ ([11, 13, 14, 15, 16] : List Nat)) q e))).trans (F_8_o q (fun e => hq ((by decide : ∀ x, x ∈ ([11, 13, 14] : List Nat) → x ∈ ([11, 13, 14, 15, 16] : List Nat)) q e))))), (fun q hq => ((A_25_o q hq).trans (A_9_o q hq))), ?_⟩
    exact ⟨by (try dsimp only) <;> omega, by (try dsimp only) <;> omega, by (try dsimp only) <;> omega, by (try dsimp only) <;> omega, by (try dsimp only) <;> omega, by (try dsimp only) <;> omega⟩
  · rw [i_nle] at c_22
    refine ok_some ?_
    have l_38 : (-1 : Int32).toInt = -1 := by decide
    refine ⟨hF_8, hA_9, (fun q hq => (F_8_o q (fun e => hq ((by decide : ∀ x, x ∈ ([11, 13, 14] : List Nat) → x ∈ ([11, 13, 14, 15, 16] : List Nat)) q e)))), (fun q hq => (A_9_o q hq)), ?_⟩
    exact ⟨by (try dsimp only) <;> omega, by (try dsimp only) <;> omega, by (try dsimp only) <;> omega, by (try dsimp only) <;> omega, by (try dsimp only) <;> omega, by (try dsimp only) <;> omega⟩
set_option maxRecDepth 10000 in
theorem s_d_bounded {F : Nat → Int32} {A : Nat → Nat → Int32} {J : Nat → Nat → Int64} {x1 : Int32} {x2 : Int32} (hF : IFm F) (hA : IAm A) (rx1 : 0 ≤ x1.toInt ∧ x1.toInt ≤ 1) : ok (d_bounded F A J x1 x2) (fun r => IFm r.2.1 ∧ IAm r.2.2.1 ∧ (∀ q, q ∉ ([11, 13, 14, 15, 16] : List Nat) → r.2.1 q = F q) ∧ (∀ q, q ∉ ([] : List Nat) → r.2.2.1 q = A q) ∧ 0 ≤ r.1.toInt ∧ r.1.toInt ≤ 9999 ∧ ((x1.toInt ≤ r.1.toInt ∧ r.1.toInt ≤ x2.toInt) ∨ 1 ≤ (r.2.1 13).toInt ∨ 1 ≤ (r.2.1 15).toInt) ∧ ((F 15).toInt = 0 ∨ 1 ≤ (r.2.1 15).toInt) ∧ (((F 13).toInt = 0 ∧ (r.2.1 11).toInt = (F 11).toInt + 1 ∧ (r.2.1 13).toInt = 0) ∨ ((r.2.1 11).toInt = (F 11).toInt ∧ 1 ≤ (r.2.1 13).toInt))) := by
  have r18 : 0 ≤ (F 18).toInt ∧ (F 18).toInt ≤ 1 := hF 18
  have r_1 : 0 ≤ (F 11).toInt ∧ (F 11).toInt ≤ 400 := hF 11
  have r_2 : 0 ≤ (F 13).toInt ∧ (F 13).toInt ≤ 5 := hF 13
  have r_3 : 0 ≤ (F 15).toInt ∧ (F 15).toInt ≤ 5 := hF 15
  have r_4 : 0 ≤ (F 18).toInt ∧ (F 18).toInt ≤ 1 := hF 18
  have r_5 : 0 ≤ (F 19).toInt ∧ (F 19).toInt ≤ 1 := hF 19
  have r_6 : 0 ≤ (F 20).toInt ∧ (F 20).toInt ≤ 32 := hF 20
  unfold d_bounded
  have l_7 : (0 : Int32).toInt = 0 := by decide
  refine ok_cond (fun c_8 => ?_) (fun c_8 => ?_)
  · rw [i_gt] at c_8
    unfold d_bounded_15
    have l_9 : (1 : Int32).toInt = 1 := by decide
    refine ok_call (s_d_fail hF hA (by omega)) ?_
    rintro ⟨u_10, F_11, A_12, J_13⟩ ⟨hF_11, hA_12, F_11_o, A_12_o, u_10_p⟩
    dsimp only at hF_11 hA_12 F_11_o A_12_o u_10_p ⊢
    have u_10_p : 1 ≤ (F_11 13).toInt := u_10_p
    have r_14 : 0 ≤ (F_11 11).toInt ∧ (F_11 11).toInt ≤ 400 := hF_11 11
    have f_15 : (F_11 11).toInt = (F 11).toInt := congrArg Int32.toInt (F_11_o 11 (by decide))
    have r_16 : 0 ≤ (F_11 13).toInt ∧ (F_11 13).toInt ≤ 5 := hF_11 13
    have r_17 : 0 ≤ (F_11 15).toInt ∧ (F_11 15).toInt ≤ 5 := hF_11 15
    have f_18 : (F_11 15).toInt = (F 15).toInt := congrArg Int32.toInt (F_11_o 15 (by decide))
    have r_19 : 0 ≤ (F_11 18).toInt ∧ (F_11 18).toInt ≤ 1 := hF_11 18
    have f_20 : (F_11 18).toInt = (F 18).toInt := congrArg Int32.toInt (F_11_o 18 (by decide))
    have r_21 : 0 ≤ (F_11 19).toInt ∧ (F_11 19).toInt ≤ 1 := hF_11 19
    have f_22 : (F_11 19).toInt = (F 19).toInt := congrArg Int32.toInt (F_11_o 19 (by decide))
    have r_23 : 0 ≤ (F_11 20).toInt ∧ (F_11 20).toInt ≤ 32 := hF_11 20
    have f_24 : (F_11 20).toInt = (F 20).toInt := congrArg Int32.toInt (F_11_o 20 (by decide))
    refine ok_some ?_
    refine ⟨hF_11, hA_12, (fun q hq => (F_11_o q (fun e => hq ((by decide : ∀ x, x ∈ ([13, 14] : List Nat) → x ∈ ([11, 13, 14, 15, 16] : List Nat)) q e)))), (fun q hq => (A_12_o q hq)), ?_⟩
    exact ⟨by (try dsimp only) <;> omega, by (try dsimp only) <;> omega, by (try dsimp only) <;> omega, by (try dsimp only) <;> omega, by (try dsimp only) <;> omega⟩
  · rw [i_ngt] at c_8
    refine ok_call (s_d_is hF hA) ?_
    intro v_25 v_25_p
    have v_25_p : (v_25.toInt = 0 ∨ (v_25.toInt = 1 ∧ (F 13).toInt = 0 ∧ ai A 3 (F 11).toInt = (2 : Int32).toInt)) ∧ (v_25.toInt ≠ 0 ∨ (F 13).toInt ≠ 0 ∨ ai A 3 (F 11).toInt ≠ (2 : Int32).toInt) := v_25_p
    refine ok_cond (fun c_26 => ?_) (fun c_26 => ?_)
    · rw [i_ne] at c_26
      refine ok_ld (j := 5) hA (by omega) (by omega) ?_
      intro v_27 v_27_e v_27_r
      have v_27_r : 0 ≤ v_27.toInt ∧ v_27.toInt ≤ 9999 := v_27_r
      refine ok_cond (fun c_28 => ?_) (fun c_28 => ?_)
      · rw [i_lt] at c_28
        unfold d_bounded_42
        have l_29 : (5 : Int32).toInt = 5 := by decide
        refine ok_call (s_d_wrong hF hA (by omega) (by omega)) ?_
        rintro ⟨u_30, F_31, A_32, J_33⟩ ⟨hF_31, hA_32, F_31_o, A_32_o, u_30_p⟩
        dsimp only at hF_31 hA_32 F_31_o A_32_o u_30_p ⊢
        have u_30_p : (1 ≤ (F 13).toInt ∨ 1 ≤ (F_31 15).toInt) ∧ ((F 15).toInt = 0 ∨ 1 ≤ (F_31 15).toInt) := u_30_p
        have r_34 : 0 ≤ (F_31 11).toInt ∧ (F_31 11).toInt ≤ 400 := hF_31 11
        have f_35 : (F_31 11).toInt = (F 11).toInt := congrArg Int32.toInt (F_31_o 11 (by decide))
        have r_36 : 0 ≤ (F_31 13).toInt ∧ (F_31 13).toInt ≤ 5 := hF_31 13
        have f_37 : (F_31 13).toInt = (F 13).toInt := congrArg Int32.toInt (F_31_o 13 (by decide))
        have r_38 : 0 ≤ (F_31 15).toInt ∧ (F_31 15).toInt ≤ 5 := hF_31 15
        have r_39 : 0 ≤ (F_31 18).toInt ∧ (F_31 18).toInt ≤ 1 := hF_31 18
        have f_40 : (F_31 18).toInt = (F 18).toInt := congrArg Int32.toInt (F_31_o 18 (by decide))
        have r_41 : 0 ≤ (F_31 19).toInt ∧ (F_31 19).toInt ≤ 1 := hF_31 19
        have f_42 : (F_31 19).toInt = (F 19).toInt := congrArg Int32.toInt (F_31_o 19 (by decide))
        have r_43 : 0 ≤ (F_31 20).toInt ∧ (F_31 20).toInt ≤ 32 := hF_31 20
        have f_44 : (F_31 20).toInt = (F 20).toInt := congrArg Int32.toInt (F_31_o 20 (by decide))
        refine ok_call (s_d_goesOn hF_31 hA_32) ?_
        rintro ⟨u_45, F_46, A_47, J_48⟩ ⟨hF_46, hA_47, F_46_o, A_47_o, u_45_p⟩
        dsimp only at hF_46 hA_47 F_46_o A_47_o u_45_p ⊢
        have u_45_p : (((F_46 11).toInt = (F_31 11).toInt + 1 ∧ (F_46 13).toInt = (F_31 13).toInt) ∨ ((F_46 11).toInt = (F_31 11).toInt ∧ 1 ≤ (F_46 13).toInt)) := u_45_p
        have r_49 : 0 ≤ (F_46 11).toInt ∧ (F_46 11).toInt ≤ 400 := hF_46 11
        have r_50 : 0 ≤ (F_46 13).toInt ∧ (F_46 13).toInt ≤ 5 := hF_46 13
        have r_51 : 0 ≤ (F_46 15).toInt ∧ (F_46 15).toInt ≤ 5 := hF_46 15
        have f_52 : (F_46 15).toInt = (F_31 15).toInt := congrArg Int32.toInt (F_46_o 15 (by decide))
        have r_53 : 0 ≤ (F_46 18).toInt ∧ (F_46 18).toInt ≤ 1 := hF_46 18
        have f_54 : (F_46 18).toInt = (F_31 18).toInt := congrArg Int32.toInt (F_46_o 18 (by decide))
        have r_55 : 0 ≤ (F_46 19).toInt ∧ (F_46 19).toInt ≤ 1 := hF_46 19
        have f_56 : (F_46 19).toInt = (F_31 19).toInt := congrArg Int32.toInt (F_46_o 19 (by decide))
        have r_57 : 0 ≤ (F_46 20).toInt ∧ (F_46 20).toInt ≤ 32 := hF_46 20
        have f_58 : (F_46 20).toInt = (F_31 20).toInt := congrArg Int32.toInt (F_46_o 20 (by decide))
        refine ok_some ?_
        refine ⟨hF_46, hA_47, (fun q hq => ((F_46_o q (fun e => hq ((by decide : ∀ x, x ∈ ([11, 13, 14] : List Nat) → x ∈ ([11, 13, 14, 15, 16] : List Nat)) q e))).trans (F_31_o q (fun e => hq ((by decide : ∀ x, x ∈ ([15, 16] : List Nat) → x ∈ ([11, 13, 14, 15, 16] : List Nat)) q e))))), (fun q hq => ((A_47_o q hq).trans (A_32_o q hq))), ?_⟩
        exact ⟨by (try dsimp only) <;> omega, by (try dsimp only) <;> omega, by (try dsimp only) <;> omega, by (try dsimp only) <;> omega, by (try dsimp only) <;> omega⟩
      · rw [i_nlt] at c_28
        refine ok_cond (fun c_59 => ?_) (fun c_59 => ?_)
        · rw [i_le] at c_59
          unfold d_bounded_51
          refine ok_call (s_d_goesOn hF hA) ?_
          rintro ⟨u_60, F_61, A_62, J_63⟩ ⟨hF_61, hA_62, F_61_o, A_62_o, u_60_p⟩
          dsimp only at hF_61 hA_62 F_61_o A_62_o u_60_p ⊢
          have u_60_p : (((F_61 11).toInt = (F 11).toInt + 1 ∧ (F_61 13).toInt = (F 13).toInt) ∨ ((F_61 11).toInt = (F 11).toInt ∧ 1 ≤ (F_61 13).toInt)) := u_60_p
          have r_64 : 0 ≤ (F_61 11).toInt ∧ (F_61 11).toInt ≤ 400 := hF_61 11
          have r_65 : 0 ≤ (F_61 13).toInt ∧ (F_61 13).toInt ≤ 5 := hF_61 13
          have r_66 : 0 ≤ (F_61 15).toInt ∧ (F_61 15).toInt ≤ 5 := hF_61 15
          have f_67 : (F_61 15).toInt = (F 15).toInt := congrArg Int32.toInt (F_61_o 15 (by decide))
          have r_68 : 0 ≤ (F_61 18).toInt ∧ (F_61 18).toInt ≤ 1 := hF_61 18
          have f_69 : (F_61 18).toInt = (F 18).toInt := congrArg Int32.toInt (F_61_o 18 (by decide))
          have r_70 : 0 ≤ (F_61 19).toInt ∧ (F_61 19).toInt ≤ 1 := hF_61 19
          have f_71 : (F_61 19).toInt = (F 19).toInt := congrArg Int32.toInt (F_61_o 19 (by decide))
          have r_72 : 0 ≤ (F_61 20).toInt ∧ (F_61 20).toInt ≤ 32 := hF_61 20
          have f_73 : (F_61 20).toInt = (F 20).toInt := congrArg Int32.toInt (F_61_o 20 (by decide))
          refine ok_some ?_
          refine ⟨hF_61, hA_62, (fun q hq => (F_61_o q (fun e => hq ((by decide : ∀ x, x ∈ ([11, 13, 14] : List Nat) → x ∈ ([11, 13, 14, 15, 16] : List Nat)) q e)))), (fun q hq => (A_62_o q hq)), ?_⟩
          exact ⟨by (try dsimp only) <;> omega, by (try dsimp only) <;> omega, by (try dsimp only) <;> omega, by (try dsimp only) <;> omega, by (try dsimp only) <;> omega⟩
        · rw [i_nle] at c_59
          unfold d_bounded_42
          have l_74 : (5 : Int32).toInt = 5 := by decide
          refine ok_call (s_d_wrong hF hA (by omega) (by omega)) ?_
          rintro ⟨u_75, F_76, A_77, J_78⟩ ⟨hF_76, hA_77, F_76_o, A_77_o, u_75_p⟩
          dsimp only at hF_76 hA_77 F_76_o A_77_o u_75_p ⊢
          have u_75_p : (1 ≤ (F 13).toInt ∨ 1 ≤ (F_76 15).toInt) ∧ ((F 15).toInt = 0 ∨ 1 ≤ (F_76 15).toInt) := u_75_p
          have r_79 : 0 ≤ (F_76 11).toInt ∧ (F_76 11).toInt ≤ 400 := hF_76 11
          have f_80 : (F_76 11).toInt = (F 11).toInt := congrArg Int32.toInt (F_76_o 11 (by decide))
          have r_81 : 0 ≤ (F_76 13).toInt ∧ (F_76 13).toInt ≤ 5 := hF_76 13
          have f_82 : (F_76 13).toInt = (F 13).toInt := congrArg Int32.toInt (F_76_o 13 (by decide))
          have r_83 : 0 ≤ (F_76 15).toInt ∧ (F_76 15).toInt ≤ 5 := hF_76 15
          have r_84 : 0 ≤ (F_76 18).toInt ∧ (F_76 18).toInt ≤ 1 := hF_76 18
          have f_85 : (F_76 18).toInt = (F 18).toInt := congrArg Int32.toInt (F_76_o 18 (by decide))
          have r_86 : 0 ≤ (F_76 19).toInt ∧ (F_76 19).toInt ≤ 1 := hF_76 19
          have f_87 : (F_76 19).toInt = (F 19).toInt := congrArg Int32.toInt (F_76_o 19 (by decide))
          have r_88 : 0 ≤ (F_76 20).toInt ∧ (F_76 20).toInt ≤ 32 := hF_76 20
          have f_89 : (F_76 20).toInt = (F 20).toInt := congrArg Int32.toInt (F_76_o 20 (by decide))
          refine ok_call (s_d_goesOn hF_76 hA_77) ?_
          rintro ⟨u_90, F_91, A_92, J_93⟩ ⟨hF_91, hA_92, F_91_o, A_92_o, u_90_p⟩
          dsimp only at hF_91 hA_92 F_91_o A_92_o u_90_p ⊢
          have u_90_p : (((F_91 11).toInt = (F_76 11).toInt + 1 ∧ (F_91 13).toInt = (F_76 13).toInt) ∨ ((F_91 11).toInt = (F_76 11).toInt ∧ 1 ≤ (F_91 13).toInt)) := u_90_p
          have r_94 : 0 ≤ (F_91 11).toInt ∧ (F_91 11).toInt ≤ 400 := hF_91 11
          have r_95 : 0 ≤ (F_91 13).toInt ∧ (F_91 13).toInt ≤ 5 := hF_91 13
          have r_96 : 0 ≤ (F_91 15).toInt ∧ (F_91 15).toInt ≤ 5 := hF_91 15
          have f_97 : (F_91 15).toInt = (F_76 15).toInt := congrArg Int32.toInt (F_91_o 15 (by decide))
          have r_98 : 0 ≤ (F_91 18).toInt ∧ (F_91 18).toInt ≤ 1 := hF_91 18
          have f_99 : (F_91 18).toInt = (F_76 18).toInt := congrArg Int32.toInt (F_91_o 18 (by decide))
          have r_100 : 0 ≤ (F_91 19).toInt ∧ (F_91 19).toInt ≤ 1 := hF_91 19
          have f_101 : (F_91 19).toInt = (F_76 19).toInt := congrArg Int32.toInt (F_91_o 19 (by decide))
          have r_102 : 0 ≤ (F_91 20).toInt ∧ (F_91 20).toInt ≤ 32 := hF_91 20
          have f_103 : (F_91 20).toInt = (F_76 20).toInt := congrArg Int32.toInt (F_91_o 20 (by decide))
          refine ok_some ?_
          refine ⟨hF_91, hA_92, (fun q hq => ((F_91_o q (fun e => hq ((by decide : ∀ x, x ∈ ([11, 13, 14] : List Nat) → x ∈ ([11, 13, 14, 15, 16] : List Nat)) q e))).trans (F_76_o q (fun e => hq ((by decide : ∀ x, x ∈ ([15, 16] : List Nat) → x ∈ ([11, 13, 14, 15, 16] : List Nat)) q e))))), (fun q hq => ((A_92_o q hq).trans (A_77_o q hq))), ?_⟩
          exact ⟨by (try dsimp only) <;> omega, by (try dsimp only) <;> omega, by (try dsimp only) <;> omega, by (try dsimp only) <;> omega, by (try dsimp only) <;> omega⟩
    · rw [i_nne] at c_26
      unfold d_bounded_15
      have l_104 : (1 : Int32).toInt = 1 := by decide
      refine ok_call (s_d_fail hF hA (by omega)) ?_
      rintro ⟨u_105, F_106, A_107, J_108⟩ ⟨hF_106, hA_107, F_106_o, A_107_o, u_105_p⟩
      dsimp only at hF_106 hA_107 F_106_o A_107_o u_105_p ⊢
      have u_105_p : 1 ≤ (F_106 13).toInt := u_105_p
      have r_109 : 0 ≤ (F_106 11).toInt ∧ (F_106 11).toInt ≤ 400 := hF_106 11
      have f_110 : (F_106 11).toInt = (F 11).toInt := congrArg Int32.toInt (F_106_o 11 (by decide))
      have r_111 : 0 ≤ (F_106 13).toInt ∧ (F_106 13).toInt ≤ 5 := hF_106 13
      have r_112 : 0 ≤ (F_106 15).toInt ∧ (F_106 15).toInt ≤ 5 := hF_106 15
      have f_113 : (F_106 15).toInt = (F 15).toInt := congrArg Int32.toInt (F_106_o 15 (by decide))
      have r_114 : 0 ≤ (F_106 18).toInt ∧ (F_106 18).toInt ≤ 1 := hF_106 18
      have f_115 : (F_106 18).toInt = (F 18).toInt := congrArg Int32.toInt (F_106_o 18 (by decide))
      have r_116 : 0 ≤ (F_106 19).toInt ∧ (F_106 19).toInt ≤ 1 := hF_106 19
      have f_117 : (F_106 19).toInt = (F 19).toInt := congrArg Int32.toInt (F_106_o 19 (by decide))
      have r_118 : 0 ≤ (F_106 20).toInt ∧ (F_106 20).toInt ≤ 32 := hF_106 20
      have f_119 : (F_106 20).toInt = (F 20).toInt := congrArg Int32.toInt (F_106_o 20 (by decide))
      refine ok_some ?_
      refine ⟨hF_106, hA_107, (fun q hq => (F_106_o q (fun e => hq ((by decide : ∀ x, x ∈ ([13, 14] : List Nat) → x ∈ ([11, 13, 14, 15, 16] : List Nat)) q e)))), (fun q hq => (A_107_o q hq)), ?_⟩
      exact ⟨by (try dsimp only) <;> omega, by (try dsimp only) <;> omega, by (try dsimp only) <;> omega, by (try dsimp only) <;> omega, by (try dsimp only) <;> omega⟩
end Qz58
section Qz59
/-! names and counts while reading -/
def CTm (F : Nat → Int32) (A : Nat → Nat → Int32) : Prop := (F 20).toInt = ai A 11 (F 19).toInt + ai A 17 (F 19).toInt + ai A 19 (F 19).toInt + ai A 29 (F 19).toInt
def NCm (F : Nat → Int32) (A : Nat → Nat → Int32) : Prop := NMm F A ∧ CTm F A
section NC
variable {F F' : Nat → Int32} {A A' A1 : Nat → Nat → Int32}
theorem NCm.fr0 (h : NCm F A) (h19 : F' 19 = F 19) (h20 : F' 20 = F 20) (r : ∀ q, q = 9 ∨ q = 10 ∨ q = 11 ∨ q = 17 ∨ q = 19 ∨ q = 29 → A' q = A q) : NCm F' A' := by
  refine ⟨h.1.fr0 h19 h20 r, ?_⟩
  unfold CTm
  rw [h19, h20, ai_fr (r 11 (by omega)), ai_fr (r 17 (by omega)), ai_fr (r 19 (by omega)), ai_fr (r 29 (by omega))]
  exact h.2
theorem NMm.add (h : NMm F A) (h19 : F' 19 = F 19) (f20 : (F' 20).toInt = (F 20).toInt + 1) (ot : ∀ q, 0 ≤ q → q ≠ (F 20).toInt → ai A' 9 q = ai A 9 q ∧ ai A' 10 q = ai A 10 q) (g1 : ai A 11 (F 19).toInt ≤ ai A' 11 (F 19).toInt) (g2 : ai A 17 (F 19).toInt ≤ ai A' 17 (F 19).toInt) (g3 : ai A 19 (F 19).toInt ≤ ai A' 19 (F 19).toInt) (g4 : ai A 29 (F 19).toInt ≤ ai A' 29 (F 19).toInt)
    (nw : (ai A' 9 (F 20).toInt = 0 → ai A' 10 (F 20).toInt < ai A' 11 (F 19).toInt) ∧ (ai A' 9 (F 20).toInt = 1 → ai A' 10 (F 20).toInt < ai A' 17 (F 19).toInt) ∧ (ai A' 9 (F 20).toInt = 2 → ai A' 10 (F 20).toInt < ai A' 19 (F 19).toInt) ∧ (ai A' 9 (F 20).toInt = 3 → ai A' 10 (F 20).toInt < ai A' 29 (F 19).toInt)) : NMm F' A' := by
  intro q h0 h1
  rw [h19]
  by_cases e : q = (F 20).toInt
  · subst e
    exact nw
  · obtain ⟨a, b, c, d⟩ := h q h0 (by omega)
    rw [(ot q h0 e).1, (ot q h0 e).2]
    exact ⟨fun e => by have := a e; omega, fun e => by have := b e; omega, fun e => by have := c e; omega, fun e => by have := d e; omega⟩
/-- a name is noted, and its count goes up: A1 behind the note, A' behind the count -/
theorem NCm.add {r : Nat} {c x : Int} (h : NCm F A) (hc : (r = 11 ∧ c = 0) ∨ (r = 17 ∧ c = 1) ∨ (r = 19 ∧ c = 2) ∨ (r = 29 ∧ c = 3)) (h19 : F' 19 = F 19)
    (nt : (F' 20).toInt = (F 20).toInt + 1 ∧ ai A1 9 (F 20).toInt = c ∧ ai A1 10 (F 20).toInt = x ∧ (∀ q, 0 ≤ q → q ≠ (F 20).toInt → ai A1 9 q = ai A 9 q ∧ ai A1 10 q = ai A 10 q))
    (o1 : ∀ q, q ∉ ([9, 10] : List Nat) → A1 q = A q) (o : ∀ q, q ≠ r → A' q = A1 q) (hx : x = ai A r (F 19).toInt) (z : ai A' r (F 19).toInt = ai A r (F 19).toInt + 1) : NCm F' A' := by
  obtain ⟨f20, n9, n10, ot⟩ := nt
  have k9 : A' 9 = A1 9 := o 9 (by omega)
  have k10 : A' 10 = A1 10 := o 10 (by omega)
  have ot' : ∀ q, 0 ≤ q → q ≠ (F 20).toInt → ai A' 9 q = ai A 9 q ∧ ai A' 10 q = ai A 10 q := fun q a b => by rw [ai_fr k9, ai_fr k10]; exact ot q a b
  have same : ∀ q, q ≠ r → q ∉ ([9, 10] : List Nat) → ai A' q = ai A q := fun q a b => (ai_fr (o q a)).trans (ai_fr (o1 q b))
  rw [← ai_fr k9] at n9
  rw [← ai_fr k10] at n10
  rcases hc with ⟨rfl, rfl⟩ | ⟨rfl, rfl⟩ | ⟨rfl, rfl⟩ | ⟨rfl, rfl⟩
  · have s2 := same 17 (by decide) (by decide)
    have s3 := same 19 (by decide) (by decide)
    have s4 := same 29 (by decide) (by decide)
    refine ⟨h.1.add h19 f20 ot' (by omega) (by rw [s2]; omega) (by rw [s3]; omega) (by rw [s4]; omega) ⟨fun _ => by omega, fun e => by omega, fun e => by omega, fun e => by omega⟩, ?_⟩
    have k := h.2
    unfold CTm at k ⊢
    rw [h19, s2, s3, s4]
    omega
  · have s2 := same 11 (by decide) (by decide)
    have s3 := same 19 (by decide) (by decide)
    have s4 := same 29 (by decide) (by decide)
    refine ⟨h.1.add h19 f20 ot' (by rw [s2]; omega) (by omega) (by rw [s3]; omega) (by rw [s4]; omega) ⟨fun e => by omega, fun _ => by omega, fun e => by omega, fun e => by omega⟩, ?_⟩
    have k := h.2
    unfold CTm at k ⊢
    rw [h19, s2, s3, s4]
    omega
  · have s2 := same 11 (by decide) (by decide)
    have s3 := same 17 (by decide) (by decide)
    have s4 := same 29 (by decide) (by decide)
    refine ⟨h.1.add h19 f20 ot' (by rw [s2]; omega) (by rw [s3]; omega) (by omega) (by rw [s4]; omega) ⟨fun e => by omega, fun e => by omega, fun _ => by omega, fun e => by omega⟩, ?_⟩
    have k := h.2
    unfold CTm at k ⊢
    rw [h19, s2, s3, s4]
    omega
  · have s2 := same 11 (by decide) (by decide)
    have s3 := same 17 (by decide) (by decide)
    have s4 := same 19 (by decide) (by decide)
    refine ⟨h.1.add h19 f20 ot' (by rw [s2]; omega) (by rw [s3]; omega) (by rw [s4]; omega) (by omega) ⟨fun e => by omega, fun e => by omega, fun e => by omega, fun _ => by omega⟩, ?_⟩
    have k := h.2
    unfold CTm at k ⊢
    rw [h19, s2, s3, s4]
    omega
end NC
/-! what a side must be, where its text has no fault -/
def XDm (A : Nat → Nat → Int32) (s : Int) : Prop := ∀ d, 0 ≤ d → d < ai A 12 s → 0 ≤ ai A 13 (12 * s + d) ∧ 0 ≤ ai A 14 (12 * s + d)
def XTm (A : Nat → Nat → Int32) (s : Int) : Prop := ∀ t, 0 ≤ t → t < ai A 19 s → 0 ≤ ai A 20 (6 * s + t)
def XUm (A : Nat → Nat → Int32) (s : Int) : Prop := ∀ t q, 0 ≤ t → t < ai A 19 s → 0 ≤ q → q < ai A 22 (6 * s + t) → ai A 28 (6 * (6 * s + t) + q) ≤ 5
def XMm (A : Nat → Nat → Int32) (s : Int) : Prop := ∀ m, 0 ≤ m → m < ai A 29 s → 0 ≤ ai A 30 (6 * s + m) ∧ (0 ≤ ai A 31 (6 * s + m) → ai A 31 (6 * s + m) < ai A 19 s ∧ 0 ≤ ai A 32 (6 * s + m) ∧ ai A 32 (6 * s + m) < ai A 22 (6 * s + ai A 31 (6 * s + m)))
section X
variable {A A' : Nat → Nat → Int32} {s d : Int}
theorem XDm.up (h : XDm A s) (z : ai A' 12 s = ai A 12 s + 1) (r13 : ∀ i, 0 ≤ i → i ≠ 12 * s + d → ai A' 13 i = ai A 13 i) (r14 : ∀ i, 0 ≤ i → i ≠ 12 * s + d → ai A' 14 i = ai A 14 i) (h13 : 0 ≤ ai A' 13 (12 * s + d)) (h14 : 0 ≤ ai A' 14 (12 * s + d)) (hd : d = ai A 12 s) (hs : 0 ≤ s) : XDm A' s := by
  intro q h0 h1
  by_cases e : q = d
  · rw [e]; exact ⟨h13, h14⟩
  · rw [r13 _ (by omega) (by omega), r14 _ (by omega) (by omega)]
    exact h q h0 (by omega)
theorem XTm.up (h : XTm A s) (z : ai A' 19 s = ai A 19 s + 1) (r20 : ∀ i, 0 ≤ i → i ≠ 6 * s + d → ai A' 20 i = ai A 20 i) (h20 : 0 ≤ ai A' 20 (6 * s + d)) (hd : d = ai A 19 s) (hs : 0 ≤ s) : XTm A' s := by
  intro q h0 h1
  by_cases e : q = d
  · rw [e]; exact h20
  · rw [r20 _ (by omega) (by omega)]
    exact h q h0 (by omega)
theorem XUm.up (h : XUm A s) (z : ai A' 19 s = ai A 19 s + 1) (r22 : ∀ i, 0 ≤ i → i ≠ 6 * s + d → ai A' 22 i = ai A 22 i) (h22 : ai A' 22 (6 * s + d) = 0) (r28 : A' 28 = A 28) (hd : d = ai A 19 s) (hs : 0 ≤ s) : XUm A' s := by
  intro t q t0 t1 q0 q1
  rw [ai_fr r28]
  by_cases e : t = d
  · rw [e, h22] at q1; omega
  · rw [r22 _ (by omega) (by omega)] at q1
    exact h t q t0 (by omega) q0 q1
/-- a new task leaves the men as they were -/
theorem XMm.up (h : XMm A s) (z : ai A' 19 s = ai A 19 s + 1) (r22 : ∀ i, 0 ≤ i → i ≠ 6 * s + d → ai A' 22 i = ai A 22 i) (k : ∀ q, q = 29 ∨ q = 30 ∨ q = 31 ∨ q = 32 → A' q = A q) (hd : d = ai A 19 s) (hs : 0 ≤ s) : XMm A' s := by
  intro m m0 m1
  rw [ai_fr (k 29 (by omega))] at m1
  obtain ⟨a, b⟩ := h m m0 m1
  rw [ai_fr (k 30 (by omega)), ai_fr (k 31 (by omega)), ai_fr (k 32 (by omega))]
  refine ⟨a, fun e => ?_⟩
  obtain ⟨b1, b2, b3⟩ := b e
  rw [r22 _ (by omega) (by omega)]
  exact ⟨by omega, b2, b3⟩
/-- a new step -/
theorem XUm.sp {t : Int} (h : XUm A s) (r19 : A' 19 = A 19) (z : ai A' 22 (6 * s + t) = ai A 22 (6 * s + t) + 1) (r22 : ∀ i, 0 ≤ i → i ≠ 6 * s + t → ai A' 22 i = ai A 22 i) (r28 : ∀ i, 0 ≤ i → i ≠ 6 * (6 * s + t) + d → ai A' 28 i = ai A 28 i) (h28 : ai A' 28 (6 * (6 * s + t) + d) ≤ 5) (hd : d = ai A 22 (6 * s + t)) (g : ∀ q, 0 ≤ q → ai A 22 q ≤ 6) (hd5 : 0 ≤ d ∧ d ≤ 5) (hs : 0 ≤ s) : XUm A' s := by
  intro u q u0 u1 q0 q1
  rw [ai_fr r19] at u1
  by_cases e : u = t
  · subst e
    by_cases e2 : q = d
    · rw [e2]; exact h28
    · rw [r28 _ (by omega) (by omega)]
      exact h u q u0 u1 q0 (by omega)
  · rw [r22 _ (by omega) (by omega)] at q1
    have := g (6 * s + u) (by omega)
    rw [r28 _ (by omega) (by omega)]
    exact h u q u0 u1 q0 q1
theorem XMm.sp {t : Int} (h : XMm A s) (r19 : A' 19 = A 19) (z : ai A' 22 (6 * s + t) = ai A 22 (6 * s + t) + 1) (r22 : ∀ i, 0 ≤ i → i ≠ 6 * s + t → ai A' 22 i = ai A 22 i) (k : ∀ q, q = 29 ∨ q = 30 ∨ q = 31 ∨ q = 32 → A' q = A q) (hs : 0 ≤ s) : XMm A' s := by
  intro m m0 m1
  rw [ai_fr (k 29 (by omega))] at m1
  obtain ⟨a, b⟩ := h m m0 m1
  rw [ai_fr (k 30 (by omega)), ai_fr (k 31 (by omega)), ai_fr (k 32 (by omega)), ai_fr r19]
  refine ⟨a, fun e => ?_⟩
  obtain ⟨b1, b2, b3⟩ := b e
  refine ⟨b1, b2, ?_⟩
  by_cases e2 : ai A 31 (6 * s + m) = t
  · rw [e2] at b3 ⊢; omega
  · rw [r22 _ (by omega) (by omega)]; exact b3
/-- a new man -/
theorem XMm.mn (h : XMm A s) (z : ai A' 29 s = ai A 29 s + 1) (r19 : A' 19 = A 19) (r22 : A' 22 = A 22) (r30 : ∀ i, 0 ≤ i → i ≠ 6 * s + d → ai A' 30 i = ai A 30 i) (r31 : ∀ i, 0 ≤ i → i ≠ 6 * s + d → ai A' 31 i = ai A 31 i) (r32 : ∀ i, 0 ≤ i → i ≠ 6 * s + d → ai A' 32 i = ai A 32 i) (n : 0 ≤ ai A' 30 (6 * s + d) ∧ (0 ≤ ai A' 31 (6 * s + d) → ai A' 31 (6 * s + d) < ai A 19 s ∧ 0 ≤ ai A' 32 (6 * s + d) ∧ ai A' 32 (6 * s + d) < ai A 22 (6 * s + ai A' 31 (6 * s + d)))) (hd : d = ai A 29 s) (hs : 0 ≤ s) : XMm A' s := by
  intro m m0 m1
  rw [ai_fr r19, ai_fr r22]
  by_cases e : m = d
  · rw [e]; exact n
  · rw [r30 _ (by omega) (by omega), r31 _ (by omega) (by omega), r32 _ (by omega) (by omega)]
    exact h m m0 (by omega)
end X
end Qz59
section Qz60
theorem l_d_must {F : Nat → Int32} {A : Nat → Nat → Int32} {J : Nat → Nat → Int64} {x1 : Int32} (hF : IFm F) (hA : IAm A)  : ok (d_must F A J x1) (fun r => IFm r.2.1 ∧ IAm r.2.2.1 ∧ (∀ q, q ∉ ([11, 13, 14] : List Nat) → r.2.1 q = F q) ∧ (∀ q, q ∉ ([] : List Nat) → r.2.2.1 q = A q) ∧ (F 11).toInt ≤ (r.2.1 11).toInt ∧ (F 13).toInt ≤ 5 * (r.2.1 13).toInt) := by
  have a13 : 0 ≤ (F 13).toInt ∧ (F 13).toInt ≤ 5 := hF 13
  have a15 : 0 ≤ (F 15).toInt ∧ (F 15).toInt ≤ 5 := hF 15
  refine ok_mono (s_d_must hF hA ) ?_
  rintro ⟨v, F2, A2, J2⟩ ⟨h1, h2, h3, h4, h5⟩
  dsimp only at h1 h2 h3 h4 h5 ⊢
  have b13 : 0 ≤ (F2 13).toInt ∧ (F2 13).toInt ≤ 5 := h1 13
  have b15 : 0 ≤ (F2 15).toInt ∧ (F2 15).toInt ≤ 5 := h1 15
  exact ⟨h1, h2, h3, h4, by omega, by omega⟩
theorem l_d_goesOn {F : Nat → Int32} {A : Nat → Nat → Int32} {J : Nat → Nat → Int64}  (hF : IFm F) (hA : IAm A)  : ok (d_goesOn F A J) (fun r => IFm r.2.1 ∧ IAm r.2.2.1 ∧ (∀ q, q ∉ ([11, 13, 14] : List Nat) → r.2.1 q = F q) ∧ (∀ q, q ∉ ([] : List Nat) → r.2.2.1 q = A q) ∧ (F 11).toInt ≤ (r.2.1 11).toInt ∧ (F 13).toInt ≤ 5 * (r.2.1 13).toInt) := by
  have a13 : 0 ≤ (F 13).toInt ∧ (F 13).toInt ≤ 5 := hF 13
  have a15 : 0 ≤ (F 15).toInt ∧ (F 15).toInt ≤ 5 := hF 15
  refine ok_mono (s_d_goesOn hF hA ) ?_
  rintro ⟨v, F2, A2, J2⟩ ⟨h1, h2, h3, h4, h5⟩
  dsimp only at h1 h2 h3 h4 h5 ⊢
  have b13 : 0 ≤ (F2 13).toInt ∧ (F2 13).toInt ≤ 5 := h1 13
  have b15 : 0 ≤ (F2 15).toInt ∧ (F2 15).toInt ≤ 5 := h1 15
  exact ⟨h1, h2, h3, h4, by omega, by omega⟩
theorem l_d_failAt {F : Nat → Int32} {A : Nat → Nat → Int32} {J : Nat → Nat → Int64} {x1 : Int32} {x2 : Int32} (hF : IFm F) (hA : IAm A) (rx1 : 1 ≤ x1.toInt ∧ x1.toInt ≤ 5) (rx2 : 0 ≤ x2.toInt ∧ x2.toInt ≤ 402) : ok (d_failAt F A J x1 x2) (fun r => IFm r.2.1 ∧ IAm r.2.2.1 ∧ (∀ q, q ∉ ([13, 14] : List Nat) → r.2.1 q = F q) ∧ (∀ q, q ∉ ([] : List Nat) → r.2.2.1 q = A q) ∧ 1 ≤ (r.2.1 13).toInt ∧ (F 13).toInt ≤ 5 * (r.2.1 13).toInt) := by
  have a13 : 0 ≤ (F 13).toInt ∧ (F 13).toInt ≤ 5 := hF 13
  have a15 : 0 ≤ (F 15).toInt ∧ (F 15).toInt ≤ 5 := hF 15
  refine ok_mono (s_d_failAt hF hA rx1 rx2) ?_
  rintro ⟨v, F2, A2, J2⟩ ⟨h1, h2, h3, h4, h5⟩
  dsimp only at h1 h2 h3 h4 h5 ⊢
  have b13 : 0 ≤ (F2 13).toInt ∧ (F2 13).toInt ≤ 5 := h1 13
  have b15 : 0 ≤ (F2 15).toInt ∧ (F2 15).toInt ≤ 5 := h1 15
  exact ⟨h1, h2, h3, h4, by omega, by omega⟩
theorem l_d_wrong {F : Nat → Int32} {A : Nat → Nat → Int32} {J : Nat → Nat → Int64} {x1 : Int32} {x2 : Int32} (hF : IFm F) (hA : IAm A) (rx1 : 3 ≤ x1.toInt ∧ x1.toInt ≤ 5) (rx2 : 0 ≤ x2.toInt ∧ x2.toInt ≤ 402) : ok (d_wrong F A J x1 x2) (fun r => IFm r.2.1 ∧ IAm r.2.2.1 ∧ (∀ q, q ∉ ([15, 16] : List Nat) → r.2.1 q = F q) ∧ (∀ q, q ∉ ([] : List Nat) → r.2.2.1 q = A q) ∧ 1 ≤ (F 13).toInt + (r.2.1 15).toInt ∧ (F 15).toInt ≤ 5 * (r.2.1 15).toInt) := by
  have a13 : 0 ≤ (F 13).toInt ∧ (F 13).toInt ≤ 5 := hF 13
  have a15 : 0 ≤ (F 15).toInt ∧ (F 15).toInt ≤ 5 := hF 15
  refine ok_mono (s_d_wrong hF hA rx1 rx2) ?_
  rintro ⟨v, F2, A2, J2⟩ ⟨h1, h2, h3, h4, h5⟩
  dsimp only at h1 h2 h3 h4 h5 ⊢
  have b13 : 0 ≤ (F2 13).toInt ∧ (F2 13).toInt ≤ 5 := h1 13
  have b15 : 0 ≤ (F2 15).toInt ∧ (F2 15).toInt ≤ 5 := h1 15
  exact ⟨h1, h2, h3, h4, by omega, by omega⟩
theorem l_d_named {n : Nat} {F : Nat → Int32} {A : Nat → Nat → Int32} {J : Nat → Nat → Int64}  (hF : IFm F) (hA : IAm A) (hn : 40 ≤ n) : ok (d_named n F A J) (fun r => IFm r.2.1 ∧ IAm r.2.2.1 ∧ (∀ q, q ∉ ([11, 13, 14, 15, 16] : List Nat) → r.2.1 q = F q) ∧ (∀ q, q ∉ ([] : List Nat) → r.2.2.1 q = A q) ∧ r.1 = F 11 ∧ (F 11).toInt ≤ (r.2.1 11).toInt ∧ (F 13).toInt ≤ 5 * (r.2.1 13).toInt ∧ (F 15).toInt ≤ 5 * (r.2.1 15).toInt) := by
  have a13 : 0 ≤ (F 13).toInt ∧ (F 13).toInt ≤ 5 := hF 13
  have a15 : 0 ≤ (F 15).toInt ∧ (F 15).toInt ≤ 5 := hF 15
  refine ok_mono (s_d_named hF hA hn) ?_
  rintro ⟨v, F2, A2, J2⟩ ⟨h1, h2, h3, h4, h5⟩
  dsimp only at h1 h2 h3 h4 h5 ⊢
  have b13 : 0 ≤ (F2 13).toInt ∧ (F2 13).toInt ≤ 5 := h1 13
  have b15 : 0 ≤ (F2 15).toInt ∧ (F2 15).toInt ≤ 5 := h1 15
  exact ⟨h1, h2, h3, h4, h5.1, by omega, by omega, by omega⟩
theorem l_d_known {n : Nat} {F : Nat → Int32} {A : Nat → Nat → Int32} {J : Nat → Nat → Int64} {x1 : Int32} (hF : IFm F) (hA : IAm A) (hn : 40 ≤ n) (N : NMm F A) (rx1 : 0 ≤ x1.toInt ∧ x1.toInt ≤ 3) : ok (d_known n F A J x1) (fun r => IFm r.2.1 ∧ IAm r.2.2.1 ∧ (∀ q, q ∉ ([11, 13, 14, 15, 16] : List Nat) → r.2.1 q = F q) ∧ (∀ q, q ∉ ([] : List Nat) → r.2.2.1 q = A q) ∧ -1 ≤ r.1.toInt ∧ r.1.toInt ≤ 7 ∧ 0 ≤ r.1.toInt + (r.2.1 13).toInt + (r.2.1 15).toInt ∧ (F 11).toInt ≤ (r.2.1 11).toInt ∧ (F 13).toInt ≤ 5 * (r.2.1 13).toInt ∧ (F 15).toInt ≤ 5 * (r.2.1 15).toInt ∧ (x1.toInt = 0 → r.1.toInt < ai A 11 (F 19).toInt) ∧ (x1.toInt = 1 → r.1.toInt < ai A 17 (F 19).toInt) ∧ (x1.toInt = 2 → r.1.toInt < ai A 19 (F 19).toInt) ∧ (x1.toInt = 3 → r.1.toInt < ai A 29 (F 19).toInt)) := by
  have a13 : 0 ≤ (F 13).toInt ∧ (F 13).toInt ≤ 5 := hF 13
  have a15 : 0 ≤ (F 15).toInt ∧ (F 15).toInt ≤ 5 := hF 15
  refine ok_mono (s_d_known hF hA hn N rx1) ?_
  rintro ⟨v, F2, A2, J2⟩ ⟨h1, h2, h3, h4, h5⟩
  dsimp only at h1 h2 h3 h4 h5 ⊢
  have b13 : 0 ≤ (F2 13).toInt ∧ (F2 13).toInt ≤ 5 := h1 13
  have b15 : 0 ≤ (F2 15).toInt ∧ (F2 15).toInt ≤ 5 := h1 15
  have g1 : 0 ≤ ai A 11 (F 19).toInt := (show 0 ≤ ai A 11 (F 19).toInt ∧ ai A 11 (F 19).toInt ≤ 8 from hA 11 _ (show 0 ≤ (F 19).toInt ∧ (F 19).toInt ≤ 1 from hF 19).1).1
  have g2 : 0 ≤ ai A 17 (F 19).toInt := (show 0 ≤ ai A 17 (F 19).toInt ∧ ai A 17 (F 19).toInt ≤ 6 from hA 17 _ (show 0 ≤ (F 19).toInt ∧ (F 19).toInt ≤ 1 from hF 19).1).1
  have g3 : 0 ≤ ai A 19 (F 19).toInt := (show 0 ≤ ai A 19 (F 19).toInt ∧ ai A 19 (F 19).toInt ≤ 6 from hA 19 _ (show 0 ≤ (F 19).toInt ∧ (F 19).toInt ≤ 1 from hF 19).1).1
  have g4 : 0 ≤ ai A 29 (F 19).toInt := (show 0 ≤ ai A 29 (F 19).toInt ∧ ai A 29 (F 19).toInt ≤ 6 from hA 29 _ (show 0 ≤ (F 19).toInt ∧ (F 19).toInt ≤ 1 from hF 19).1).1
  exact ⟨h1, h2, h3, h4, by omega, by omega, by omega, by omega, by omega, by omega, fun e => by omega, fun e => by omega, fun e => by omega, fun e => by omega⟩
theorem l_d_bounded {F : Nat → Int32} {A : Nat → Nat → Int32} {J : Nat → Nat → Int64} {x1 : Int32} {x2 : Int32} (hF : IFm F) (hA : IAm A) (rx1 : 0 ≤ x1.toInt ∧ x1.toInt ≤ 1) (rx2 : -1 ≤ x2.toInt ∧ x2.toInt ≤ 9999) : ok (d_bounded F A J x1 x2) (fun r => IFm r.2.1 ∧ IAm r.2.2.1 ∧ (∀ q, q ∉ ([11, 13, 14, 15, 16] : List Nat) → r.2.1 q = F q) ∧ (∀ q, q ∉ ([] : List Nat) → r.2.2.1 q = A q) ∧ 0 ≤ r.1.toInt ∧ r.1.toInt ≤ 9999 ∧ x1.toInt ≤ r.1.toInt + 10000 * ((r.2.1 13).toInt + (r.2.1 15).toInt) ∧ r.1.toInt ≤ x2.toInt + 20000 * ((r.2.1 13).toInt + (r.2.1 15).toInt) ∧ (F 11).toInt ≤ (r.2.1 11).toInt ∧ (F 13).toInt ≤ 5 * (r.2.1 13).toInt ∧ (F 15).toInt ≤ 5 * (r.2.1 15).toInt) := by
  have a13 : 0 ≤ (F 13).toInt ∧ (F 13).toInt ≤ 5 := hF 13
  have a15 : 0 ≤ (F 15).toInt ∧ (F 15).toInt ≤ 5 := hF 15
  refine ok_mono (s_d_bounded hF hA rx1) ?_
  rintro ⟨v, F2, A2, J2⟩ ⟨h1, h2, h3, h4, h5⟩
  dsimp only at h1 h2 h3 h4 h5 ⊢
  have b13 : 0 ≤ (F2 13).toInt ∧ (F2 13).toInt ≤ 5 := h1 13
  have b15 : 0 ≤ (F2 15).toInt ∧ (F2 15).toInt ≤ 5 := h1 15
  exact ⟨h1, h2, h3, h4, by omega, by omega, by omega, by omega, by omega, by omega, by omega⟩
theorem l_d_is {F : Nat → Int32} {A : Nat → Nat → Int32} {J : Nat → Nat → Int64} {x1 : Int32} (hF : IFm F) (hA : IAm A) : ok (d_is F A J x1) (fun v => 0 ≤ v.toInt ∧ v.toInt ≤ 1) := ok_mono (s_d_is hF hA) (fun v h => ⟨by omega, by omega⟩)
end Qz60
section Qz61
set_option maxRecDepth 10000 in
theorem s_d_tellRoom {n : Nat} {l : Int} {F : Nat → Int32} {A : Nat → Nat → Int32} {J : Nat → Nat → Int64}  (hF : IFm F) (hA : IAm A) (hn : 50 ≤ n) (hl : 0 ≤ l ∧ (F 18).toInt = l ∧ (F 19).toInt = 1 - l) (NFA : NCm F A) (hr : ai A 11 (F 19).toInt < 8) (h13 : (F 13).toInt = 0) : ok (d_tellRoom n F A J) (fun r => IFm r.2.1 ∧ IAm r.2.2.1 ∧ (∀ q, q ∉ ([11, 13, 14, 15, 16, 20] : List Nat) → r.2.1 q = F q) ∧ (∀ q, q ∉ ([9, 10, 11] : List Nat) → r.2.2.1 q = A q) ∧ NCm r.2.1 r.2.2.1 ∧ LSm l A r.2.2.1 ∧ ((F 15).toInt = 0 ∨ 1 ≤ (r.2.1 15).toInt) ∧ (F 11).toInt ≤ (r.2.1 11).toInt ∧ ((r.2.1 13).toInt = 0 ∨ 1 ≤ (r.2.1 13).toInt)) := by
  have r18 : 0 ≤ (F 18).toInt ∧ (F 18).toInt ≤ 1 := hF 18
  have LFA : LSm l A A := LSm.rfl' l A
  have aFA : ai A 11 (F 19).toInt = ai A 11 (F 19).toInt := rfl
  have ct := NFA.2
  unfold CTm at ct
  have g11 : 0 ≤ ai A 11 (F 19).toInt ∧ ai A 11 (F 19).toInt ≤ 8 := hA 11 _ (by have := hF 19; exact this.1)
  have g17 : 0 ≤ ai A 17 (F 19).toInt ∧ ai A 17 (F 19).toInt ≤ 6 := hA 17 _ (by have := hF 19; exact this.1)
  have g19 : 0 ≤ ai A 19 (F 19).toInt ∧ ai A 19 (F 19).toInt ≤ 6 := hA 19 _ (by have := hF 19; exact this.1)
  have g29 : 0 ≤ ai A 29 (F 19).toInt ∧ ai A 29 (F 19).toInt ≤ 6 := hA 29 _ (by have := hF 19; exact this.1)
  have r_1 : 0 ≤ (F 11).toInt ∧ (F 11).toInt ≤ 400 := hF 11
  have r_2 : 0 ≤ (F 13).toInt ∧ (F 13).toInt ≤ 5 := hF 13
  have r_3 : 0 ≤ (F 15).toInt ∧ (F 15).toInt ≤ 5 := hF 15
  have r_4 : 0 ≤ (F 18).toInt ∧ (F 18).toInt ≤ 1 := hF 18
  have r_5 : 0 ≤ (F 19).toInt ∧ (F 19).toInt ≤ 1 := hF 19
  have r_6 : 0 ≤ (F 20).toInt ∧ (F 20).toInt ≤ 32 := hF 20
  unfold d_tellRoom
  refine ok_call (s_d_named hF hA (by omega)) ?_
  rintro ⟨v_7, F_8, A_9, J_10⟩ ⟨hF_8, hA_9, F_8_o, A_9_o, v_7_p⟩
  dsimp only at hF_8 hA_9 F_8_o A_9_o v_7_p ⊢
  have v_7_p : v_7 = F 11 ∧ (((F 13).toInt = 0 ∧ (F_8 11).toInt = (F 11).toInt + 1 ∧ (F_8 13).toInt = 0) ∨ ((F_8 11).toInt = (F 11).toInt ∧ 1 ≤ (F_8 13).toInt)) ∧ ((F 15).toInt = 0 ∨ 1 ≤ (F_8 15).toInt) := v_7_p
  have r_11 : 0 ≤ (F_8 11).toInt ∧ (F_8 11).toInt ≤ 400 := hF_8 11
  have r_12 : 0 ≤ (F_8 13).toInt ∧ (F_8 13).toInt ≤ 5 := hF_8 13
  have r_13 : 0 ≤ (F_8 15).toInt ∧ (F_8 15).toInt ≤ 5 := hF_8 15
  have r_14 : 0 ≤ (F_8 18).toInt ∧ (F_8 18).toInt ≤ 1 := hF_8 18
  have f_15 : (F_8 18).toInt = (F 18).toInt := congrArg Int32.toInt (F_8_o 18 (by decide))
  have r_16 : 0 ≤ (F_8 19).toInt ∧ (F_8 19).toInt ≤ 1 := hF_8 19
  have f_17 : (F_8 19).toInt = (F 19).toInt := congrArg Int32.toInt (F_8_o 19 (by decide))
  have r_18 : 0 ≤ (F_8 20).toInt ∧ (F_8 20).toInt ≤ 32 := hF_8 20
  have f_19 : (F_8 20).toInt = (F 20).toInt := congrArg Int32.toInt (F_8_o 20 (by decide))
  have LF_8A_9 : LSm l A A_9 := LFA.fr _ A_9_o (by decide)
  have NF_8A_9 : NCm F_8 A_9 := NFA.fr0 (F_8_o 19 (by decide)) (F_8_o 20 (by decide)) (fun q hq => A_9_o q (by simp))
  have aF_8A_9 : ai A_9 11 (F_8 19).toInt = ai A 11 (F 19).toInt := by rw [ai_fr (A_9_o 11 (by decide)), F_8_o 19 (by decide)] <;> exact aFA
  rw [v_7_p.1]
  refine ok_call (s_d_must hF_8 hA_9) ?_
  rintro ⟨u_20, F_21, A_22, J_23⟩ ⟨hF_21, hA_22, F_21_o, A_22_o, u_20_p⟩
  dsimp only at hF_21 hA_22 F_21_o A_22_o u_20_p ⊢
  have u_20_p : (((F_8 13).toInt = 0 ∧ (F_21 11).toInt = (F_8 11).toInt + 1 ∧ (F_21 13).toInt = 0) ∨ ((F_21 11).toInt = (F_8 11).toInt ∧ 1 ≤ (F_21 13).toInt)) := u_20_p
  have r_24 : 0 ≤ (F_21 11).toInt ∧ (F_21 11).toInt ≤ 400 := hF_21 11
  have r_25 : 0 ≤ (F_21 13).toInt ∧ (F_21 13).toInt ≤ 5 := hF_21 13
  have r_26 : 0 ≤ (F_21 15).toInt ∧ (F_21 15).toInt ≤ 5 := hF_21 15
  have f_27 : (F_21 15).toInt = (F_8 15).toInt := congrArg Int32.toInt (F_21_o 15 (by decide))
  have r_28 : 0 ≤ (F_21 18).toInt ∧ (F_21 18).toInt ≤ 1 := hF_21 18
  have f_29 : (F_21 18).toInt = (F_8 18).toInt := congrArg Int32.toInt (F_21_o 18 (by decide))
  have r_30 : 0 ≤ (F_21 19).toInt ∧ (F_21 19).toInt ≤ 1 := hF_21 19
  have f_31 : (F_21 19).toInt = (F_8 19).toInt := congrArg Int32.toInt (F_21_o 19 (by decide))
  have r_32 : 0 ≤ (F_21 20).toInt ∧ (F_21 20).toInt ≤ 32 := hF_21 20
  have f_33 : (F_21 20).toInt = (F_8 20).toInt := congrArg Int32.toInt (F_21_o 20 (by decide))
  have LF_21A_22 : LSm l A A_22 := LF_8A_9.fr _ A_22_o (by decide)
  have NF_21A_22 : NCm F_21 A_22 := NF_8A_9.fr0 (F_21_o 19 (by decide)) (F_21_o 20 (by decide)) (fun q hq => A_22_o q (by simp))
  have aF_21A_22 : ai A_22 11 (F_21 19).toInt = ai A 11 (F 19).toInt := by rw [ai_fr (A_22_o 11 (by decide)), F_21_o 19 (by decide)] <;> exact aF_8A_9
  have l_34 : (0 : Int32).toInt = 0 := by decide
  refine ok_cond (fun c_35 => ?_) (fun c_35 => ?_)
  · rw [i_le] at c_35
    refine ok_ld (j := 11) hA_22 (by omega) (by omega) ?_
    intro v_36 v_36_e v_36_r
    have v_36_r : 0 ≤ v_36.toInt ∧ v_36.toInt ≤ 8 := v_36_r
    refine ok_call (s_d_notes hF_21 hA_22 (by omega) (by omega) (by omega)) ?_
    rintro ⟨u_37, F_38, A_39, J_40⟩ ⟨hF_38, hA_39, F_38_o, A_39_o, u_37_p⟩
    dsimp only at hF_38 hA_39 F_38_o A_39_o u_37_p ⊢
    have u_37_p : (F_38 20).toInt = (F_21 20).toInt + 1 ∧ ai A_39 9 (F_21 20).toInt = (0 : Int32).toInt ∧ ai A_39 10 (F_21 20).toInt = v_36.toInt ∧ (∀ q, 0 ≤ q → q ≠ (F_21 20).toInt → ai A_39 9 q = ai A_22 9 q ∧ ai A_39 10 q = ai A_22 10 q) := u_37_p
    have r_41 : 0 ≤ (F_38 11).toInt ∧ (F_38 11).toInt ≤ 400 := hF_38 11
    have f_42 : (F_38 11).toInt = (F_21 11).toInt := congrArg Int32.toInt (F_38_o 11 (by decide))
    have r_43 : 0 ≤ (F_38 13).toInt ∧ (F_38 13).toInt ≤ 5 := hF_38 13
    have f_44 : (F_38 13).toInt = (F_21 13).toInt := congrArg Int32.toInt (F_38_o 13 (by decide))
    have r_45 : 0 ≤ (F_38 15).toInt ∧ (F_38 15).toInt ≤ 5 := hF_38 15
    have f_46 : (F_38 15).toInt = (F_21 15).toInt := congrArg Int32.toInt (F_38_o 15 (by decide))
    have r_47 : 0 ≤ (F_38 18).toInt ∧ (F_38 18).toInt ≤ 1 := hF_38 18
    have f_48 : (F_38 18).toInt = (F_21 18).toInt := congrArg Int32.toInt (F_38_o 18 (by decide))
    have r_49 : 0 ≤ (F_38 19).toInt ∧ (F_38 19).toInt ≤ 1 := hF_38 19
    have f_50 : (F_38 19).toInt = (F_21 19).toInt := congrArg Int32.toInt (F_38_o 19 (by decide))
    have r_51 : 0 ≤ (F_38 20).toInt ∧ (F_38 20).toInt ≤ 32 := hF_38 20
    have LF_38A_39 : LSm l A A_39 := LF_21A_22.fr _ A_39_o (by decide)
    have aF_38A_39 : ai A_39 11 (F_38 19).toInt = ai A 11 (F 19).toInt := by rw [ai_fr (A_39_o 11 (by decide)), F_38_o 19 (by decide)] <;> exact aF_21A_22
    refine ok_ld (j := 11) hA_39 (by omega) (by omega) ?_
    intro v_52 v_52_e v_52_r
    have v_52_r : 0 ≤ v_52.toInt ∧ v_52.toInt ≤ 8 := v_52_r
    have l_53 : (1 : Int32).toInt = 1 := by decide
    have e_54 := i_add (x := v_52) (y := 1) (by omega) (by omega)
    refine ok_st (j := 11) hA_39 (by omega) (by omega) (⟨by omega, by omega⟩) ?_
    intro A_55 hA_55 A_55_o A_55_s A_55_n
    have LF_38A_55 : LSm l A A_55 := LF_38A_39.st hl.1 1 rfl A_55_o A_55_n ⟨by omega, by omega⟩ (by omega)
    have e19 : F_38 19 = F_21 19 := F_38_o 19 (by decide)
    have zr : ai A_55 11 (F_21 19).toInt = ai A_22 11 (F_21 19).toInt + 1 := by rw [← e19, A_55_s, ← ai_fr (A_39_o 11 (by decide))]; omega
    have NZ : NCm F_38 A_55 := NCm.add (r := 11) NF_21A_22 (by omega) e19 u_37_p A_39_o A_55_o v_36_e zr
    refine ok_some ?_
    refine ⟨hF_38, hA_55, (fun q hq => (((F_38_o q (fun e => hq ((by decide : ∀ x, x ∈ ([20] : List Nat) → x ∈ ([11, 13, 14, 15, 16, 20] : List Nat)) q e))).trans (F_21_o q (fun e => hq ((by decide : ∀ x, x ∈ ([11, 13, 14] : List Nat) → x ∈ ([11, 13, 14, 15, 16, 20] : List Nat)) q e)))).trans (F_8_o q (fun e => hq ((by decide : ∀ x, x ∈ ([11, 13, 14, 15, 16] : List Nat) → x ∈ ([11, 13, 14, 15, 16, 20] : List Nat)) q e))))), (fun q hq => ((((A_55_o q (fun e => hq (by rw [e]; decide))).trans (A_39_o q (fun e => hq ((by decide : ∀ x, x ∈ ([9, 10] : List Nat) → x ∈ ([9, 10, 11] : List Nat)) q e)))).trans (A_22_o q (fun e => hq ((by decide : ∀ x, x ∈ ([] : List Nat) → x ∈ ([9, 10, 11] : List Nat)) q e)))).trans (A_9_o q (fun e => hq ((by decide : ∀ x, x ∈ ([] : List Nat) → x ∈ ([9, 10, 11] : List Nat)) q e))))), ?_⟩
    first | exact ⟨NZ, LF_38A_55, by (try dsimp only) <;> omega, by (try dsimp only) <;> omega, by (try dsimp only) <;> omega⟩ | exact ⟨NF_38A_55, LF_38A_55, by (try dsimp only) <;> omega, by (try dsimp only) <;> omega, by (try dsimp only) <;> omega⟩
  · rw [i_nle] at c_35
    refine ok_some ?_
    refine ⟨hF_21, hA_22, (fun q hq => ((F_21_o q (fun e => hq ((by decide : ∀ x, x ∈ ([11, 13, 14] : List Nat) → x ∈ ([11, 13, 14, 15, 16, 20] : List Nat)) q e))).trans (F_8_o q (fun e => hq ((by decide : ∀ x, x ∈ ([11, 13, 14, 15, 16] : List Nat) → x ∈ ([11, 13, 14, 15, 16, 20] : List Nat)) q e))))), (fun q hq => ((A_22_o q (fun e => hq ((by decide : ∀ x, x ∈ ([] : List Nat) → x ∈ ([9, 10, 11] : List Nat)) q e))).trans (A_9_o q (fun e => hq ((by decide : ∀ x, x ∈ ([] : List Nat) → x ∈ ([9, 10, 11] : List Nat)) q e))))), ?_⟩
    first | exact ⟨NZ, LF_21A_22, by (try dsimp only) <;> omega, by (try dsimp only) <;> omega, by (try dsimp only) <;> omega⟩ | exact ⟨NF_21A_22, LF_21A_22, by (try dsimp only) <;> omega, by (try dsimp only) <;> omega, by (try dsimp only) <;> omega⟩
set_option maxRecDepth 10000 in
theorem s_d_tellTool {n : Nat} {l : Int} {F : Nat → Int32} {A : Nat → Nat → Int32} {J : Nat → Nat → Int64}  (hF : IFm F) (hA : IAm A) (hn : 50 ≤ n) (hl : 0 ≤ l ∧ (F 18).toInt = l ∧ (F 19).toInt = 1 - l) (NFA : NCm F A) (hr : ai A 17 (F 19).toInt < 6) (h13 : (F 13).toInt = 0) : ok (d_tellTool n F A J) (fun r => IFm r.2.1 ∧ IAm r.2.2.1 ∧ (∀ q, q ∉ ([11, 13, 14, 15, 16, 20] : List Nat) → r.2.1 q = F q) ∧ (∀ q, q ∉ ([9, 10, 17, 18] : List Nat) → r.2.2.1 q = A q) ∧ NCm r.2.1 r.2.2.1 ∧ LSm l A r.2.2.1 ∧ ((F 15).toInt = 0 ∨ 1 ≤ (r.2.1 15).toInt) ∧ (F 11).toInt ≤ (r.2.1 11).toInt ∧ ((r.2.1 13).toInt = 0 ∨ 1 ≤ (r.2.1 13).toInt)) := by
  have r18 : 0 ≤ (F 18).toInt ∧ (F 18).toInt ≤ 1 := hF 18
  have LFA : LSm l A A := LSm.rfl' l A
  have aFA : ai A 17 (F 19).toInt = ai A 17 (F 19).toInt := rfl
  have ct := NFA.2
  unfold CTm at ct
  have g11 : 0 ≤ ai A 11 (F 19).toInt ∧ ai A 11 (F 19).toInt ≤ 8 := hA 11 _ (by have := hF 19; exact this.1)
  have g17 : 0 ≤ ai A 17 (F 19).toInt ∧ ai A 17 (F 19).toInt ≤ 6 := hA 17 _ (by have := hF 19; exact this.1)
  have g19 : 0 ≤ ai A 19 (F 19).toInt ∧ ai A 19 (F 19).toInt ≤ 6 := hA 19 _ (by have := hF 19; exact this.1)
  have g29 : 0 ≤ ai A 29 (F 19).toInt ∧ ai A 29 (F 19).toInt ≤ 6 := hA 29 _ (by have := hF 19; exact this.1)
  have r_1 : 0 ≤ (F 11).toInt ∧ (F 11).toInt ≤ 400 := hF 11
  have r_2 : 0 ≤ (F 13).toInt ∧ (F 13).toInt ≤ 5 := hF 13
  have r_3 : 0 ≤ (F 15).toInt ∧ (F 15).toInt ≤ 5 := hF 15
  have r_4 : 0 ≤ (F 18).toInt ∧ (F 18).toInt ≤ 1 := hF 18
  have r_5 : 0 ≤ (F 19).toInt ∧ (F 19).toInt ≤ 1 := hF 19
  have r_6 : 0 ≤ (F 20).toInt ∧ (F 20).toInt ≤ 32 := hF 20
  unfold d_tellTool
  refine ok_call (s_d_named hF hA (by omega)) ?_
  rintro ⟨v_7, F_8, A_9, J_10⟩ ⟨hF_8, hA_9, F_8_o, A_9_o, v_7_p⟩
  dsimp only at hF_8 hA_9 F_8_o A_9_o v_7_p ⊢
  have v_7_p : v_7 = F 11 ∧ (((F 13).toInt = 0 ∧ (F_8 11).toInt = (F 11).toInt + 1 ∧ (F_8 13).toInt = 0) ∨ ((F_8 11).toInt = (F 11).toInt ∧ 1 ≤ (F_8 13).toInt)) ∧ ((F 15).toInt = 0 ∨ 1 ≤ (F_8 15).toInt) := v_7_p
  have r_11 : 0 ≤ (F_8 11).toInt ∧ (F_8 11).toInt ≤ 400 := hF_8 11
  have r_12 : 0 ≤ (F_8 13).toInt ∧ (F_8 13).toInt ≤ 5 := hF_8 13
  have r_13 : 0 ≤ (F_8 15).toInt ∧ (F_8 15).toInt ≤ 5 := hF_8 15
  have r_14 : 0 ≤ (F_8 18).toInt ∧ (F_8 18).toInt ≤ 1 := hF_8 18
  have f_15 : (F_8 18).toInt = (F 18).toInt := congrArg Int32.toInt (F_8_o 18 (by decide))
  have r_16 : 0 ≤ (F_8 19).toInt ∧ (F_8 19).toInt ≤ 1 := hF_8 19
  have f_17 : (F_8 19).toInt = (F 19).toInt := congrArg Int32.toInt (F_8_o 19 (by decide))
  have r_18 : 0 ≤ (F_8 20).toInt ∧ (F_8 20).toInt ≤ 32 := hF_8 20
  have f_19 : (F_8 20).toInt = (F 20).toInt := congrArg Int32.toInt (F_8_o 20 (by decide))
  have LF_8A_9 : LSm l A A_9 := LFA.fr _ A_9_o (by decide)
  have NF_8A_9 : NCm F_8 A_9 := NFA.fr0 (F_8_o 19 (by decide)) (F_8_o 20 (by decide)) (fun q hq => A_9_o q (by simp))
  have aF_8A_9 : ai A_9 17 (F_8 19).toInt = ai A 17 (F 19).toInt := by rw [ai_fr (A_9_o 17 (by decide)), F_8_o 19 (by decide)] <;> exact aFA
  rw [v_7_p.1]
  refine ok_ld (j := 17) hA_9 (by omega) (by omega) ?_
  intro v_20 v_20_e v_20_r
  have v_20_r : 0 ≤ v_20.toInt ∧ v_20.toInt ≤ 6 := v_20_r
  have l_21 : (0 : Int32).toInt = 0 := by decide
  refine ok_call (s_d_known hF_8 hA_9 (by omega) (NF_8A_9.1) (by omega)) ?_
  rintro ⟨v_22, F_23, A_24, J_25⟩ ⟨hF_23, hA_24, F_23_o, A_24_o, v_22_p⟩
  dsimp only at hF_23 hA_24 F_23_o A_24_o v_22_p ⊢
  have v_22_p : -1 ≤ v_22.toInt ∧ v_22.toInt ≤ 7 ∧ (0 ≤ v_22.toInt ∨ 1 ≤ (F_23 13).toInt ∨ 1 ≤ (F_23 15).toInt) ∧ ((F_8 15).toInt = 0 ∨ 1 ≤ (F_23 15).toInt) ∧ (v_22.toInt < 0 ∨ ((0 : Int32).toInt = 0 ∧ v_22.toInt < ai A_9 11 (F_8 19).toInt) ∨ ((0 : Int32).toInt = 1 ∧ v_22.toInt < ai A_9 17 (F_8 19).toInt) ∨ ((0 : Int32).toInt = 2 ∧ v_22.toInt < ai A_9 19 (F_8 19).toInt) ∨ ((0 : Int32).toInt = 3 ∧ v_22.toInt < ai A_9 29 (F_8 19).toInt)) ∧ (((F_8 13).toInt = 0 ∧ (F_23 11).toInt = (F_8 11).toInt + 1 ∧ (F_23 13).toInt = 0) ∨ ((F_23 11).toInt = (F_8 11).toInt ∧ 1 ≤ (F_23 13).toInt)) := v_22_p
  have r_26 : 0 ≤ (F_23 11).toInt ∧ (F_23 11).toInt ≤ 400 := hF_23 11
  have r_27 : 0 ≤ (F_23 13).toInt ∧ (F_23 13).toInt ≤ 5 := hF_23 13
  have r_28 : 0 ≤ (F_23 15).toInt ∧ (F_23 15).toInt ≤ 5 := hF_23 15
  have r_29 : 0 ≤ (F_23 18).toInt ∧ (F_23 18).toInt ≤ 1 := hF_23 18
  have f_30 : (F_23 18).toInt = (F_8 18).toInt := congrArg Int32.toInt (F_23_o 18 (by decide))
  have r_31 : 0 ≤ (F_23 19).toInt ∧ (F_23 19).toInt ≤ 1 := hF_23 19
  have f_32 : (F_23 19).toInt = (F_8 19).toInt := congrArg Int32.toInt (F_23_o 19 (by decide))
  have r_33 : 0 ≤ (F_23 20).toInt ∧ (F_23 20).toInt ≤ 32 := hF_23 20
  have f_34 : (F_23 20).toInt = (F_8 20).toInt := congrArg Int32.toInt (F_23_o 20 (by decide))
  have LF_23A_24 : LSm l A A_24 := LF_8A_9.fr _ A_24_o (by decide)
  have NF_23A_24 : NCm F_23 A_24 := NF_8A_9.fr0 (F_23_o 19 (by decide)) (F_23_o 20 (by decide)) (fun q hq => A_24_o q (by simp))
  have aF_23A_24 : ai A_24 17 (F_23 19).toInt = ai A 17 (F 19).toInt := by rw [ai_fr (A_24_o 17 (by decide)), F_23_o 19 (by decide)] <;> exact aF_8A_9
  have l_35 : (6 : Int32).toInt = 6 := by decide
  have e_36 := i_mulL (c := 6) (k := 6) (x := (F_8 19)) (by decide) (by omega) (by omega)
  have e_37 := i_add (x := (6 * (F_8 19))) (y := v_20) (by omega) (by omega)
  refine ok_st (j := 18) hA_24 (by omega) (by omega) (trivial) ?_
  intro A_38 hA_38 A_38_o A_38_s A_38_n
  have LF_23A_38 : LSm l A A_38 := LF_23A_24.st hl.1 6 rfl A_38_o A_38_n ⟨by omega, by omega⟩ (by omega)
  have NF_23A_38 : NCm F_23 A_38 := NF_23A_24.fr0 rfl rfl (fun q hq => A_38_o q (by omega))
  have aF_23A_38 : ai A_38 17 (F_23 19).toInt = ai A 17 (F 19).toInt := by rw [ai_fr (A_38_o 17 (by decide))] <;> exact aF_23A_24
  refine ok_call (s_d_must hF_23 hA_38) ?_
  rintro ⟨u_39, F_40, A_41, J_42⟩ ⟨hF_40, hA_41, F_40_o, A_41_o, u_39_p⟩
  dsimp only at hF_40 hA_41 F_40_o A_41_o u_39_p ⊢
  have u_39_p : (((F_23 13).toInt = 0 ∧ (F_40 11).toInt = (F_23 11).toInt + 1 ∧ (F_40 13).toInt = 0) ∨ ((F_40 11).toInt = (F_23 11).toInt ∧ 1 ≤ (F_40 13).toInt)) := u_39_p
  have r_43 : 0 ≤ (F_40 11).toInt ∧ (F_40 11).toInt ≤ 400 := hF_40 11
  have r_44 : 0 ≤ (F_40 13).toInt ∧ (F_40 13).toInt ≤ 5 := hF_40 13
  have r_45 : 0 ≤ (F_40 15).toInt ∧ (F_40 15).toInt ≤ 5 := hF_40 15
  have f_46 : (F_40 15).toInt = (F_23 15).toInt := congrArg Int32.toInt (F_40_o 15 (by decide))
  have r_47 : 0 ≤ (F_40 18).toInt ∧ (F_40 18).toInt ≤ 1 := hF_40 18
  have f_48 : (F_40 18).toInt = (F_23 18).toInt := congrArg Int32.toInt (F_40_o 18 (by decide))
  have r_49 : 0 ≤ (F_40 19).toInt ∧ (F_40 19).toInt ≤ 1 := hF_40 19
  have f_50 : (F_40 19).toInt = (F_23 19).toInt := congrArg Int32.toInt (F_40_o 19 (by decide))
  have r_51 : 0 ≤ (F_40 20).toInt ∧ (F_40 20).toInt ≤ 32 := hF_40 20
  have f_52 : (F_40 20).toInt = (F_23 20).toInt := congrArg Int32.toInt (F_40_o 20 (by decide))
  have LF_40A_41 : LSm l A A_41 := LF_23A_38.fr _ A_41_o (by decide)
  have NF_40A_41 : NCm F_40 A_41 := NF_23A_38.fr0 (F_40_o 19 (by decide)) (F_40_o 20 (by decide)) (fun q hq => A_41_o q (by simp))
  have aF_40A_41 : ai A_41 17 (F_40 19).toInt = ai A 17 (F 19).toInt := by rw [ai_fr (A_41_o 17 (by decide)), F_40_o 19 (by decide)] <;> exact aF_23A_38
  refine ok_cond (fun c_53 => ?_) (fun c_53 => ?_)
  · rw [i_le] at c_53
    refine ok_ld (j := 17) hA_41 (by omega) (by omega) ?_
    intro v_54 v_54_e v_54_r
    have v_54_r : 0 ≤ v_54.toInt ∧ v_54.toInt ≤ 6 := v_54_r
    refine ok_call (s_d_notes hF_40 hA_41 (by omega) (by omega) (by omega)) ?_
    rintro ⟨u_55, F_56, A_57, J_58⟩ ⟨hF_56, hA_57, F_56_o, A_57_o, u_55_p⟩
    dsimp only at hF_56 hA_57 F_56_o A_57_o u_55_p ⊢
    have u_55_p : (F_56 20).toInt = (F_40 20).toInt + 1 ∧ ai A_57 9 (F_40 20).toInt = (1 : Int32).toInt ∧ ai A_57 10 (F_40 20).toInt = v_54.toInt ∧ (∀ q, 0 ≤ q → q ≠ (F_40 20).toInt → ai A_57 9 q = ai A_41 9 q ∧ ai A_57 10 q = ai A_41 10 q) := u_55_p
    have r_59 : 0 ≤ (F_56 11).toInt ∧ (F_56 11).toInt ≤ 400 := hF_56 11
    have f_60 : (F_56 11).toInt = (F_40 11).toInt := congrArg Int32.toInt (F_56_o 11 (by decide))
    have r_61 : 0 ≤ (F_56 13).toInt ∧ (F_56 13).toInt ≤ 5 := hF_56 13
    have f_62 : (F_56 13).toInt = (F_40 13).toInt := congrArg Int32.toInt (F_56_o 13 (by decide))
    have r_63 : 0 ≤ (F_56 15).toInt ∧ (F_56 15).toInt ≤ 5 := hF_56 15
    have f_64 : (F_56 15).toInt = (F_40 15).toInt := congrArg Int32.toInt (F_56_o 15 (by decide))
    have r_65 : 0 ≤ (F_56 18).toInt ∧ (F_56 18).toInt ≤ 1 := hF_56 18
    have f_66 : (F_56 18).toInt = (F_40 18).toInt := congrArg Int32.toInt (F_56_o 18 (by decide))
    have r_67 : 0 ≤ (F_56 19).toInt ∧ (F_56 19).toInt ≤ 1 := hF_56 19
    have f_68 : (F_56 19).toInt = (F_40 19).toInt := congrArg Int32.toInt (F_56_o 19 (by decide))
    have r_69 : 0 ≤ (F_56 20).toInt ∧ (F_56 20).toInt ≤ 32 := hF_56 20
    have LF_56A_57 : LSm l A A_57 := LF_40A_41.fr _ A_57_o (by decide)
    have aF_56A_57 : ai A_57 17 (F_56 19).toInt = ai A 17 (F 19).toInt := by rw [ai_fr (A_57_o 17 (by decide)), F_56_o 19 (by decide)] <;> exact aF_40A_41
    refine ok_ld (j := 17) hA_57 (by omega) (by omega) ?_
    intro v_70 v_70_e v_70_r
    have v_70_r : 0 ≤ v_70.toInt ∧ v_70.toInt ≤ 6 := v_70_r
    have l_71 : (1 : Int32).toInt = 1 := by decide
    have e_72 := i_add (x := v_70) (y := 1) (by omega) (by omega)
    refine ok_st (j := 17) hA_57 (by omega) (by omega) (⟨by omega, by omega⟩) ?_
    intro A_73 hA_73 A_73_o A_73_s A_73_n
    have LF_56A_73 : LSm l A A_73 := LF_56A_57.st hl.1 1 rfl A_73_o A_73_n ⟨by omega, by omega⟩ (by omega)
    have e19 : F_56 19 = F_40 19 := F_56_o 19 (by decide)
    have zr : ai A_73 17 (F_40 19).toInt = ai A_41 17 (F_40 19).toInt + 1 := by rw [← e19, A_73_s, ← ai_fr (A_57_o 17 (by decide))]; omega
    have NZ : NCm F_56 A_73 := NCm.add (r := 17) NF_40A_41 (by omega) e19 u_55_p A_57_o A_73_o v_54_e zr
    refine ok_some ?_
    refine ⟨hF_56, hA_73, (fun q hq => ((((F_56_o q (fun e => hq ((by decide : ∀ x, x ∈ ([20] : List Nat) → x ∈ ([11, 13, 14, 15, 16, 20] : List Nat)) q e))).trans (F_40_o q (fun e => hq ((by decide : ∀ x, x ∈ ([11, 13, 14] : List Nat) → x ∈ ([11, 13, 14, 15, 16, 20] : List Nat)) q e)))).trans (F_23_o q (fun e => hq ((by decide : ∀ x, x ∈ ([11, 13, 14, 15, 16] : List Nat) → x ∈ ([11, 13, 14, 15, 16, 20] : List Nat)) q e)))).trans (F_8_o q (fun e => hq ((by decide : ∀ x, x ∈ ([11, 13, 14, 15, 16] : List Nat) → x ∈ ([11, 13, 14, 15, 16, 20] : List Nat)) q e))))), (fun q hq => ((((((A_73_o q (fun e => hq (by rw [e]; decide))).trans (A_57_o q (fun e => hq ((by decide : ∀ x, x ∈ ([9, 10] : List Nat) → x ∈ ([9, 10, 17, 18] : List Nat)) q e)))).trans (A_41_o q (fun e => hq ((by decide : ∀ x, x ∈ ([] : List Nat) → x ∈ ([9, 10, 17, 18] : List Nat)) q e)))).trans (A_38_o q (fun e => hq (by rw [e]; decide)))).trans (A_24_o q (fun e => hq ((by decide : ∀ x, x ∈ ([] : List Nat) → x ∈ ([9, 10, 17, 18] : List Nat)) q e)))).trans (A_9_o q (fun e => hq ((by decide : ∀ x, x ∈ ([] : List Nat) → x ∈ ([9, 10, 17, 18] : List Nat)) q e))))), ?_⟩
    first | exact ⟨NZ, LF_56A_73, by (try dsimp only) <;> omega, by (try dsimp only) <;> omega, by (try dsimp only) <;> omega⟩ | exact ⟨NF_56A_73, LF_56A_73, by (try dsimp only) <;> omega, by (try dsimp only) <;> omega, by (try dsimp only) <;> omega⟩
  · rw [i_nle] at c_53
    refine ok_some ?_
    refine ⟨hF_40, hA_41, (fun q hq => (((F_40_o q (fun e => hq ((by decide : ∀ x, x ∈ ([11, 13, 14] : List Nat) → x ∈ ([11, 13, 14, 15, 16, 20] : List Nat)) q e))).trans (F_23_o q (fun e => hq ((by decide : ∀ x, x ∈ ([11, 13, 14, 15, 16] : List Nat) → x ∈ ([11, 13, 14, 15, 16, 20] : List Nat)) q e)))).trans (F_8_o q (fun e => hq ((by decide : ∀ x, x ∈ ([11, 13, 14, 15, 16] : List Nat) → x ∈ ([11, 13, 14, 15, 16, 20] : List Nat)) q e))))), (fun q hq => ((((A_41_o q (fun e => hq ((by decide : ∀ x, x ∈ ([] : List Nat) → x ∈ ([9, 10, 17, 18] : List Nat)) q e))).trans (A_38_o q (fun e => hq (by rw [e]; decide)))).trans (A_24_o q (fun e => hq ((by decide : ∀ x, x ∈ ([] : List Nat) → x ∈ ([9, 10, 17, 18] : List Nat)) q e)))).trans (A_9_o q (fun e => hq ((by decide : ∀ x, x ∈ ([] : List Nat) → x ∈ ([9, 10, 17, 18] : List Nat)) q e))))), ?_⟩
    first | exact ⟨NZ, LF_40A_41, by (try dsimp only) <;> omega, by (try dsimp only) <;> omega, by (try dsimp only) <;> omega⟩ | exact ⟨NF_40A_41, LF_40A_41, by (try dsimp only) <;> omega, by (try dsimp only) <;> omega, by (try dsimp only) <;> omega⟩
end Qz61
section Qz62
set_option maxRecDepth 10000 in
theorem s_d_tellTask {n : Nat} {l : Int} {F : Nat → Int32} {A : Nat → Nat → Int32} {J : Nat → Nat → Int64}  (hF : IFm F) (hA : IAm A) (hn : 50 ≤ n) (hl : 0 ≤ l ∧ (F 18).toInt = l ∧ (F 19).toInt = 1 - l) (NFA : NCm F A) (hr : ai A 19 (F 19).toInt < 6) (h13 : (F 13).toInt = 0) : ok (d_tellTask n F A J) (fun r => IFm r.2.1 ∧ IAm r.2.2.1 ∧ (∀ q, q ∉ ([11, 13, 14, 15, 16, 20] : List Nat) → r.2.1 q = F q) ∧ (∀ q, q ∉ ([9, 10, 19, 20, 21, 22] : List Nat) → r.2.2.1 q = A q) ∧ NCm r.2.1 r.2.2.1 ∧ LSm l A r.2.2.1 ∧ (F 15).toInt ≤ 5 * (r.2.1 15).toInt ∧ (F 11).toInt ≤ (r.2.1 11).toInt ∧ (1 ≤ (r.2.1 13).toInt ∨ 1 ≤ (r.2.1 15).toInt ∨ ((XTm A (F 19).toInt → XTm r.2.2.1 (F 19).toInt) ∧ (XUm A (F 19).toInt → XUm r.2.2.1 (F 19).toInt) ∧ (XMm A (F 19).toInt → XMm r.2.2.1 (F 19).toInt)))) := by
  have r18 : 0 ≤ (F 18).toInt ∧ (F 18).toInt ≤ 1 := hF 18
  have LFA : LSm l A A := LSm.rfl' l A
  have ct := NFA.2
  unfold CTm at ct
  have g11 : 0 ≤ ai A 11 (F 19).toInt ∧ ai A 11 (F 19).toInt ≤ 8 := hA 11 _ (by have := hF 19; exact this.1)
  have g12 : 0 ≤ ai A 12 (F 19).toInt ∧ ai A 12 (F 19).toInt ≤ 12 := hA 12 _ (by have := hF 19; exact this.1)
  have g17 : 0 ≤ ai A 17 (F 19).toInt ∧ ai A 17 (F 19).toInt ≤ 6 := hA 17 _ (by have := hF 19; exact this.1)
  have g19 : 0 ≤ ai A 19 (F 19).toInt ∧ ai A 19 (F 19).toInt ≤ 6 := hA 19 _ (by have := hF 19; exact this.1)
  have g29 : 0 ≤ ai A 29 (F 19).toInt ∧ ai A 29 (F 19).toInt ≤ 6 := hA 29 _ (by have := hF 19; exact this.1)
  have aFA : ai A 19 (F 19).toInt = ai A 19 (F 19).toInt := rfl
  have bFA : ∀ i, 0 ≤ i → i ≠ 6 * (F 19).toInt + ai A 19 (F 19).toInt → ai A 20 i = ai A 20 i := fun _ _ _ => rfl
  have cFA : ∀ i, 0 ≤ i → i ≠ 6 * (F 19).toInt + ai A 19 (F 19).toInt → ai A 22 i = ai A 22 i := fun _ _ _ => rfl
  have KFA : ∀ q, q = 28 ∨ q = 29 ∨ q = 30 ∨ q = 31 ∨ q = 32 → A q = A q := fun _ _ => rfl
  have r_1 : 0 ≤ (F 11).toInt ∧ (F 11).toInt ≤ 400 := hF 11
  have r_2 : 0 ≤ (F 13).toInt ∧ (F 13).toInt ≤ 5 := hF 13
  have r_3 : 0 ≤ (F 15).toInt ∧ (F 15).toInt ≤ 5 := hF 15
  have r_4 : 0 ≤ (F 18).toInt ∧ (F 18).toInt ≤ 1 := hF 18
  have r_5 : 0 ≤ (F 19).toInt ∧ (F 19).toInt ≤ 1 := hF 19
  have r_6 : 0 ≤ (F 20).toInt ∧ (F 20).toInt ≤ 32 := hF 20
  unfold d_tellTask
  refine ok_ld (j := 19) hA (by omega) (by omega) ?_
  intro v_7 v_7_e v_7_r
  change 0 ≤ v_7.toInt ∧ v_7.toInt ≤ 6 at v_7_r
  refine ok_call (l_d_named hF hA (by omega)) ?_
  rintro ⟨v_8, F_9, A_10, J_11⟩ ⟨hF_9, hA_10, F_9_o, A_10_o, v_8_p⟩
  dsimp only at hF_9 hA_10 F_9_o A_10_o v_8_p ⊢
  change v_8 = F 11 ∧ (F 11).toInt ≤ (F_9 11).toInt ∧ (F 13).toInt ≤ 5 * (F_9 13).toInt ∧ (F 15).toInt ≤ 5 * (F_9 15).toInt at v_8_p
  have r_12 : 0 ≤ (F_9 11).toInt ∧ (F_9 11).toInt ≤ 400 := hF_9 11
  have r_13 : 0 ≤ (F_9 13).toInt ∧ (F_9 13).toInt ≤ 5 := hF_9 13
  have r_14 : 0 ≤ (F_9 15).toInt ∧ (F_9 15).toInt ≤ 5 := hF_9 15
  have r_15 : 0 ≤ (F_9 18).toInt ∧ (F_9 18).toInt ≤ 1 := hF_9 18
  have f_16 : (F_9 18).toInt = (F 18).toInt := congrArg Int32.toInt (F_9_o 18 (by decide))
  have r_17 : 0 ≤ (F_9 19).toInt ∧ (F_9 19).toInt ≤ 1 := hF_9 19
  have f_18 : (F_9 19).toInt = (F 19).toInt := congrArg Int32.toInt (F_9_o 19 (by decide))
  have r_19 : 0 ≤ (F_9 20).toInt ∧ (F_9 20).toInt ≤ 32 := hF_9 20
  have f_20 : (F_9 20).toInt = (F 20).toInt := congrArg Int32.toInt (F_9_o 20 (by decide))
  have LF_9A_10 : LSm l A A_10 := LFA.fr _ A_10_o (by decide)
  have NF_9A_10 : NCm F_9 A_10 := NFA.fr0 (F_9_o 19 (by decide)) (F_9_o 20 (by decide)) (fun q hq => A_10_o q (by simp))
  have aF_9A_10 : ai A_10 19 (F_9 19).toInt = ai A 19 (F 19).toInt := by rw [ai_fr (A_10_o 19 (by decide)), F_9_o 19 (by decide)] <;> exact aFA
  have bF_9A_10 : ∀ i, 0 ≤ i → i ≠ 6 * (F 19).toInt + ai A 19 (F 19).toInt → ai A_10 20 i = ai A 20 i := by rw [ai_fr (A_10_o 20 (by decide))] <;> exact bFA
  have cF_9A_10 : ∀ i, 0 ≤ i → i ≠ 6 * (F 19).toInt + ai A 19 (F 19).toInt → ai A_10 22 i = ai A 22 i := by rw [ai_fr (A_10_o 22 (by decide))] <;> exact cFA
  have KF_9A_10 : ∀ q, q = 28 ∨ q = 29 ∨ q = 30 ∨ q = 31 ∨ q = 32 → A_10 q = A q := fun q hq => (A_10_o q (by rcases hq with rfl | rfl | rfl | rfl | rfl <;> decide)).trans (KFA q hq)
  rw [v_8_p.1]
  have l_21 : (0 : Int32).toInt = 0 := by decide
  refine ok_call (l_d_known hF_9 hA_10 (by omega) (NF_9A_10.1) (by omega)) ?_
  rintro ⟨v_22, F_23, A_24, J_25⟩ ⟨hF_23, hA_24, F_23_o, A_24_o, v_22_p⟩
  dsimp only at hF_23 hA_24 F_23_o A_24_o v_22_p ⊢
  change -1 ≤ v_22.toInt ∧ v_22.toInt ≤ 7 ∧ 0 ≤ v_22.toInt + (F_23 13).toInt + (F_23 15).toInt ∧ (F_9 11).toInt ≤ (F_23 11).toInt ∧ (F_9 13).toInt ≤ 5 * (F_23 13).toInt ∧ (F_9 15).toInt ≤ 5 * (F_23 15).toInt ∧ ((0 : Int32).toInt = 0 → v_22.toInt < ai A_10 11 (F_9 19).toInt) ∧ ((0 : Int32).toInt = 1 → v_22.toInt < ai A_10 17 (F_9 19).toInt) ∧ ((0 : Int32).toInt = 2 → v_22.toInt < ai A_10 19 (F_9 19).toInt) ∧ ((0 : Int32).toInt = 3 → v_22.toInt < ai A_10 29 (F_9 19).toInt) at v_22_p
  obtain ⟨v_22_0, v_22_1, v_22_2, v_22_3, v_22_4, v_22_5, v_22_6, v_22_7, v_22_8, v_22_9⟩ := v_22_p
  first | have v_22_s := v_22_6 (by decide) | have v_22_s := v_22_7 (by decide) | have v_22_s := v_22_8 (by decide) | have v_22_s := v_22_9 (by decide)
  clear v_22_6 v_22_7 v_22_8 v_22_9
  have r_26 : 0 ≤ (F_23 11).toInt ∧ (F_23 11).toInt ≤ 400 := hF_23 11
  have r_27 : 0 ≤ (F_23 13).toInt ∧ (F_23 13).toInt ≤ 5 := hF_23 13
  have r_28 : 0 ≤ (F_23 15).toInt ∧ (F_23 15).toInt ≤ 5 := hF_23 15
  have r_29 : 0 ≤ (F_23 18).toInt ∧ (F_23 18).toInt ≤ 1 := hF_23 18
  have f_30 : (F_23 18).toInt = (F_9 18).toInt := congrArg Int32.toInt (F_23_o 18 (by decide))
  have r_31 : 0 ≤ (F_23 19).toInt ∧ (F_23 19).toInt ≤ 1 := hF_23 19
  have f_32 : (F_23 19).toInt = (F_9 19).toInt := congrArg Int32.toInt (F_23_o 19 (by decide))
  have r_33 : 0 ≤ (F_23 20).toInt ∧ (F_23 20).toInt ≤ 32 := hF_23 20
  have f_34 : (F_23 20).toInt = (F_9 20).toInt := congrArg Int32.toInt (F_23_o 20 (by decide))
  have LF_23A_24 : LSm l A A_24 := LF_9A_10.fr _ A_24_o (by decide)
  have NF_23A_24 : NCm F_23 A_24 := NF_9A_10.fr0 (F_23_o 19 (by decide)) (F_23_o 20 (by decide)) (fun q hq => A_24_o q (by simp))
  have aF_23A_24 : ai A_24 19 (F_23 19).toInt = ai A 19 (F 19).toInt := by rw [ai_fr (A_24_o 19 (by decide)), F_23_o 19 (by decide)] <;> exact aF_9A_10
  have bF_23A_24 : ∀ i, 0 ≤ i → i ≠ 6 * (F 19).toInt + ai A 19 (F 19).toInt → ai A_24 20 i = ai A 20 i := by rw [ai_fr (A_24_o 20 (by decide))] <;> exact bF_9A_10
  have cF_23A_24 : ∀ i, 0 ≤ i → i ≠ 6 * (F 19).toInt + ai A 19 (F 19).toInt → ai A_24 22 i = ai A 22 i := by rw [ai_fr (A_24_o 22 (by decide))] <;> exact cF_9A_10
  have KF_23A_24 : ∀ q, q = 28 ∨ q = 29 ∨ q = 30 ∨ q = 31 ∨ q = 32 → A_24 q = A q := fun q hq => (A_24_o q (by rcases hq with rfl | rfl | rfl | rfl | rfl <;> decide)).trans (KF_9A_10 q hq)
  have l_35 : (6 : Int32).toInt = 6 := by decide
  have e_36 := i_mulL (c := 6) (k := 6) (x := (F 19)) (by decide) (by omega) (by omega)
  have e_37 := i_add (x := (6 * (F 19))) (y := v_7) (by omega) (by omega)
  refine ok_st (j := 20) hA_24 (by omega) (by omega) (⟨by omega, by omega⟩) ?_
  intro A_38 hA_38 A_38_o A_38_s A_38_n
  have LF_23A_38 : LSm l A A_38 := LF_23A_24.st hl.1 6 rfl A_38_o A_38_n ⟨by omega, by omega⟩ (by omega)
  have NF_23A_38 : NCm F_23 A_38 := NF_23A_24.fr0 rfl rfl (fun q hq => A_38_o q (by omega))
  have aF_23A_38 : ai A_38 19 (F_23 19).toInt = ai A 19 (F 19).toInt := by rw [ai_fr (A_38_o 19 (by decide))] <;> exact aF_23A_24
  have bF_23A_38 : ∀ i, 0 ≤ i → i ≠ 6 * (F 19).toInt + ai A 19 (F 19).toInt → ai A_38 20 i = ai A 20 i := fun i h0 h1 => (A_38_n i h0 (by omega)).trans (bF_23A_24 i h0 h1)
  have cF_23A_38 : ∀ i, 0 ≤ i → i ≠ 6 * (F 19).toInt + ai A 19 (F 19).toInt → ai A_38 22 i = ai A 22 i := by rw [ai_fr (A_38_o 22 (by decide))] <;> exact cF_23A_24
  have KF_23A_38 : ∀ q, q = 28 ∨ q = 29 ∨ q = 30 ∨ q = 31 ∨ q = 32 → A_38 q = A q := fun q hq => (A_38_o q (by omega)).trans (KF_23A_24 q hq)
  have pF_23A_38 : ai A_38 20 (6 * (F 19).toInt + ai A 19 (F 19).toInt) = v_22.toInt := by rw [show 6 * (F 19).toInt + ai A 19 (F 19).toInt = (6 * F 19 + v_7).toInt by omega]; exact A_38_s
  have l_39 : (999 : Int32).toInt = 999 := by decide
  refine ok_call (l_d_bounded hF_23 hA_38 (by omega) (by omega)) ?_
  rintro ⟨v_40, F_41, A_42, J_43⟩ ⟨hF_41, hA_42, F_41_o, A_42_o, v_40_p⟩
  dsimp only at hF_41 hA_42 F_41_o A_42_o v_40_p ⊢
  change 0 ≤ v_40.toInt ∧ v_40.toInt ≤ 9999 ∧ (0 : Int32).toInt ≤ v_40.toInt + 10000 * ((F_41 13).toInt + (F_41 15).toInt) ∧ v_40.toInt ≤ (999 : Int32).toInt + 20000 * ((F_41 13).toInt + (F_41 15).toInt) ∧ (F_23 11).toInt ≤ (F_41 11).toInt ∧ (F_23 13).toInt ≤ 5 * (F_41 13).toInt ∧ (F_23 15).toInt ≤ 5 * (F_41 15).toInt at v_40_p
  have r_44 : 0 ≤ (F_41 11).toInt ∧ (F_41 11).toInt ≤ 400 := hF_41 11
  have r_45 : 0 ≤ (F_41 13).toInt ∧ (F_41 13).toInt ≤ 5 := hF_41 13
  have r_46 : 0 ≤ (F_41 15).toInt ∧ (F_41 15).toInt ≤ 5 := hF_41 15
  have r_47 : 0 ≤ (F_41 18).toInt ∧ (F_41 18).toInt ≤ 1 := hF_41 18
  have f_48 : (F_41 18).toInt = (F_23 18).toInt := congrArg Int32.toInt (F_41_o 18 (by decide))
  have r_49 : 0 ≤ (F_41 19).toInt ∧ (F_41 19).toInt ≤ 1 := hF_41 19
  have f_50 : (F_41 19).toInt = (F_23 19).toInt := congrArg Int32.toInt (F_41_o 19 (by decide))
  have r_51 : 0 ≤ (F_41 20).toInt ∧ (F_41 20).toInt ≤ 32 := hF_41 20
  have f_52 : (F_41 20).toInt = (F_23 20).toInt := congrArg Int32.toInt (F_41_o 20 (by decide))
  have LF_41A_42 : LSm l A A_42 := LF_23A_38.fr _ A_42_o (by decide)
  have NF_41A_42 : NCm F_41 A_42 := NF_23A_38.fr0 (F_41_o 19 (by decide)) (F_41_o 20 (by decide)) (fun q hq => A_42_o q (by simp))
  have aF_41A_42 : ai A_42 19 (F_41 19).toInt = ai A 19 (F 19).toInt := by rw [ai_fr (A_42_o 19 (by decide)), F_41_o 19 (by decide)] <;> exact aF_23A_38
  have bF_41A_42 : ∀ i, 0 ≤ i → i ≠ 6 * (F 19).toInt + ai A 19 (F 19).toInt → ai A_42 20 i = ai A 20 i := by rw [ai_fr (A_42_o 20 (by decide))] <;> exact bF_23A_38
  have cF_41A_42 : ∀ i, 0 ≤ i → i ≠ 6 * (F 19).toInt + ai A 19 (F 19).toInt → ai A_42 22 i = ai A 22 i := by rw [ai_fr (A_42_o 22 (by decide))] <;> exact cF_23A_38
  have pF_41A_42 : ai A_42 20 (6 * (F 19).toInt + ai A 19 (F 19).toInt) = v_22.toInt := by rw [ai_fr (A_42_o 20 (by decide))] <;> exact pF_23A_38
  have KF_41A_42 : ∀ q, q = 28 ∨ q = 29 ∨ q = 30 ∨ q = 31 ∨ q = 32 → A_42 q = A q := fun q hq => (A_42_o q (by rcases hq with rfl | rfl | rfl | rfl | rfl <;> decide)).trans (KF_23A_38 q hq)
  refine ok_st (j := 21) hA_42 (by omega) (by omega) (trivial) ?_
  intro A_53 hA_53 A_53_o A_53_s A_53_n
  have LF_41A_53 : LSm l A A_53 := LF_41A_42.st hl.1 6 rfl A_53_o A_53_n ⟨by omega, by omega⟩ (by omega)
  have NF_41A_53 : NCm F_41 A_53 := NF_41A_42.fr0 rfl rfl (fun q hq => A_53_o q (by omega))
  have aF_41A_53 : ai A_53 19 (F_41 19).toInt = ai A 19 (F 19).toInt := by rw [ai_fr (A_53_o 19 (by decide))] <;> exact aF_41A_42
  have bF_41A_53 : ∀ i, 0 ≤ i → i ≠ 6 * (F 19).toInt + ai A 19 (F 19).toInt → ai A_53 20 i = ai A 20 i := by rw [ai_fr (A_53_o 20 (by decide))] <;> exact bF_41A_42
  have cF_41A_53 : ∀ i, 0 ≤ i → i ≠ 6 * (F 19).toInt + ai A 19 (F 19).toInt → ai A_53 22 i = ai A 22 i := by rw [ai_fr (A_53_o 22 (by decide))] <;> exact cF_41A_42
  have pF_41A_53 : ai A_53 20 (6 * (F 19).toInt + ai A 19 (F 19).toInt) = v_22.toInt := by rw [ai_fr (A_53_o 20 (by decide))] <;> exact pF_41A_42
  have KF_41A_53 : ∀ q, q = 28 ∨ q = 29 ∨ q = 30 ∨ q = 31 ∨ q = 32 → A_53 q = A q := fun q hq => (A_53_o q (by omega)).trans (KF_41A_42 q hq)
  refine ok_st (j := 22) hA_53 (by omega) (by omega) (⟨by omega, by omega⟩) ?_
  intro A_54 hA_54 A_54_o A_54_s A_54_n
  have LF_41A_54 : LSm l A A_54 := LF_41A_53.st hl.1 6 rfl A_54_o A_54_n ⟨by omega, by omega⟩ (by omega)
  have NF_41A_54 : NCm F_41 A_54 := NF_41A_53.fr0 rfl rfl (fun q hq => A_54_o q (by omega))
  have aF_41A_54 : ai A_54 19 (F_41 19).toInt = ai A 19 (F 19).toInt := by rw [ai_fr (A_54_o 19 (by decide))] <;> exact aF_41A_53
  have bF_41A_54 : ∀ i, 0 ≤ i → i ≠ 6 * (F 19).toInt + ai A 19 (F 19).toInt → ai A_54 20 i = ai A 20 i := by rw [ai_fr (A_54_o 20 (by decide))] <;> exact bF_41A_53
  have cF_41A_54 : ∀ i, 0 ≤ i → i ≠ 6 * (F 19).toInt + ai A 19 (F 19).toInt → ai A_54 22 i = ai A 22 i := fun i h0 h1 => (A_54_n i h0 (by omega)).trans (cF_41A_53 i h0 h1)
  have pF_41A_54 : ai A_54 20 (6 * (F 19).toInt + ai A 19 (F 19).toInt) = v_22.toInt := by rw [ai_fr (A_54_o 20 (by decide))] <;> exact pF_41A_53
  have KF_41A_54 : ∀ q, q = 28 ∨ q = 29 ∨ q = 30 ∨ q = 31 ∨ q = 32 → A_54 q = A q := fun q hq => (A_54_o q (by omega)).trans (KF_41A_53 q hq)
  have qF_41A_54 : ai A_54 22 (6 * (F 19).toInt + ai A 19 (F 19).toInt) = 0 := by rw [show 6 * (F 19).toInt + ai A 19 (F 19).toInt = (6 * F 19 + v_7).toInt by omega]; exact A_54_s
  refine ok_call (l_d_must hF_41 hA_54) ?_
  rintro ⟨u_55, F_56, A_57, J_58⟩ ⟨hF_56, hA_57, F_56_o, A_57_o, u_55_p⟩
  dsimp only at hF_56 hA_57 F_56_o A_57_o u_55_p ⊢
  change (F_41 11).toInt ≤ (F_56 11).toInt ∧ (F_41 13).toInt ≤ 5 * (F_56 13).toInt at u_55_p
  have r_59 : 0 ≤ (F_56 11).toInt ∧ (F_56 11).toInt ≤ 400 := hF_56 11
  have r_60 : 0 ≤ (F_56 13).toInt ∧ (F_56 13).toInt ≤ 5 := hF_56 13
  have r_61 : 0 ≤ (F_56 15).toInt ∧ (F_56 15).toInt ≤ 5 := hF_56 15
  have f_62 : (F_56 15).toInt = (F_41 15).toInt := congrArg Int32.toInt (F_56_o 15 (by decide))
  have r_63 : 0 ≤ (F_56 18).toInt ∧ (F_56 18).toInt ≤ 1 := hF_56 18
  have f_64 : (F_56 18).toInt = (F_41 18).toInt := congrArg Int32.toInt (F_56_o 18 (by decide))
  have r_65 : 0 ≤ (F_56 19).toInt ∧ (F_56 19).toInt ≤ 1 := hF_56 19
  have f_66 : (F_56 19).toInt = (F_41 19).toInt := congrArg Int32.toInt (F_56_o 19 (by decide))
  have r_67 : 0 ≤ (F_56 20).toInt ∧ (F_56 20).toInt ≤ 32 := hF_56 20
  have f_68 : (F_56 20).toInt = (F_41 20).toInt := congrArg Int32.toInt (F_56_o 20 (by decide))
  have LF_56A_57 : LSm l A A_57 := LF_41A_54.fr _ A_57_o (by decide)
  have NF_56A_57 : NCm F_56 A_57 := NF_41A_54.fr0 (F_56_o 19 (by decide)) (F_56_o 20 (by decide)) (fun q hq => A_57_o q (by simp))
  have aF_56A_57 : ai A_57 19 (F_56 19).toInt = ai A 19 (F 19).toInt := by rw [ai_fr (A_57_o 19 (by decide)), F_56_o 19 (by decide)] <;> exact aF_41A_54
  have bF_56A_57 : ∀ i, 0 ≤ i → i ≠ 6 * (F 19).toInt + ai A 19 (F 19).toInt → ai A_57 20 i = ai A 20 i := by rw [ai_fr (A_57_o 20 (by decide))] <;> exact bF_41A_54
  have cF_56A_57 : ∀ i, 0 ≤ i → i ≠ 6 * (F 19).toInt + ai A 19 (F 19).toInt → ai A_57 22 i = ai A 22 i := by rw [ai_fr (A_57_o 22 (by decide))] <;> exact cF_41A_54
  have pF_56A_57 : ai A_57 20 (6 * (F 19).toInt + ai A 19 (F 19).toInt) = v_22.toInt := by rw [ai_fr (A_57_o 20 (by decide))] <;> exact pF_41A_54
  have qF_56A_57 : ai A_57 22 (6 * (F 19).toInt + ai A 19 (F 19).toInt) = 0 := by rw [ai_fr (A_57_o 22 (by decide))] <;> exact qF_41A_54
  have KF_56A_57 : ∀ q, q = 28 ∨ q = 29 ∨ q = 30 ∨ q = 31 ∨ q = 32 → A_57 q = A q := fun q hq => (A_57_o q (by rcases hq with rfl | rfl | rfl | rfl | rfl <;> decide)).trans (KF_41A_54 q hq)
  refine ok_cond (fun c_69 => ?_) (fun c_69 => ?_)
  · rw [i_le] at c_69
    refine ok_ld (j := 19) hA_57 (by omega) (by omega) ?_
    intro v_70 v_70_e v_70_r
    change 0 ≤ v_70.toInt ∧ v_70.toInt ≤ 6 at v_70_r
    refine ok_call (s_d_notes hF_56 hA_57 (by omega) (by omega) (by omega)) ?_
    rintro ⟨u_71, F_72, A_73, J_74⟩ ⟨hF_72, hA_73, F_72_o, A_73_o, u_71_p⟩
    dsimp only at hF_72 hA_73 F_72_o A_73_o u_71_p ⊢
    change (F_72 20).toInt = (F_56 20).toInt + 1 ∧ ai A_73 9 (F_56 20).toInt = (2 : Int32).toInt ∧ ai A_73 10 (F_56 20).toInt = v_70.toInt ∧ (∀ q, 0 ≤ q → q ≠ (F_56 20).toInt → ai A_73 9 q = ai A_57 9 q ∧ ai A_73 10 q = ai A_57 10 q) at u_71_p
    have r_75 : 0 ≤ (F_72 11).toInt ∧ (F_72 11).toInt ≤ 400 := hF_72 11
    have f_76 : (F_72 11).toInt = (F_56 11).toInt := congrArg Int32.toInt (F_72_o 11 (by decide))
    have r_77 : 0 ≤ (F_72 13).toInt ∧ (F_72 13).toInt ≤ 5 := hF_72 13
    have f_78 : (F_72 13).toInt = (F_56 13).toInt := congrArg Int32.toInt (F_72_o 13 (by decide))
    have r_79 : 0 ≤ (F_72 15).toInt ∧ (F_72 15).toInt ≤ 5 := hF_72 15
    have f_80 : (F_72 15).toInt = (F_56 15).toInt := congrArg Int32.toInt (F_72_o 15 (by decide))
    have r_81 : 0 ≤ (F_72 18).toInt ∧ (F_72 18).toInt ≤ 1 := hF_72 18
    have f_82 : (F_72 18).toInt = (F_56 18).toInt := congrArg Int32.toInt (F_72_o 18 (by decide))
    have r_83 : 0 ≤ (F_72 19).toInt ∧ (F_72 19).toInt ≤ 1 := hF_72 19
    have f_84 : (F_72 19).toInt = (F_56 19).toInt := congrArg Int32.toInt (F_72_o 19 (by decide))
    have r_85 : 0 ≤ (F_72 20).toInt ∧ (F_72 20).toInt ≤ 32 := hF_72 20
    have LF_72A_73 : LSm l A A_73 := LF_56A_57.fr _ A_73_o (by decide)
    have aF_72A_73 : ai A_73 19 (F_72 19).toInt = ai A 19 (F 19).toInt := by rw [ai_fr (A_73_o 19 (by decide)), F_72_o 19 (by decide)] <;> exact aF_56A_57
    have bF_72A_73 : ∀ i, 0 ≤ i → i ≠ 6 * (F 19).toInt + ai A 19 (F 19).toInt → ai A_73 20 i = ai A 20 i := by rw [ai_fr (A_73_o 20 (by decide))] <;> exact bF_56A_57
    have cF_72A_73 : ∀ i, 0 ≤ i → i ≠ 6 * (F 19).toInt + ai A 19 (F 19).toInt → ai A_73 22 i = ai A 22 i := by rw [ai_fr (A_73_o 22 (by decide))] <;> exact cF_56A_57
    have pF_72A_73 : ai A_73 20 (6 * (F 19).toInt + ai A 19 (F 19).toInt) = v_22.toInt := by rw [ai_fr (A_73_o 20 (by decide))] <;> exact pF_56A_57
    have qF_72A_73 : ai A_73 22 (6 * (F 19).toInt + ai A 19 (F 19).toInt) = 0 := by rw [ai_fr (A_73_o 22 (by decide))] <;> exact qF_56A_57
    have KF_72A_73 : ∀ q, q = 28 ∨ q = 29 ∨ q = 30 ∨ q = 31 ∨ q = 32 → A_73 q = A q := fun q hq => (A_73_o q (by rcases hq with rfl | rfl | rfl | rfl | rfl <;> decide)).trans (KF_56A_57 q hq)
    refine ok_ld (j := 19) hA_73 (by omega) (by omega) ?_
    intro v_86 v_86_e v_86_r
    change 0 ≤ v_86.toInt ∧ v_86.toInt ≤ 6 at v_86_r
    have l_87 : (1 : Int32).toInt = 1 := by decide
    have e_88 := i_add (x := v_86) (y := 1) (by omega) (by omega)
    refine ok_st (j := 19) hA_73 (by omega) (by omega) (⟨by omega, by omega⟩) ?_
    intro A_89 hA_89 A_89_o A_89_s A_89_n
    have LF_72A_89 : LSm l A A_89 := LF_72A_73.st hl.1 1 rfl A_89_o A_89_n ⟨by omega, by omega⟩ (by omega)
    have bF_72A_89 : ∀ i, 0 ≤ i → i ≠ 6 * (F 19).toInt + ai A 19 (F 19).toInt → ai A_89 20 i = ai A 20 i := by rw [ai_fr (A_89_o 20 (by decide))] <;> exact bF_72A_73
    have cF_72A_89 : ∀ i, 0 ≤ i → i ≠ 6 * (F 19).toInt + ai A 19 (F 19).toInt → ai A_89 22 i = ai A 22 i := by rw [ai_fr (A_89_o 22 (by decide))] <;> exact cF_72A_73
    have pF_72A_89 : ai A_89 20 (6 * (F 19).toInt + ai A 19 (F 19).toInt) = v_22.toInt := by rw [ai_fr (A_89_o 20 (by decide))] <;> exact pF_72A_73
    have qF_72A_89 : ai A_89 22 (6 * (F 19).toInt + ai A 19 (F 19).toInt) = 0 := by rw [ai_fr (A_89_o 22 (by decide))] <;> exact qF_72A_73
    have KF_72A_89 : ∀ q, q = 28 ∨ q = 29 ∨ q = 30 ∨ q = 31 ∨ q = 32 → A_89 q = A q := fun q hq => (A_89_o q (by omega)).trans (KF_72A_73 q hq)
    have e19 : F_72 19 = F_56 19 := F_72_o 19 (by decide)
    have zr : ai A_89 19 (F_56 19).toInt = ai A_57 19 (F_56 19).toInt + 1 := by rw [← e19, A_89_s, ← ai_fr (A_73_o 19 (by decide))]; omega
    have NZ : NCm F_72 A_89 := NCm.add (r := 19) NF_56A_57 (.inr (.inr (.inl ⟨rfl, by decide⟩))) e19 u_71_p A_73_o A_89_o v_70_e zr
    have zz : ai A_89 19 (F 19).toInt = ai A 19 (F 19).toInt + 1 := (congrArg (ai A_89 19) (show (F 19).toInt = (F_72 19).toInt by omega)).trans (A_89_s.trans (by omega))
    have xs : 1 ≤ (F_72 15).toInt ∨ ((XTm A (F 19).toInt → XTm A_89 (F 19).toInt) ∧ (XUm A (F 19).toInt → XUm A_89 (F 19).toInt) ∧ (XMm A (F 19).toInt → XMm A_89 (F 19).toInt)) := (show 1 ≤ (F_72 15).toInt ∨ 0 ≤ v_22.toInt by omega).imp id (fun h => ⟨fun x => x.up zz bF_72A_89 (by rw [pF_72A_89]; exact h) rfl (by omega), fun x => x.up zz cF_72A_89 qF_72A_89 (KF_72A_89 28 (by omega)) rfl (by omega), fun x => x.up zz cF_72A_89 (fun q hq => KF_72A_89 q (by omega)) rfl (by omega)⟩)
    refine ok_some ?_
    refine ⟨hF_72, hA_89, (fun q hq => (((((F_72_o q (fun e => hq ((by decide : ∀ x, x ∈ ([20] : List Nat) → x ∈ ([11, 13, 14, 15, 16, 20] : List Nat)) q e))).trans (F_56_o q (fun e => hq ((by decide : ∀ x, x ∈ ([11, 13, 14] : List Nat) → x ∈ ([11, 13, 14, 15, 16, 20] : List Nat)) q e)))).trans (F_41_o q (fun e => hq ((by decide : ∀ x, x ∈ ([11, 13, 14, 15, 16] : List Nat) → x ∈ ([11, 13, 14, 15, 16, 20] : List Nat)) q e)))).trans (F_23_o q (fun e => hq ((by decide : ∀ x, x ∈ ([11, 13, 14, 15, 16] : List Nat) → x ∈ ([11, 13, 14, 15, 16, 20] : List Nat)) q e)))).trans (F_9_o q (fun e => hq ((by decide : ∀ x, x ∈ ([11, 13, 14, 15, 16] : List Nat) → x ∈ ([11, 13, 14, 15, 16, 20] : List Nat)) q e))))), (fun q hq => (((((((((A_89_o q (fun e => hq (by rw [e]; decide))).trans (A_73_o q (fun e => hq ((by decide : ∀ x, x ∈ ([9, 10] : List Nat) → x ∈ ([9, 10, 19, 20, 21, 22] : List Nat)) q e)))).trans (A_57_o q (fun e => hq ((by decide : ∀ x, x ∈ ([] : List Nat) → x ∈ ([9, 10, 19, 20, 21, 22] : List Nat)) q e)))).trans (A_54_o q (fun e => hq (by rw [e]; decide)))).trans (A_53_o q (fun e => hq (by rw [e]; decide)))).trans (A_42_o q (fun e => hq ((by decide : ∀ x, x ∈ ([] : List Nat) → x ∈ ([9, 10, 19, 20, 21, 22] : List Nat)) q e)))).trans (A_38_o q (fun e => hq (by rw [e]; decide)))).trans (A_24_o q (fun e => hq ((by decide : ∀ x, x ∈ ([] : List Nat) → x ∈ ([9, 10, 19, 20, 21, 22] : List Nat)) q e)))).trans (A_10_o q (fun e => hq ((by decide : ∀ x, x ∈ ([] : List Nat) → x ∈ ([9, 10, 19, 20, 21, 22] : List Nat)) q e))))), ?_⟩
    first | exact ⟨NZ, LF_72A_89, by (try dsimp only) <;> omega, by (try dsimp only) <;> omega, .inr xs⟩ | exact ⟨NF_72A_89, LF_72A_89, by (try dsimp only) <;> omega, by (try dsimp only) <;> omega, .inl (by (try dsimp only) <;> omega)⟩
  · rw [i_nle] at c_69
    refine ok_some ?_
    refine ⟨hF_56, hA_57, (fun q hq => ((((F_56_o q (fun e => hq ((by decide : ∀ x, x ∈ ([11, 13, 14] : List Nat) → x ∈ ([11, 13, 14, 15, 16, 20] : List Nat)) q e))).trans (F_41_o q (fun e => hq ((by decide : ∀ x, x ∈ ([11, 13, 14, 15, 16] : List Nat) → x ∈ ([11, 13, 14, 15, 16, 20] : List Nat)) q e)))).trans (F_23_o q (fun e => hq ((by decide : ∀ x, x ∈ ([11, 13, 14, 15, 16] : List Nat) → x ∈ ([11, 13, 14, 15, 16, 20] : List Nat)) q e)))).trans (F_9_o q (fun e => hq ((by decide : ∀ x, x ∈ ([11, 13, 14, 15, 16] : List Nat) → x ∈ ([11, 13, 14, 15, 16, 20] : List Nat)) q e))))), (fun q hq => (((((((A_57_o q (fun e => hq ((by decide : ∀ x, x ∈ ([] : List Nat) → x ∈ ([9, 10, 19, 20, 21, 22] : List Nat)) q e))).trans (A_54_o q (fun e => hq (by rw [e]; decide)))).trans (A_53_o q (fun e => hq (by rw [e]; decide)))).trans (A_42_o q (fun e => hq ((by decide : ∀ x, x ∈ ([] : List Nat) → x ∈ ([9, 10, 19, 20, 21, 22] : List Nat)) q e)))).trans (A_38_o q (fun e => hq (by rw [e]; decide)))).trans (A_24_o q (fun e => hq ((by decide : ∀ x, x ∈ ([] : List Nat) → x ∈ ([9, 10, 19, 20, 21, 22] : List Nat)) q e)))).trans (A_10_o q (fun e => hq ((by decide : ∀ x, x ∈ ([] : List Nat) → x ∈ ([9, 10, 19, 20, 21, 22] : List Nat)) q e))))), ?_⟩
    first | exact ⟨NZ, LF_56A_57, by (try dsimp only) <;> omega, by (try dsimp only) <;> omega, .inr xs⟩ | exact ⟨NF_56A_57, LF_56A_57, by (try dsimp only) <;> omega, by (try dsimp only) <;> omega, .inl (by (try dsimp only) <;> omega)⟩
end Qz62
section Qz63
set_option maxRecDepth 10000 in
theorem s_d_tellDoor_135 {n : Nat} {l : Int} {F : Nat → Int32} {A : Nat → Nat → Int32} {J : Nat → Nat → Int64}  (hF : IFm F) (hA : IAm A) (hl : 0 ≤ l ∧ (F 18).toInt = l ∧ (F 19).toInt = 1 - l) (NFA : NCm F A) (hr : ai A 12 (F 19).toInt < 12) : ok (d_tellDoor_135 n F A J) (fun r => IFm r.2.1 ∧ IAm r.2.2.1 ∧ (∀ q, q ∉ ([11, 13, 14] : List Nat) → r.2.1 q = F q) ∧ (∀ q, q ∉ ([12] : List Nat) → r.2.2.1 q = A q) ∧ NCm r.2.1 r.2.2.1 ∧ LSm l A r.2.2.1 ∧ (F 15).toInt ≤ 5 * (r.2.1 15).toInt ∧ (F 11).toInt ≤ (r.2.1 11).toInt ∧ (F 13).toInt ≤ 5 * (r.2.1 13).toInt ∧ (1 ≤ (r.2.1 13).toInt ∨ ai r.2.2.1 12 (F 19).toInt = ai A 12 (F 19).toInt + 1)) := by
  have r18 : 0 ≤ (F 18).toInt ∧ (F 18).toInt ≤ 1 := hF 18
  have LFA : LSm l A A := LSm.rfl' l A
  have g12 : 0 ≤ ai A 12 (F 19).toInt ∧ ai A 12 (F 19).toInt ≤ 12 := hA 12 _ (by have := hF 19; exact this.1)
  have aFA : ai A 12 (F 19).toInt = ai A 12 (F 19).toInt := rfl
  have r_1 : 0 ≤ (F 11).toInt ∧ (F 11).toInt ≤ 400 := hF 11
  have r_2 : 0 ≤ (F 13).toInt ∧ (F 13).toInt ≤ 5 := hF 13
  have r_3 : 0 ≤ (F 15).toInt ∧ (F 15).toInt ≤ 5 := hF 15
  have r_4 : 0 ≤ (F 18).toInt ∧ (F 18).toInt ≤ 1 := hF 18
  have r_5 : 0 ≤ (F 19).toInt ∧ (F 19).toInt ≤ 1 := hF 19
  have r_6 : 0 ≤ (F 20).toInt ∧ (F 20).toInt ≤ 32 := hF 20
  unfold d_tellDoor_135
  refine ok_call (l_d_must hF hA) ?_
  rintro ⟨u_7, F_8, A_9, J_10⟩ ⟨hF_8, hA_9, F_8_o, A_9_o, u_7_p⟩
  dsimp only at hF_8 hA_9 F_8_o A_9_o u_7_p ⊢
  change (F 11).toInt ≤ (F_8 11).toInt ∧ (F 13).toInt ≤ 5 * (F_8 13).toInt at u_7_p
  have r_11 : 0 ≤ (F_8 11).toInt ∧ (F_8 11).toInt ≤ 400 := hF_8 11
  have r_12 : 0 ≤ (F_8 13).toInt ∧ (F_8 13).toInt ≤ 5 := hF_8 13
  have r_13 : 0 ≤ (F_8 15).toInt ∧ (F_8 15).toInt ≤ 5 := hF_8 15
  have f_14 : (F_8 15).toInt = (F 15).toInt := congrArg Int32.toInt (F_8_o 15 (by decide))
  have r_15 : 0 ≤ (F_8 18).toInt ∧ (F_8 18).toInt ≤ 1 := hF_8 18
  have f_16 : (F_8 18).toInt = (F 18).toInt := congrArg Int32.toInt (F_8_o 18 (by decide))
  have r_17 : 0 ≤ (F_8 19).toInt ∧ (F_8 19).toInt ≤ 1 := hF_8 19
  have f_18 : (F_8 19).toInt = (F 19).toInt := congrArg Int32.toInt (F_8_o 19 (by decide))
  have r_19 : 0 ≤ (F_8 20).toInt ∧ (F_8 20).toInt ≤ 32 := hF_8 20
  have f_20 : (F_8 20).toInt = (F 20).toInt := congrArg Int32.toInt (F_8_o 20 (by decide))
  have LF_8A_9 : LSm l A A_9 := LFA.fr _ A_9_o (by decide)
  have NF_8A_9 : NCm F_8 A_9 := NFA.fr0 (F_8_o 19 (by decide)) (F_8_o 20 (by decide)) (fun q hq => A_9_o q (by simp))
  have aF_8A_9 : ai A_9 12 (F_8 19).toInt = ai A 12 (F 19).toInt := by rw [ai_fr (A_9_o 12 (by decide)), F_8_o 19 (by decide)] <;> exact aFA
  have l_21 : (0 : Int32).toInt = 0 := by decide
  refine ok_cond (fun c_22 => ?_) (fun c_22 => ?_)
  · rw [i_ne] at c_22
    refine ok_some ?_
    refine ⟨hF_8, hA_9, (fun q hq => (F_8_o q hq)), (fun q hq => (A_9_o q (fun e => hq ((by decide : ∀ x, x ∈ ([] : List Nat) → x ∈ ([12] : List Nat)) q e)))), ?_⟩
    first | exact ⟨NF_8A_9, LF_8A_9, by (try dsimp only) <;> omega, by (try dsimp only) <;> omega, by (try dsimp only) <;> omega, .inr zz⟩ | exact ⟨NF_8A_9, LF_8A_9, by (try dsimp only) <;> omega, by (try dsimp only) <;> omega, by (try dsimp only) <;> omega, .inl (by (try dsimp only) <;> omega)⟩
  · rw [i_nne] at c_22
    refine ok_ld (j := 12) hA_9 (by omega) (by omega) ?_
    intro v_23 v_23_e v_23_r
    change 0 ≤ v_23.toInt ∧ v_23.toInt ≤ 12 at v_23_r
    have l_24 : (1 : Int32).toInt = 1 := by decide
    have e_25 := i_add (x := v_23) (y := 1) (by omega) (by omega)
    refine ok_st (j := 12) hA_9 (by omega) (by omega) (⟨by omega, by omega⟩) ?_
    intro A_26 hA_26 A_26_o A_26_s A_26_n
    have LF_8A_26 : LSm l A A_26 := LF_8A_9.st hl.1 1 rfl A_26_o A_26_n ⟨by omega, by omega⟩ (by omega)
    have NF_8A_26 : NCm F_8 A_26 := NF_8A_9.fr0 rfl rfl (fun q hq => A_26_o q (by omega))
    have zz : ai A_26 12 (F 19).toInt = ai A 12 (F 19).toInt + 1 := (congrArg (ai A_26 12) (show (F 19).toInt = (F_8 19).toInt by omega)).trans (A_26_s.trans (by omega))
    refine ok_some ?_
    refine ⟨hF_8, hA_26, (fun q hq => (F_8_o q hq)), (fun q hq => ((A_26_o q (fun e => hq (by rw [e]; decide))).trans (A_9_o q (fun e => hq ((by decide : ∀ x, x ∈ ([] : List Nat) → x ∈ ([12] : List Nat)) q e))))), ?_⟩
    first | exact ⟨NF_8A_26, LF_8A_26, by (try dsimp only) <;> omega, by (try dsimp only) <;> omega, by (try dsimp only) <;> omega, .inr zz⟩ | exact ⟨NF_8A_26, LF_8A_26, by (try dsimp only) <;> omega, by (try dsimp only) <;> omega, by (try dsimp only) <;> omega, .inl (by (try dsimp only) <;> omega)⟩
set_option maxRecDepth 10000 in
theorem s_d_tellDoor_121 {n : Nat} {l : Int} {F : Nat → Int32} {A : Nat → Nat → Int32} {J : Nat → Nat → Int64} {x1 : Int32} {s1 : Int32} {s2 : Int32} (hF : IFm F) (hA : IAm A) (hl : 0 ≤ l ∧ (F 18).toInt = l ∧ (F 19).toInt = 1 - l) (NFA : NCm F A) (hr : ai A 12 (F 19).toInt < 12) (hi : 12 * (F 19).toInt ≤ s1.toInt ∧ s1.toInt < 12 * (F 19).toInt + 12) (hx : x1 = s1) (h2 : 0 ≤ (vp_nar .boolean s2).toInt ∧ (vp_nar .boolean s2).toInt ≤ 1) : ok (d_tellDoor_121 n F A J x1 s1 s2) (fun r => IFm r.2.1 ∧ IAm r.2.2.1 ∧ (∀ q, q ∉ ([11, 13, 14] : List Nat) → r.2.1 q = F q) ∧ (∀ q, q ∉ ([12, 16] : List Nat) → r.2.2.1 q = A q) ∧ NCm r.2.1 r.2.2.1 ∧ LSm l A r.2.2.1 ∧ (F 15).toInt ≤ 5 * (r.2.1 15).toInt ∧ (F 11).toInt ≤ (r.2.1 11).toInt ∧ (F 13).toInt ≤ 5 * (r.2.1 13).toInt ∧ (1 ≤ (r.2.1 13).toInt ∨ ai r.2.2.1 12 (F 19).toInt = ai A 12 (F 19).toInt + 1)) := by
  have r18 : 0 ≤ (F 18).toInt ∧ (F 18).toInt ≤ 1 := hF 18
  subst hx
  have LFA : LSm l A A := LSm.rfl' l A
  have g12 : 0 ≤ ai A 12 (F 19).toInt ∧ ai A 12 (F 19).toInt ≤ 12 := hA 12 _ (by have := hF 19; exact this.1)
  have aFA : ai A 12 (F 19).toInt = ai A 12 (F 19).toInt := rfl
  have r_1 : 0 ≤ (F 11).toInt ∧ (F 11).toInt ≤ 400 := hF 11
  have r_2 : 0 ≤ (F 13).toInt ∧ (F 13).toInt ≤ 5 := hF 13
  have r_3 : 0 ≤ (F 15).toInt ∧ (F 15).toInt ≤ 5 := hF 15
  have r_4 : 0 ≤ (F 18).toInt ∧ (F 18).toInt ≤ 1 := hF 18
  have r_5 : 0 ≤ (F 19).toInt ∧ (F 19).toInt ≤ 1 := hF 19
  have r_6 : 0 ≤ (F 20).toInt ∧ (F 20).toInt ≤ 32 := hF 20
  unfold d_tellDoor_121
  refine ok_st (j := 16) hA (by omega) (by omega) (⟨by omega, by omega⟩) ?_
  intro A_7 hA_7 A_7_o A_7_s A_7_n
  have LFA_7 : LSm l A A_7 := LFA.st hl.1 12 rfl A_7_o A_7_n ⟨by omega, by omega⟩ (by omega)
  have NFA_7 : NCm F A_7 := NFA.fr0 rfl rfl (fun q hq => A_7_o q (by omega))
  have aFA_7 : ai A_7 12 (F 19).toInt = ai A 12 (F 19).toInt := by rw [ai_fr (A_7_o 12 (by decide))] <;> exact aFA
  refine ok_ld (j := 16) hA_7 (by omega) (by omega) ?_
  intro v_8 v_8_e v_8_r
  change 0 ≤ v_8.toInt ∧ v_8.toInt ≤ 1 at v_8_r
  have l_9 : (0 : Int32).toInt = 0 := by decide
  refine ok_cond (fun c_10 => ?_) (fun c_10 => ?_)
  · rw [i_eq] at c_10
    refine ok_mono (s_d_tellDoor_135 (l := l) hF hA_7 (by omega) (NFA_7) (by omega)) ?_
    rintro ⟨v_11, F_12, A_13, J_14⟩ ⟨hF_12, hA_13, F_12_o, A_13_o, v_11_p⟩
    dsimp only at hF_12 hA_13 F_12_o A_13_o v_11_p ⊢
    change NCm F_12 A_13 ∧ LSm l A_7 A_13 ∧ (F 15).toInt ≤ 5 * (F_12 15).toInt ∧ (F 11).toInt ≤ (F_12 11).toInt ∧ (F 13).toInt ≤ 5 * (F_12 13).toInt ∧ (1 ≤ (F_12 13).toInt ∨ ai A_13 12 (F 19).toInt = ai A_7 12 (F 19).toInt + 1) at v_11_p
    have r_15 : 0 ≤ (F_12 11).toInt ∧ (F_12 11).toInt ≤ 400 := hF_12 11
    have r_16 : 0 ≤ (F_12 13).toInt ∧ (F_12 13).toInt ≤ 5 := hF_12 13
    have r_17 : 0 ≤ (F_12 15).toInt ∧ (F_12 15).toInt ≤ 5 := hF_12 15
    have f_18 : (F_12 15).toInt = (F 15).toInt := congrArg Int32.toInt (F_12_o 15 (by decide))
    have r_19 : 0 ≤ (F_12 18).toInt ∧ (F_12 18).toInt ≤ 1 := hF_12 18
    have f_20 : (F_12 18).toInt = (F 18).toInt := congrArg Int32.toInt (F_12_o 18 (by decide))
    have r_21 : 0 ≤ (F_12 19).toInt ∧ (F_12 19).toInt ≤ 1 := hF_12 19
    have f_22 : (F_12 19).toInt = (F 19).toInt := congrArg Int32.toInt (F_12_o 19 (by decide))
    have r_23 : 0 ≤ (F_12 20).toInt ∧ (F_12 20).toInt ≤ 32 := hF_12 20
    have f_24 : (F_12 20).toInt = (F 20).toInt := congrArg Int32.toInt (F_12_o 20 (by decide))
    have LF_12A_13 : LSm l A A_13 := LFA_7.tr v_11_p.2.1
    have NF_12A_13 : NCm F_12 A_13 := v_11_p.1
    have zq : (1 ≤ (F_12 13).toInt ∨ ai A_13 12 (F 19).toInt = ai A 12 (F 19).toInt + 1) := by have hz := congrArg (ai A_13 12) (show (F 19).toInt = (F 19).toInt by omega); rcases v_11_p.2.2.2.2.2 with h | h; exact .inl h; exact .inr (hz.trans (h.trans (by omega)))
    refine ⟨hF_12, hA_13, (fun q hq => (F_12_o q hq)), (fun q hq => ((A_13_o q (fun e => hq ((by decide : ∀ x, x ∈ ([12] : List Nat) → x ∈ ([12, 16] : List Nat)) q e))).trans (A_7_o q (fun e => hq (by rw [e]; decide))))), ?_⟩
    exact ⟨NF_12A_13, LF_12A_13, by (try dsimp only) <;> omega, by (try dsimp only) <;> omega, by (try dsimp only) <;> omega, zq⟩
  · rw [i_neq] at c_10
    refine ok_call (l_d_goesOn hF hA_7) ?_
    rintro ⟨u_25, F_26, A_27, J_28⟩ ⟨hF_26, hA_27, F_26_o, A_27_o, u_25_p⟩
    dsimp only at hF_26 hA_27 F_26_o A_27_o u_25_p ⊢
    change (F 11).toInt ≤ (F_26 11).toInt ∧ (F 13).toInt ≤ 5 * (F_26 13).toInt at u_25_p
    have r_29 : 0 ≤ (F_26 11).toInt ∧ (F_26 11).toInt ≤ 400 := hF_26 11
    have r_30 : 0 ≤ (F_26 13).toInt ∧ (F_26 13).toInt ≤ 5 := hF_26 13
    have r_31 : 0 ≤ (F_26 15).toInt ∧ (F_26 15).toInt ≤ 5 := hF_26 15
    have f_32 : (F_26 15).toInt = (F 15).toInt := congrArg Int32.toInt (F_26_o 15 (by decide))
    have r_33 : 0 ≤ (F_26 18).toInt ∧ (F_26 18).toInt ≤ 1 := hF_26 18
    have f_34 : (F_26 18).toInt = (F 18).toInt := congrArg Int32.toInt (F_26_o 18 (by decide))
    have r_35 : 0 ≤ (F_26 19).toInt ∧ (F_26 19).toInt ≤ 1 := hF_26 19
    have f_36 : (F_26 19).toInt = (F 19).toInt := congrArg Int32.toInt (F_26_o 19 (by decide))
    have r_37 : 0 ≤ (F_26 20).toInt ∧ (F_26 20).toInt ≤ 32 := hF_26 20
    have f_38 : (F_26 20).toInt = (F 20).toInt := congrArg Int32.toInt (F_26_o 20 (by decide))
    have LF_26A_27 : LSm l A A_27 := LFA_7.fr _ A_27_o (by decide)
    have NF_26A_27 : NCm F_26 A_27 := NFA_7.fr0 (F_26_o 19 (by decide)) (F_26_o 20 (by decide)) (fun q hq => A_27_o q (by simp))
    have aF_26A_27 : ai A_27 12 (F_26 19).toInt = ai A 12 (F 19).toInt := by rw [ai_fr (A_27_o 12 (by decide)), F_26_o 19 (by decide)] <;> exact aFA_7
    refine ok_call (l_d_must hF_26 hA_27) ?_
    rintro ⟨u_39, F_40, A_41, J_42⟩ ⟨hF_40, hA_41, F_40_o, A_41_o, u_39_p⟩
    dsimp only at hF_40 hA_41 F_40_o A_41_o u_39_p ⊢
    change (F_26 11).toInt ≤ (F_40 11).toInt ∧ (F_26 13).toInt ≤ 5 * (F_40 13).toInt at u_39_p
    have r_43 : 0 ≤ (F_40 11).toInt ∧ (F_40 11).toInt ≤ 400 := hF_40 11
    have r_44 : 0 ≤ (F_40 13).toInt ∧ (F_40 13).toInt ≤ 5 := hF_40 13
    have r_45 : 0 ≤ (F_40 15).toInt ∧ (F_40 15).toInt ≤ 5 := hF_40 15
    have f_46 : (F_40 15).toInt = (F_26 15).toInt := congrArg Int32.toInt (F_40_o 15 (by decide))
    have r_47 : 0 ≤ (F_40 18).toInt ∧ (F_40 18).toInt ≤ 1 := hF_40 18
    have f_48 : (F_40 18).toInt = (F_26 18).toInt := congrArg Int32.toInt (F_40_o 18 (by decide))
    have r_49 : 0 ≤ (F_40 19).toInt ∧ (F_40 19).toInt ≤ 1 := hF_40 19
    have f_50 : (F_40 19).toInt = (F_26 19).toInt := congrArg Int32.toInt (F_40_o 19 (by decide))
    have r_51 : 0 ≤ (F_40 20).toInt ∧ (F_40 20).toInt ≤ 32 := hF_40 20
    have f_52 : (F_40 20).toInt = (F_26 20).toInt := congrArg Int32.toInt (F_40_o 20 (by decide))
    have LF_40A_41 : LSm l A A_41 := LF_26A_27.fr _ A_41_o (by decide)
    have NF_40A_41 : NCm F_40 A_41 := NF_26A_27.fr0 (F_40_o 19 (by decide)) (F_40_o 20 (by decide)) (fun q hq => A_41_o q (by simp))
    have aF_40A_41 : ai A_41 12 (F_40 19).toInt = ai A 12 (F 19).toInt := by rw [ai_fr (A_41_o 12 (by decide)), F_40_o 19 (by decide)] <;> exact aF_26A_27
    refine ok_cond (fun c_53 => ?_) (fun c_53 => ?_)
    · rw [i_ne] at c_53
      refine ok_some ?_
      refine ⟨hF_40, hA_41, (fun q hq => ((F_40_o q hq).trans (F_26_o q hq))), (fun q hq => (((A_41_o q (fun e => hq ((by decide : ∀ x, x ∈ ([] : List Nat) → x ∈ ([12, 16] : List Nat)) q e))).trans (A_27_o q (fun e => hq ((by decide : ∀ x, x ∈ ([] : List Nat) → x ∈ ([12, 16] : List Nat)) q e)))).trans (A_7_o q (fun e => hq (by rw [e]; decide))))), ?_⟩
      first | exact ⟨NF_40A_41, LF_40A_41, by (try dsimp only) <;> omega, by (try dsimp only) <;> omega, by (try dsimp only) <;> omega, .inr zz⟩ | exact ⟨NF_40A_41, LF_40A_41, by (try dsimp only) <;> omega, by (try dsimp only) <;> omega, by (try dsimp only) <;> omega, .inl (by (try dsimp only) <;> omega)⟩
    · rw [i_nne] at c_53
      refine ok_ld (j := 12) hA_41 (by omega) (by omega) ?_
      intro v_54 v_54_e v_54_r
      change 0 ≤ v_54.toInt ∧ v_54.toInt ≤ 12 at v_54_r
      have l_55 : (1 : Int32).toInt = 1 := by decide
      have e_56 := i_add (x := v_54) (y := 1) (by omega) (by omega)
      refine ok_st (j := 12) hA_41 (by omega) (by omega) (⟨by omega, by omega⟩) ?_
      intro A_57 hA_57 A_57_o A_57_s A_57_n
      have LF_40A_57 : LSm l A A_57 := LF_40A_41.st hl.1 1 rfl A_57_o A_57_n ⟨by omega, by omega⟩ (by omega)
      have NF_40A_57 : NCm F_40 A_57 := NF_40A_41.fr0 rfl rfl (fun q hq => A_57_o q (by omega))
      have zz : ai A_57 12 (F 19).toInt = ai A 12 (F 19).toInt + 1 := (congrArg (ai A_57 12) (show (F 19).toInt = (F_40 19).toInt by omega)).trans (A_57_s.trans (by omega))
      refine ok_some ?_
      refine ⟨hF_40, hA_57, (fun q hq => ((F_40_o q hq).trans (F_26_o q hq))), (fun q hq => ((((A_57_o q (fun e => hq (by rw [e]; decide))).trans (A_41_o q (fun e => hq ((by decide : ∀ x, x ∈ ([] : List Nat) → x ∈ ([12, 16] : List Nat)) q e)))).trans (A_27_o q (fun e => hq ((by decide : ∀ x, x ∈ ([] : List Nat) → x ∈ ([12, 16] : List Nat)) q e)))).trans (A_7_o q (fun e => hq (by rw [e]; decide))))), ?_⟩
      first | exact ⟨NF_40A_57, LF_40A_57, by (try dsimp only) <;> omega, by (try dsimp only) <;> omega, by (try dsimp only) <;> omega, .inr zz⟩ | exact ⟨NF_40A_57, LF_40A_57, by (try dsimp only) <;> omega, by (try dsimp only) <;> omega, by (try dsimp only) <;> omega, .inl (by (try dsimp only) <;> omega)⟩
set_option maxRecDepth 10000 in
theorem s_d_tellDoor_82 {n : Nat} {l : Int} {F : Nat → Int32} {A : Nat → Nat → Int32} {J : Nat → Nat → Int64} {x1 : Int32} (hF : IFm F) (hA : IAm A) (hl : 0 ≤ l ∧ (F 18).toInt = l ∧ (F 19).toInt = 1 - l) (NFA : NCm F A) (hr : ai A 12 (F 19).toInt < 12) (hi : 12 * (F 19).toInt ≤ x1.toInt ∧ x1.toInt < 12 * (F 19).toInt + 12) : ok (d_tellDoor_82 n F A J x1) (fun r => IFm r.2.1 ∧ IAm r.2.2.1 ∧ (∀ q, q ∉ ([11, 13, 14, 15, 16] : List Nat) → r.2.1 q = F q) ∧ (∀ q, q ∉ ([12, 15, 16] : List Nat) → r.2.2.1 q = A q) ∧ NCm r.2.1 r.2.2.1 ∧ LSm l A r.2.2.1 ∧ (F 15).toInt ≤ 5 * (r.2.1 15).toInt ∧ (F 11).toInt ≤ (r.2.1 11).toInt ∧ (F 13).toInt ≤ 5 * (r.2.1 13).toInt ∧ (1 ≤ (r.2.1 13).toInt ∨ ai r.2.2.1 12 (F 19).toInt = ai A 12 (F 19).toInt + 1)) := by
  have r18 : 0 ≤ (F 18).toInt ∧ (F 18).toInt ≤ 1 := hF 18
  have LFA : LSm l A A := LSm.rfl' l A
  have g12 : 0 ≤ ai A 12 (F 19).toInt ∧ ai A 12 (F 19).toInt ≤ 12 := hA 12 _ (by have := hF 19; exact this.1)
  have aFA : ai A 12 (F 19).toInt = ai A 12 (F 19).toInt := rfl
  have r_1 : 0 ≤ (F 11).toInt ∧ (F 11).toInt ≤ 400 := hF 11
  have r_2 : 0 ≤ (F 13).toInt ∧ (F 13).toInt ≤ 5 := hF 13
  have r_3 : 0 ≤ (F 15).toInt ∧ (F 15).toInt ≤ 5 := hF 15
  have r_4 : 0 ≤ (F 18).toInt ∧ (F 18).toInt ≤ 1 := hF 18
  have r_5 : 0 ≤ (F 19).toInt ∧ (F 19).toInt ≤ 1 := hF 19
  have r_6 : 0 ≤ (F 20).toInt ∧ (F 20).toInt ≤ 32 := hF 20
  unfold d_tellDoor_82
  have l_7 : (1 : Int32).toInt = 1 := by decide
  have l_8 : (60 : Int32).toInt = 60 := by decide
  refine ok_call (l_d_bounded hF hA (by omega) (by omega)) ?_
  rintro ⟨v_9, F_10, A_11, J_12⟩ ⟨hF_10, hA_11, F_10_o, A_11_o, v_9_p⟩
  dsimp only at hF_10 hA_11 F_10_o A_11_o v_9_p ⊢
  change 0 ≤ v_9.toInt ∧ v_9.toInt ≤ 9999 ∧ (1 : Int32).toInt ≤ v_9.toInt + 10000 * ((F_10 13).toInt + (F_10 15).toInt) ∧ v_9.toInt ≤ (60 : Int32).toInt + 20000 * ((F_10 13).toInt + (F_10 15).toInt) ∧ (F 11).toInt ≤ (F_10 11).toInt ∧ (F 13).toInt ≤ 5 * (F_10 13).toInt ∧ (F 15).toInt ≤ 5 * (F_10 15).toInt at v_9_p
  have r_13 : 0 ≤ (F_10 11).toInt ∧ (F_10 11).toInt ≤ 400 := hF_10 11
  have r_14 : 0 ≤ (F_10 13).toInt ∧ (F_10 13).toInt ≤ 5 := hF_10 13
  have r_15 : 0 ≤ (F_10 15).toInt ∧ (F_10 15).toInt ≤ 5 := hF_10 15
  have r_16 : 0 ≤ (F_10 18).toInt ∧ (F_10 18).toInt ≤ 1 := hF_10 18
  have f_17 : (F_10 18).toInt = (F 18).toInt := congrArg Int32.toInt (F_10_o 18 (by decide))
  have r_18 : 0 ≤ (F_10 19).toInt ∧ (F_10 19).toInt ≤ 1 := hF_10 19
  have f_19 : (F_10 19).toInt = (F 19).toInt := congrArg Int32.toInt (F_10_o 19 (by decide))
  have r_20 : 0 ≤ (F_10 20).toInt ∧ (F_10 20).toInt ≤ 32 := hF_10 20
  have f_21 : (F_10 20).toInt = (F 20).toInt := congrArg Int32.toInt (F_10_o 20 (by decide))
  have LF_10A_11 : LSm l A A_11 := LFA.fr _ A_11_o (by decide)
  have NF_10A_11 : NCm F_10 A_11 := NFA.fr0 (F_10_o 19 (by decide)) (F_10_o 20 (by decide)) (fun q hq => A_11_o q (by simp))
  have aF_10A_11 : ai A_11 12 (F_10 19).toInt = ai A 12 (F 19).toInt := by rw [ai_fr (A_11_o 12 (by decide)), F_10_o 19 (by decide)] <;> exact aFA
  refine ok_st (j := 15) hA_11 (by omega) (by omega) (trivial) ?_
  intro A_22 hA_22 A_22_o A_22_s A_22_n
  have LF_10A_22 : LSm l A A_22 := LF_10A_11.st hl.1 12 rfl A_22_o A_22_n ⟨by omega, by omega⟩ (by omega)
  have NF_10A_22 : NCm F_10 A_22 := NF_10A_11.fr0 rfl rfl (fun q hq => A_22_o q (by omega))
  have aF_10A_22 : ai A_22 12 (F_10 19).toInt = ai A 12 (F 19).toInt := by rw [ai_fr (A_22_o 12 (by decide))] <;> exact aF_10A_11
  have l_23 : (0 : Int32).toInt = 0 := by decide
  refine ok_cond (fun c_24 => ?_) (fun c_24 => ?_)
  · rw [i_ne] at c_24
    unfold d_tellDoor_120
    refine ok_mono (s_d_tellDoor_121 (l := l) hF_10 hA_22 (by omega) (NF_10A_22) (by omega) (by omega) (rfl) (by decide)) ?_
    rintro ⟨v_25, F_26, A_27, J_28⟩ ⟨hF_26, hA_27, F_26_o, A_27_o, v_25_p⟩
    dsimp only at hF_26 hA_27 F_26_o A_27_o v_25_p ⊢
    change NCm F_26 A_27 ∧ LSm l A_22 A_27 ∧ (F_10 15).toInt ≤ 5 * (F_26 15).toInt ∧ (F_10 11).toInt ≤ (F_26 11).toInt ∧ (F_10 13).toInt ≤ 5 * (F_26 13).toInt ∧ (1 ≤ (F_26 13).toInt ∨ ai A_27 12 (F_10 19).toInt = ai A_22 12 (F_10 19).toInt + 1) at v_25_p
    have r_29 : 0 ≤ (F_26 11).toInt ∧ (F_26 11).toInt ≤ 400 := hF_26 11
    have r_30 : 0 ≤ (F_26 13).toInt ∧ (F_26 13).toInt ≤ 5 := hF_26 13
    have r_31 : 0 ≤ (F_26 15).toInt ∧ (F_26 15).toInt ≤ 5 := hF_26 15
    have f_32 : (F_26 15).toInt = (F_10 15).toInt := congrArg Int32.toInt (F_26_o 15 (by decide))
    have r_33 : 0 ≤ (F_26 18).toInt ∧ (F_26 18).toInt ≤ 1 := hF_26 18
    have f_34 : (F_26 18).toInt = (F_10 18).toInt := congrArg Int32.toInt (F_26_o 18 (by decide))
    have r_35 : 0 ≤ (F_26 19).toInt ∧ (F_26 19).toInt ≤ 1 := hF_26 19
    have f_36 : (F_26 19).toInt = (F_10 19).toInt := congrArg Int32.toInt (F_26_o 19 (by decide))
    have r_37 : 0 ≤ (F_26 20).toInt ∧ (F_26 20).toInt ≤ 32 := hF_26 20
    have f_38 : (F_26 20).toInt = (F_10 20).toInt := congrArg Int32.toInt (F_26_o 20 (by decide))
    have LF_26A_27 : LSm l A A_27 := LF_10A_22.tr v_25_p.2.1
    have NF_26A_27 : NCm F_26 A_27 := v_25_p.1
    have zq : (1 ≤ (F_26 13).toInt ∨ ai A_27 12 (F 19).toInt = ai A 12 (F 19).toInt + 1) := by have hz := congrArg (ai A_27 12) (show (F 19).toInt = (F_10 19).toInt by omega); rcases v_25_p.2.2.2.2.2 with h | h; exact .inl h; exact .inr (hz.trans (h.trans (by omega)))
    refine ⟨hF_26, hA_27, (fun q hq => ((F_26_o q (fun e => hq ((by decide : ∀ x, x ∈ ([11, 13, 14] : List Nat) → x ∈ ([11, 13, 14, 15, 16] : List Nat)) q e))).trans (F_10_o q hq))), (fun q hq => (((A_27_o q (fun e => hq ((by decide : ∀ x, x ∈ ([12, 16] : List Nat) → x ∈ ([12, 15, 16] : List Nat)) q e))).trans (A_22_o q (fun e => hq (by rw [e]; decide)))).trans (A_11_o q (fun e => hq ((by decide : ∀ x, x ∈ ([] : List Nat) → x ∈ ([12, 15, 16] : List Nat)) q e))))), ?_⟩
    exact ⟨NF_26A_27, LF_26A_27, by (try dsimp only) <;> omega, by (try dsimp only) <;> omega, by (try dsimp only) <;> omega, zq⟩
  · rw [i_nne] at c_24
    refine ok_call (l_d_is hF_10 hA_22) ?_
    intro v_39 v_39_p
    change 0 ≤ v_39.toInt ∧ v_39.toInt ≤ 1 at v_39_p
    refine ok_cond (fun c_40 => ?_) (fun c_40 => ?_)
    · rw [i_eq] at c_40
      unfold d_tellDoor_120
      refine ok_mono (s_d_tellDoor_121 (l := l) hF_10 hA_22 (by omega) (NF_10A_22) (by omega) (by omega) (rfl) (by decide)) ?_
      rintro ⟨v_41, F_42, A_43, J_44⟩ ⟨hF_42, hA_43, F_42_o, A_43_o, v_41_p⟩
      dsimp only at hF_42 hA_43 F_42_o A_43_o v_41_p ⊢
      change NCm F_42 A_43 ∧ LSm l A_22 A_43 ∧ (F_10 15).toInt ≤ 5 * (F_42 15).toInt ∧ (F_10 11).toInt ≤ (F_42 11).toInt ∧ (F_10 13).toInt ≤ 5 * (F_42 13).toInt ∧ (1 ≤ (F_42 13).toInt ∨ ai A_43 12 (F_10 19).toInt = ai A_22 12 (F_10 19).toInt + 1) at v_41_p
      have r_45 : 0 ≤ (F_42 11).toInt ∧ (F_42 11).toInt ≤ 400 := hF_42 11
      have r_46 : 0 ≤ (F_42 13).toInt ∧ (F_42 13).toInt ≤ 5 := hF_42 13
      have r_47 : 0 ≤ (F_42 15).toInt ∧ (F_42 15).toInt ≤ 5 := hF_42 15
      have f_48 : (F_42 15).toInt = (F_10 15).toInt := congrArg Int32.toInt (F_42_o 15 (by decide))
      have r_49 : 0 ≤ (F_42 18).toInt ∧ (F_42 18).toInt ≤ 1 := hF_42 18
      have f_50 : (F_42 18).toInt = (F_10 18).toInt := congrArg Int32.toInt (F_42_o 18 (by decide))
      have r_51 : 0 ≤ (F_42 19).toInt ∧ (F_42 19).toInt ≤ 1 := hF_42 19
      have f_52 : (F_42 19).toInt = (F_10 19).toInt := congrArg Int32.toInt (F_42_o 19 (by decide))
      have r_53 : 0 ≤ (F_42 20).toInt ∧ (F_42 20).toInt ≤ 32 := hF_42 20
      have f_54 : (F_42 20).toInt = (F_10 20).toInt := congrArg Int32.toInt (F_42_o 20 (by decide))
      have LF_42A_43 : LSm l A A_43 := LF_10A_22.tr v_41_p.2.1
      have NF_42A_43 : NCm F_42 A_43 := v_41_p.1
      have zq : (1 ≤ (F_42 13).toInt ∨ ai A_43 12 (F 19).toInt = ai A 12 (F 19).toInt + 1) := by have hz := congrArg (ai A_43 12) (show (F 19).toInt = (F_10 19).toInt by omega); rcases v_41_p.2.2.2.2.2 with h | h; exact .inl h; exact .inr (hz.trans (h.trans (by omega)))
      refine ⟨hF_42, hA_43, (fun q hq => ((F_42_o q (fun e => hq ((by decide : ∀ x, x ∈ ([11, 13, 14] : List Nat) → x ∈ ([11, 13, 14, 15, 16] : List Nat)) q e))).trans (F_10_o q hq))), (fun q hq => (((A_43_o q (fun e => hq ((by decide : ∀ x, x ∈ ([12, 16] : List Nat) → x ∈ ([12, 15, 16] : List Nat)) q e))).trans (A_22_o q (fun e => hq (by rw [e]; decide)))).trans (A_11_o q (fun e => hq ((by decide : ∀ x, x ∈ ([] : List Nat) → x ∈ ([12, 15, 16] : List Nat)) q e))))), ?_⟩
      exact ⟨NF_42A_43, LF_42A_43, by (try dsimp only) <;> omega, by (try dsimp only) <;> omega, by (try dsimp only) <;> omega, zq⟩
    · rw [i_neq] at c_40
      refine ok_mono (s_d_tellDoor_121 (l := l) hF_10 hA_22 (by omega) (NF_10A_22) (by omega) (by omega) (rfl) (by decide)) ?_
      rintro ⟨v_55, F_56, A_57, J_58⟩ ⟨hF_56, hA_57, F_56_o, A_57_o, v_55_p⟩
      dsimp only at hF_56 hA_57 F_56_o A_57_o v_55_p ⊢
      change NCm F_56 A_57 ∧ LSm l A_22 A_57 ∧ (F_10 15).toInt ≤ 5 * (F_56 15).toInt ∧ (F_10 11).toInt ≤ (F_56 11).toInt ∧ (F_10 13).toInt ≤ 5 * (F_56 13).toInt ∧ (1 ≤ (F_56 13).toInt ∨ ai A_57 12 (F_10 19).toInt = ai A_22 12 (F_10 19).toInt + 1) at v_55_p
      have r_59 : 0 ≤ (F_56 11).toInt ∧ (F_56 11).toInt ≤ 400 := hF_56 11
      have r_60 : 0 ≤ (F_56 13).toInt ∧ (F_56 13).toInt ≤ 5 := hF_56 13
      have r_61 : 0 ≤ (F_56 15).toInt ∧ (F_56 15).toInt ≤ 5 := hF_56 15
      have f_62 : (F_56 15).toInt = (F_10 15).toInt := congrArg Int32.toInt (F_56_o 15 (by decide))
      have r_63 : 0 ≤ (F_56 18).toInt ∧ (F_56 18).toInt ≤ 1 := hF_56 18
      have f_64 : (F_56 18).toInt = (F_10 18).toInt := congrArg Int32.toInt (F_56_o 18 (by decide))
      have r_65 : 0 ≤ (F_56 19).toInt ∧ (F_56 19).toInt ≤ 1 := hF_56 19
      have f_66 : (F_56 19).toInt = (F_10 19).toInt := congrArg Int32.toInt (F_56_o 19 (by decide))
      have r_67 : 0 ≤ (F_56 20).toInt ∧ (F_56 20).toInt ≤ 32 := hF_56 20
      have f_68 : (F_56 20).toInt = (F_10 20).toInt := congrArg Int32.toInt (F_56_o 20 (by decide))
      have LF_56A_57 : LSm l A A_57 := LF_10A_22.tr v_55_p.2.1
      have NF_56A_57 : NCm F_56 A_57 := v_55_p.1
      have zq : (1 ≤ (F_56 13).toInt ∨ ai A_57 12 (F 19).toInt = ai A 12 (F 19).toInt + 1) := by have hz := congrArg (ai A_57 12) (show (F 19).toInt = (F_10 19).toInt by omega); rcases v_55_p.2.2.2.2.2 with h | h; exact .inl h; exact .inr (hz.trans (h.trans (by omega)))
      refine ⟨hF_56, hA_57, (fun q hq => ((F_56_o q (fun e => hq ((by decide : ∀ x, x ∈ ([11, 13, 14] : List Nat) → x ∈ ([11, 13, 14, 15, 16] : List Nat)) q e))).trans (F_10_o q hq))), (fun q hq => (((A_57_o q (fun e => hq ((by decide : ∀ x, x ∈ ([12, 16] : List Nat) → x ∈ ([12, 15, 16] : List Nat)) q e))).trans (A_22_o q (fun e => hq (by rw [e]; decide)))).trans (A_11_o q (fun e => hq ((by decide : ∀ x, x ∈ ([] : List Nat) → x ∈ ([12, 15, 16] : List Nat)) q e))))), ?_⟩
      exact ⟨NF_56A_57, LF_56A_57, by (try dsimp only) <;> omega, by (try dsimp only) <;> omega, by (try dsimp only) <;> omega, zq⟩
set_option maxRecDepth 10000 in
set_option maxHeartbeats 4000000 in
theorem s_d_tellDoor {n : Nat} {l : Int} {F : Nat → Int32} {A : Nat → Nat → Int32} {J : Nat → Nat → Int64}  (hF : IFm F) (hA : IAm A) (hn : 50 ≤ n) (hl : 0 ≤ l ∧ (F 18).toInt = l ∧ (F 19).toInt = 1 - l) (NFA : NCm F A) (hr : ai A 12 (F 19).toInt < 12) (h13 : (F 13).toInt = 0) : ok (d_tellDoor n F A J) (fun r => IFm r.2.1 ∧ IAm r.2.2.1 ∧ (∀ q, q ∉ ([11, 13, 14, 15, 16] : List Nat) → r.2.1 q = F q) ∧ (∀ q, q ∉ ([12, 13, 14, 15, 16] : List Nat) → r.2.2.1 q = A q) ∧ NCm r.2.1 r.2.2.1 ∧ LSm l A r.2.2.1 ∧ (F 15).toInt ≤ 5 * (r.2.1 15).toInt ∧ (F 11).toInt ≤ (r.2.1 11).toInt ∧ (1 ≤ (r.2.1 13).toInt ∨ 1 ≤ (r.2.1 15).toInt ∨ (XDm A (F 19).toInt → XDm r.2.2.1 (F 19).toInt))) := by
  have r18 : 0 ≤ (F 18).toInt ∧ (F 18).toInt ≤ 1 := hF 18
  have LFA : LSm l A A := LSm.rfl' l A
  have ct := NFA.2
  unfold CTm at ct
  have g11 : 0 ≤ ai A 11 (F 19).toInt ∧ ai A 11 (F 19).toInt ≤ 8 := hA 11 _ (by have := hF 19; exact this.1)
  have g12 : 0 ≤ ai A 12 (F 19).toInt ∧ ai A 12 (F 19).toInt ≤ 12 := hA 12 _ (by have := hF 19; exact this.1)
  have g17 : 0 ≤ ai A 17 (F 19).toInt ∧ ai A 17 (F 19).toInt ≤ 6 := hA 17 _ (by have := hF 19; exact this.1)
  have g19 : 0 ≤ ai A 19 (F 19).toInt ∧ ai A 19 (F 19).toInt ≤ 6 := hA 19 _ (by have := hF 19; exact this.1)
  have g29 : 0 ≤ ai A 29 (F 19).toInt ∧ ai A 29 (F 19).toInt ≤ 6 := hA 29 _ (by have := hF 19; exact this.1)
  have aFA : ai A 12 (F 19).toInt = ai A 12 (F 19).toInt := rfl
  have bFA : ∀ i, 0 ≤ i → i ≠ 12 * (F 19).toInt + ai A 12 (F 19).toInt → ai A 13 i = ai A 13 i := fun _ _ _ => rfl
  have cFA : ∀ i, 0 ≤ i → i ≠ 12 * (F 19).toInt + ai A 12 (F 19).toInt → ai A 14 i = ai A 14 i := fun _ _ _ => rfl
  have r_1 : 0 ≤ (F 11).toInt ∧ (F 11).toInt ≤ 400 := hF 11
  have r_2 : 0 ≤ (F 13).toInt ∧ (F 13).toInt ≤ 5 := hF 13
  have r_3 : 0 ≤ (F 15).toInt ∧ (F 15).toInt ≤ 5 := hF 15
  have r_4 : 0 ≤ (F 18).toInt ∧ (F 18).toInt ≤ 1 := hF 18
  have r_5 : 0 ≤ (F 19).toInt ∧ (F 19).toInt ≤ 1 := hF 19
  have r_6 : 0 ≤ (F 20).toInt ∧ (F 20).toInt ≤ 32 := hF 20
  unfold d_tellDoor
  refine ok_ld (j := 12) hA (by omega) (by omega) ?_
  intro v_7 v_7_e v_7_r
  change 0 ≤ v_7.toInt ∧ v_7.toInt ≤ 12 at v_7_r
  have l_8 : (0 : Int32).toInt = 0 := by decide
  refine ok_call (l_d_known hF hA (by omega) (NFA.1) (by omega)) ?_
  rintro ⟨v_9, F_10, A_11, J_12⟩ ⟨hF_10, hA_11, F_10_o, A_11_o, v_9_p⟩
  dsimp only at hF_10 hA_11 F_10_o A_11_o v_9_p ⊢
  change -1 ≤ v_9.toInt ∧ v_9.toInt ≤ 7 ∧ 0 ≤ v_9.toInt + (F_10 13).toInt + (F_10 15).toInt ∧ (F 11).toInt ≤ (F_10 11).toInt ∧ (F 13).toInt ≤ 5 * (F_10 13).toInt ∧ (F 15).toInt ≤ 5 * (F_10 15).toInt ∧ ((0 : Int32).toInt = 0 → v_9.toInt < ai A 11 (F 19).toInt) ∧ ((0 : Int32).toInt = 1 → v_9.toInt < ai A 17 (F 19).toInt) ∧ ((0 : Int32).toInt = 2 → v_9.toInt < ai A 19 (F 19).toInt) ∧ ((0 : Int32).toInt = 3 → v_9.toInt < ai A 29 (F 19).toInt) at v_9_p
  obtain ⟨v_9_0, v_9_1, v_9_2, v_9_3, v_9_4, v_9_5, v_9_6, v_9_7, v_9_8, v_9_9⟩ := v_9_p
  first | have v_9_s := v_9_6 (by decide) | have v_9_s := v_9_7 (by decide) | have v_9_s := v_9_8 (by decide) | have v_9_s := v_9_9 (by decide)
  clear v_9_6 v_9_7 v_9_8 v_9_9
  have r_13 : 0 ≤ (F_10 11).toInt ∧ (F_10 11).toInt ≤ 400 := hF_10 11
  have r_14 : 0 ≤ (F_10 13).toInt ∧ (F_10 13).toInt ≤ 5 := hF_10 13
  have r_15 : 0 ≤ (F_10 15).toInt ∧ (F_10 15).toInt ≤ 5 := hF_10 15
  have r_16 : 0 ≤ (F_10 18).toInt ∧ (F_10 18).toInt ≤ 1 := hF_10 18
  have f_17 : (F_10 18).toInt = (F 18).toInt := congrArg Int32.toInt (F_10_o 18 (by decide))
  have r_18 : 0 ≤ (F_10 19).toInt ∧ (F_10 19).toInt ≤ 1 := hF_10 19
  have f_19 : (F_10 19).toInt = (F 19).toInt := congrArg Int32.toInt (F_10_o 19 (by decide))
  have r_20 : 0 ≤ (F_10 20).toInt ∧ (F_10 20).toInt ≤ 32 := hF_10 20
  have f_21 : (F_10 20).toInt = (F 20).toInt := congrArg Int32.toInt (F_10_o 20 (by decide))
  have LF_10A_11 : LSm l A A_11 := LFA.fr _ A_11_o (by decide)
  have NF_10A_11 : NCm F_10 A_11 := NFA.fr0 (F_10_o 19 (by decide)) (F_10_o 20 (by decide)) (fun q hq => A_11_o q (by simp))
  have aF_10A_11 : ai A_11 12 (F_10 19).toInt = ai A 12 (F 19).toInt := by rw [ai_fr (A_11_o 12 (by decide)), F_10_o 19 (by decide)] <;> exact aFA
  have bF_10A_11 : ∀ i, 0 ≤ i → i ≠ 12 * (F 19).toInt + ai A 12 (F 19).toInt → ai A_11 13 i = ai A 13 i := by rw [ai_fr (A_11_o 13 (by decide))] <;> exact bFA
  have cF_10A_11 : ∀ i, 0 ≤ i → i ≠ 12 * (F 19).toInt + ai A 12 (F 19).toInt → ai A_11 14 i = ai A 14 i := by rw [ai_fr (A_11_o 14 (by decide))] <;> exact cFA
  have l_22 : (12 : Int32).toInt = 12 := by decide
  have e_23 := i_mulL (c := 12) (k := 12) (x := (F 19)) (by decide) (by omega) (by omega)
  have e_24 := i_add (x := (12 * (F 19))) (y := v_7) (by omega) (by omega)
  refine ok_st (j := 13) hA_11 (by omega) (by omega) (⟨by omega, by omega⟩) ?_
  intro A_25 hA_25 A_25_o A_25_s A_25_n
  have LF_10A_25 : LSm l A A_25 := LF_10A_11.st hl.1 12 rfl A_25_o A_25_n ⟨by omega, by omega⟩ (by omega)
  have NF_10A_25 : NCm F_10 A_25 := NF_10A_11.fr0 rfl rfl (fun q hq => A_25_o q (by omega))
  have aF_10A_25 : ai A_25 12 (F_10 19).toInt = ai A 12 (F 19).toInt := by rw [ai_fr (A_25_o 12 (by decide))] <;> exact aF_10A_11
  have bF_10A_25 : ∀ i, 0 ≤ i → i ≠ 12 * (F 19).toInt + ai A 12 (F 19).toInt → ai A_25 13 i = ai A 13 i := fun i h0 h1 => (A_25_n i h0 (by omega)).trans (bF_10A_11 i h0 h1)
  have cF_10A_25 : ∀ i, 0 ≤ i → i ≠ 12 * (F 19).toInt + ai A 12 (F 19).toInt → ai A_25 14 i = ai A 14 i := by rw [ai_fr (A_25_o 14 (by decide))] <;> exact cF_10A_11
  have pF_10A_25 : ai A_25 13 (12 * (F 19).toInt + ai A 12 (F 19).toInt) = v_9.toInt := by rw [show 12 * (F 19).toInt + ai A 12 (F 19).toInt = (12 * F 19 + v_7).toInt by omega]; exact A_25_s
  refine ok_call (l_d_known hF_10 hA_25 (by omega) (NF_10A_25.1) (by omega)) ?_
  rintro ⟨v_26, F_27, A_28, J_29⟩ ⟨hF_27, hA_28, F_27_o, A_28_o, v_26_p⟩
  dsimp only at hF_27 hA_28 F_27_o A_28_o v_26_p ⊢
  change -1 ≤ v_26.toInt ∧ v_26.toInt ≤ 7 ∧ 0 ≤ v_26.toInt + (F_27 13).toInt + (F_27 15).toInt ∧ (F_10 11).toInt ≤ (F_27 11).toInt ∧ (F_10 13).toInt ≤ 5 * (F_27 13).toInt ∧ (F_10 15).toInt ≤ 5 * (F_27 15).toInt ∧ ((0 : Int32).toInt = 0 → v_26.toInt < ai A_25 11 (F_10 19).toInt) ∧ ((0 : Int32).toInt = 1 → v_26.toInt < ai A_25 17 (F_10 19).toInt) ∧ ((0 : Int32).toInt = 2 → v_26.toInt < ai A_25 19 (F_10 19).toInt) ∧ ((0 : Int32).toInt = 3 → v_26.toInt < ai A_25 29 (F_10 19).toInt) at v_26_p
  obtain ⟨v_26_0, v_26_1, v_26_2, v_26_3, v_26_4, v_26_5, v_26_6, v_26_7, v_26_8, v_26_9⟩ := v_26_p
  first | have v_26_s := v_26_6 (by decide) | have v_26_s := v_26_7 (by decide) | have v_26_s := v_26_8 (by decide) | have v_26_s := v_26_9 (by decide)
  clear v_26_6 v_26_7 v_26_8 v_26_9
  have r_30 : 0 ≤ (F_27 11).toInt ∧ (F_27 11).toInt ≤ 400 := hF_27 11
  have r_31 : 0 ≤ (F_27 13).toInt ∧ (F_27 13).toInt ≤ 5 := hF_27 13
  have r_32 : 0 ≤ (F_27 15).toInt ∧ (F_27 15).toInt ≤ 5 := hF_27 15
  have r_33 : 0 ≤ (F_27 18).toInt ∧ (F_27 18).toInt ≤ 1 := hF_27 18
  have f_34 : (F_27 18).toInt = (F_10 18).toInt := congrArg Int32.toInt (F_27_o 18 (by decide))
  have r_35 : 0 ≤ (F_27 19).toInt ∧ (F_27 19).toInt ≤ 1 := hF_27 19
  have f_36 : (F_27 19).toInt = (F_10 19).toInt := congrArg Int32.toInt (F_27_o 19 (by decide))
  have r_37 : 0 ≤ (F_27 20).toInt ∧ (F_27 20).toInt ≤ 32 := hF_27 20
  have f_38 : (F_27 20).toInt = (F_10 20).toInt := congrArg Int32.toInt (F_27_o 20 (by decide))
  have LF_27A_28 : LSm l A A_28 := LF_10A_25.fr _ A_28_o (by decide)
  have NF_27A_28 : NCm F_27 A_28 := NF_10A_25.fr0 (F_27_o 19 (by decide)) (F_27_o 20 (by decide)) (fun q hq => A_28_o q (by simp))
  have aF_27A_28 : ai A_28 12 (F_27 19).toInt = ai A 12 (F 19).toInt := by rw [ai_fr (A_28_o 12 (by decide)), F_27_o 19 (by decide)] <;> exact aF_10A_25
  have bF_27A_28 : ∀ i, 0 ≤ i → i ≠ 12 * (F 19).toInt + ai A 12 (F 19).toInt → ai A_28 13 i = ai A 13 i := by rw [ai_fr (A_28_o 13 (by decide))] <;> exact bF_10A_25
  have cF_27A_28 : ∀ i, 0 ≤ i → i ≠ 12 * (F 19).toInt + ai A 12 (F 19).toInt → ai A_28 14 i = ai A 14 i := by rw [ai_fr (A_28_o 14 (by decide))] <;> exact cF_10A_25
  have pF_27A_28 : ai A_28 13 (12 * (F 19).toInt + ai A 12 (F 19).toInt) = v_9.toInt := by rw [ai_fr (A_28_o 13 (by decide))] <;> exact pF_10A_25
  refine ok_st (j := 14) hA_28 (by omega) (by omega) (⟨by omega, by omega⟩) ?_
  intro A_39 hA_39 A_39_o A_39_s A_39_n
  have LF_27A_39 : LSm l A A_39 := LF_27A_28.st hl.1 12 rfl A_39_o A_39_n ⟨by omega, by omega⟩ (by omega)
  have NF_27A_39 : NCm F_27 A_39 := NF_27A_28.fr0 rfl rfl (fun q hq => A_39_o q (by omega))
  have aF_27A_39 : ai A_39 12 (F_27 19).toInt = ai A 12 (F 19).toInt := by rw [ai_fr (A_39_o 12 (by decide))] <;> exact aF_27A_28
  have bF_27A_39 : ∀ i, 0 ≤ i → i ≠ 12 * (F 19).toInt + ai A 12 (F 19).toInt → ai A_39 13 i = ai A 13 i := by rw [ai_fr (A_39_o 13 (by decide))] <;> exact bF_27A_28
  have cF_27A_39 : ∀ i, 0 ≤ i → i ≠ 12 * (F 19).toInt + ai A 12 (F 19).toInt → ai A_39 14 i = ai A 14 i := fun i h0 h1 => (A_39_n i h0 (by omega)).trans (cF_27A_28 i h0 h1)
  have pF_27A_39 : ai A_39 13 (12 * (F 19).toInt + ai A 12 (F 19).toInt) = v_9.toInt := by rw [ai_fr (A_39_o 13 (by decide))] <;> exact pF_27A_28
  have qF_27A_39 : ai A_39 14 (12 * (F 19).toInt + ai A 12 (F 19).toInt) = v_26.toInt := by rw [show 12 * (F 19).toInt + ai A 12 (F 19).toInt = (12 * F 19 + v_7).toInt by omega]; exact A_39_s
  refine ok_cond (fun c_40 => ?_) (fun c_40 => ?_)
  · rw [i_ne] at c_40
    refine ok_mono (s_d_tellDoor_82 (l := l) hF_27 hA_39 (by omega) (NF_27A_39) (by omega) (by omega)) ?_
    rintro ⟨v_41, F_42, A_43, J_44⟩ ⟨hF_42, hA_43, F_42_o, A_43_o, v_41_p⟩
    dsimp only at hF_42 hA_43 F_42_o A_43_o v_41_p ⊢
    change NCm F_42 A_43 ∧ LSm l A_39 A_43 ∧ (F_27 15).toInt ≤ 5 * (F_42 15).toInt ∧ (F_27 11).toInt ≤ (F_42 11).toInt ∧ (F_27 13).toInt ≤ 5 * (F_42 13).toInt ∧ (1 ≤ (F_42 13).toInt ∨ ai A_43 12 (F_27 19).toInt = ai A_39 12 (F_27 19).toInt + 1) at v_41_p
    have r_45 : 0 ≤ (F_42 11).toInt ∧ (F_42 11).toInt ≤ 400 := hF_42 11
    have r_46 : 0 ≤ (F_42 13).toInt ∧ (F_42 13).toInt ≤ 5 := hF_42 13
    have r_47 : 0 ≤ (F_42 15).toInt ∧ (F_42 15).toInt ≤ 5 := hF_42 15
    have r_48 : 0 ≤ (F_42 18).toInt ∧ (F_42 18).toInt ≤ 1 := hF_42 18
    have f_49 : (F_42 18).toInt = (F_27 18).toInt := congrArg Int32.toInt (F_42_o 18 (by decide))
    have r_50 : 0 ≤ (F_42 19).toInt ∧ (F_42 19).toInt ≤ 1 := hF_42 19
    have f_51 : (F_42 19).toInt = (F_27 19).toInt := congrArg Int32.toInt (F_42_o 19 (by decide))
    have r_52 : 0 ≤ (F_42 20).toInt ∧ (F_42 20).toInt ≤ 32 := hF_42 20
    have f_53 : (F_42 20).toInt = (F_27 20).toInt := congrArg Int32.toInt (F_42_o 20 (by decide))
    have LF_42A_43 : LSm l A A_43 := LF_27A_39.tr v_41_p.2.1
    have NF_42A_43 : NCm F_42 A_43 := v_41_p.1
    have bF_42A_43 : ∀ i, 0 ≤ i → i ≠ 12 * (F 19).toInt + ai A 12 (F 19).toInt → ai A_43 13 i = ai A 13 i := by rw [ai_fr (A_43_o 13 (by decide))] <;> exact bF_27A_39
    have cF_42A_43 : ∀ i, 0 ≤ i → i ≠ 12 * (F 19).toInt + ai A 12 (F 19).toInt → ai A_43 14 i = ai A 14 i := by rw [ai_fr (A_43_o 14 (by decide))] <;> exact cF_27A_39
    have pF_42A_43 : ai A_43 13 (12 * (F 19).toInt + ai A 12 (F 19).toInt) = v_9.toInt := by rw [ai_fr (A_43_o 13 (by decide))] <;> exact pF_27A_39
    have qF_42A_43 : ai A_43 14 (12 * (F 19).toInt + ai A 12 (F 19).toInt) = v_26.toInt := by rw [ai_fr (A_43_o 14 (by decide))] <;> exact qF_27A_39
    have xs : 1 ≤ (F_42 13).toInt ∨ 1 ≤ (F_42 15).toInt ∨ (XDm A (F 19).toInt → XDm A_43 (F 19).toInt) := by
      rcases v_41_p.2.2.2.2.2 with h | h
      · exact .inl h
      · have zz : ai A_43 12 (F 19).toInt = ai A 12 (F 19).toInt + 1 := (congrArg (ai A_43 12) (show (F 19).toInt = (F_27 19).toInt by omega)).trans (h.trans (by omega))
        by_cases h13 : 1 ≤ (F_42 13).toInt
        · exact .inl h13
        · exact .inr ((show 1 ≤ (F_42 15).toInt ∨ (0 ≤ v_9.toInt ∧ 0 ≤ v_26.toInt) by omega).imp id (fun h x => x.up zz bF_42A_43 cF_42A_43 (by rw [pF_42A_43]; exact h.1) (by rw [qF_42A_43]; exact h.2) rfl (by omega)))
    refine ⟨hF_42, hA_43, (fun q hq => (((F_42_o q hq).trans (F_27_o q hq)).trans (F_10_o q hq))), (fun q hq => (((((A_43_o q (fun e => hq ((by decide : ∀ x, x ∈ ([12, 15, 16] : List Nat) → x ∈ ([12, 13, 14, 15, 16] : List Nat)) q e))).trans (A_39_o q (fun e => hq (by rw [e]; decide)))).trans (A_28_o q (fun e => hq ((by decide : ∀ x, x ∈ ([] : List Nat) → x ∈ ([12, 13, 14, 15, 16] : List Nat)) q e)))).trans (A_25_o q (fun e => hq (by rw [e]; decide)))).trans (A_11_o q (fun e => hq ((by decide : ∀ x, x ∈ ([] : List Nat) → x ∈ ([12, 13, 14, 15, 16] : List Nat)) q e))))), ?_⟩
    exact ⟨NF_42A_43, LF_42A_43, by (try dsimp only) <;> omega, by (try dsimp only) <;> omega, xs⟩
  · rw [i_nne] at c_40
    refine ok_ld (j := 13) hA_39 (by omega) (by omega) ?_
    intro v_54 v_54_e v_54_r
    change -1 ≤ v_54.toInt ∧ v_54.toInt ≤ 7 at v_54_r
    refine ok_cond (fun c_55 => ?_) (fun c_55 => ?_)
    · rw [i_lt] at c_55
      refine ok_mono (s_d_tellDoor_82 (l := l) hF_27 hA_39 (by omega) (NF_27A_39) (by omega) (by omega)) ?_
      rintro ⟨v_56, F_57, A_58, J_59⟩ ⟨hF_57, hA_58, F_57_o, A_58_o, v_56_p⟩
      dsimp only at hF_57 hA_58 F_57_o A_58_o v_56_p ⊢
      change NCm F_57 A_58 ∧ LSm l A_39 A_58 ∧ (F_27 15).toInt ≤ 5 * (F_57 15).toInt ∧ (F_27 11).toInt ≤ (F_57 11).toInt ∧ (F_27 13).toInt ≤ 5 * (F_57 13).toInt ∧ (1 ≤ (F_57 13).toInt ∨ ai A_58 12 (F_27 19).toInt = ai A_39 12 (F_27 19).toInt + 1) at v_56_p
      have r_60 : 0 ≤ (F_57 11).toInt ∧ (F_57 11).toInt ≤ 400 := hF_57 11
      have r_61 : 0 ≤ (F_57 13).toInt ∧ (F_57 13).toInt ≤ 5 := hF_57 13
      have r_62 : 0 ≤ (F_57 15).toInt ∧ (F_57 15).toInt ≤ 5 := hF_57 15
      have r_63 : 0 ≤ (F_57 18).toInt ∧ (F_57 18).toInt ≤ 1 := hF_57 18
      have f_64 : (F_57 18).toInt = (F_27 18).toInt := congrArg Int32.toInt (F_57_o 18 (by decide))
      have r_65 : 0 ≤ (F_57 19).toInt ∧ (F_57 19).toInt ≤ 1 := hF_57 19
      have f_66 : (F_57 19).toInt = (F_27 19).toInt := congrArg Int32.toInt (F_57_o 19 (by decide))
      have r_67 : 0 ≤ (F_57 20).toInt ∧ (F_57 20).toInt ≤ 32 := hF_57 20
      have f_68 : (F_57 20).toInt = (F_27 20).toInt := congrArg Int32.toInt (F_57_o 20 (by decide))
      have LF_57A_58 : LSm l A A_58 := LF_27A_39.tr v_56_p.2.1
      have NF_57A_58 : NCm F_57 A_58 := v_56_p.1
      have bF_57A_58 : ∀ i, 0 ≤ i → i ≠ 12 * (F 19).toInt + ai A 12 (F 19).toInt → ai A_58 13 i = ai A 13 i := by rw [ai_fr (A_58_o 13 (by decide))] <;> exact bF_27A_39
      have cF_57A_58 : ∀ i, 0 ≤ i → i ≠ 12 * (F 19).toInt + ai A 12 (F 19).toInt → ai A_58 14 i = ai A 14 i := by rw [ai_fr (A_58_o 14 (by decide))] <;> exact cF_27A_39
      have pF_57A_58 : ai A_58 13 (12 * (F 19).toInt + ai A 12 (F 19).toInt) = v_9.toInt := by rw [ai_fr (A_58_o 13 (by decide))] <;> exact pF_27A_39
      have qF_57A_58 : ai A_58 14 (12 * (F 19).toInt + ai A 12 (F 19).toInt) = v_26.toInt := by rw [ai_fr (A_58_o 14 (by decide))] <;> exact qF_27A_39
      have xs : 1 ≤ (F_57 13).toInt ∨ 1 ≤ (F_57 15).toInt ∨ (XDm A (F 19).toInt → XDm A_58 (F 19).toInt) := by
        rcases v_56_p.2.2.2.2.2 with h | h
        · exact .inl h
        · have zz : ai A_58 12 (F 19).toInt = ai A 12 (F 19).toInt + 1 := (congrArg (ai A_58 12) (show (F 19).toInt = (F_27 19).toInt by omega)).trans (h.trans (by omega))
          by_cases h13 : 1 ≤ (F_57 13).toInt
          · exact .inl h13
          · exact .inr ((show 1 ≤ (F_57 15).toInt ∨ (0 ≤ v_9.toInt ∧ 0 ≤ v_26.toInt) by omega).imp id (fun h x => x.up zz bF_57A_58 cF_57A_58 (by rw [pF_57A_58]; exact h.1) (by rw [qF_57A_58]; exact h.2) rfl (by omega)))
      refine ⟨hF_57, hA_58, (fun q hq => (((F_57_o q hq).trans (F_27_o q hq)).trans (F_10_o q hq))), (fun q hq => (((((A_58_o q (fun e => hq ((by decide : ∀ x, x ∈ ([12, 15, 16] : List Nat) → x ∈ ([12, 13, 14, 15, 16] : List Nat)) q e))).trans (A_39_o q (fun e => hq (by rw [e]; decide)))).trans (A_28_o q (fun e => hq ((by decide : ∀ x, x ∈ ([] : List Nat) → x ∈ ([12, 13, 14, 15, 16] : List Nat)) q e)))).trans (A_25_o q (fun e => hq (by rw [e]; decide)))).trans (A_11_o q (fun e => hq ((by decide : ∀ x, x ∈ ([] : List Nat) → x ∈ ([12, 13, 14, 15, 16] : List Nat)) q e))))), ?_⟩
      exact ⟨NF_57A_58, LF_57A_58, by (try dsimp only) <;> omega, by (try dsimp only) <;> omega, xs⟩
    · rw [i_nlt] at c_55
      refine ok_ld (j := 13) hA_39 (by omega) (by omega) ?_
      intro v_69 v_69_e v_69_r
      change -1 ≤ v_69.toInt ∧ v_69.toInt ≤ 7 at v_69_r
      refine ok_ld (j := 14) hA_39 (by omega) (by omega) ?_
      intro v_70 v_70_e v_70_r
      change -1 ≤ v_70.toInt ∧ v_70.toInt ≤ 7 at v_70_r
      refine ok_cond (fun c_71 => ?_) (fun c_71 => ?_)
      · rw [i_ne] at c_71
        refine ok_mono (s_d_tellDoor_82 (l := l) hF_27 hA_39 (by omega) (NF_27A_39) (by omega) (by omega)) ?_
        rintro ⟨v_72, F_73, A_74, J_75⟩ ⟨hF_73, hA_74, F_73_o, A_74_o, v_72_p⟩
        dsimp only at hF_73 hA_74 F_73_o A_74_o v_72_p ⊢
        change NCm F_73 A_74 ∧ LSm l A_39 A_74 ∧ (F_27 15).toInt ≤ 5 * (F_73 15).toInt ∧ (F_27 11).toInt ≤ (F_73 11).toInt ∧ (F_27 13).toInt ≤ 5 * (F_73 13).toInt ∧ (1 ≤ (F_73 13).toInt ∨ ai A_74 12 (F_27 19).toInt = ai A_39 12 (F_27 19).toInt + 1) at v_72_p
        have r_76 : 0 ≤ (F_73 11).toInt ∧ (F_73 11).toInt ≤ 400 := hF_73 11
        have r_77 : 0 ≤ (F_73 13).toInt ∧ (F_73 13).toInt ≤ 5 := hF_73 13
        have r_78 : 0 ≤ (F_73 15).toInt ∧ (F_73 15).toInt ≤ 5 := hF_73 15
        have r_79 : 0 ≤ (F_73 18).toInt ∧ (F_73 18).toInt ≤ 1 := hF_73 18
        have f_80 : (F_73 18).toInt = (F_27 18).toInt := congrArg Int32.toInt (F_73_o 18 (by decide))
        have r_81 : 0 ≤ (F_73 19).toInt ∧ (F_73 19).toInt ≤ 1 := hF_73 19
        have f_82 : (F_73 19).toInt = (F_27 19).toInt := congrArg Int32.toInt (F_73_o 19 (by decide))
        have r_83 : 0 ≤ (F_73 20).toInt ∧ (F_73 20).toInt ≤ 32 := hF_73 20
        have f_84 : (F_73 20).toInt = (F_27 20).toInt := congrArg Int32.toInt (F_73_o 20 (by decide))
        have LF_73A_74 : LSm l A A_74 := LF_27A_39.tr v_72_p.2.1
        have NF_73A_74 : NCm F_73 A_74 := v_72_p.1
        have bF_73A_74 : ∀ i, 0 ≤ i → i ≠ 12 * (F 19).toInt + ai A 12 (F 19).toInt → ai A_74 13 i = ai A 13 i := by rw [ai_fr (A_74_o 13 (by decide))] <;> exact bF_27A_39
        have cF_73A_74 : ∀ i, 0 ≤ i → i ≠ 12 * (F 19).toInt + ai A 12 (F 19).toInt → ai A_74 14 i = ai A 14 i := by rw [ai_fr (A_74_o 14 (by decide))] <;> exact cF_27A_39
        have pF_73A_74 : ai A_74 13 (12 * (F 19).toInt + ai A 12 (F 19).toInt) = v_9.toInt := by rw [ai_fr (A_74_o 13 (by decide))] <;> exact pF_27A_39
        have qF_73A_74 : ai A_74 14 (12 * (F 19).toInt + ai A 12 (F 19).toInt) = v_26.toInt := by rw [ai_fr (A_74_o 14 (by decide))] <;> exact qF_27A_39
        have xs : 1 ≤ (F_73 13).toInt ∨ 1 ≤ (F_73 15).toInt ∨ (XDm A (F 19).toInt → XDm A_74 (F 19).toInt) := by
          rcases v_72_p.2.2.2.2.2 with h | h
          · exact .inl h
          · have zz : ai A_74 12 (F 19).toInt = ai A 12 (F 19).toInt + 1 := (congrArg (ai A_74 12) (show (F 19).toInt = (F_27 19).toInt by omega)).trans (h.trans (by omega))
            by_cases h13 : 1 ≤ (F_73 13).toInt
            · exact .inl h13
            · exact .inr ((show 1 ≤ (F_73 15).toInt ∨ (0 ≤ v_9.toInt ∧ 0 ≤ v_26.toInt) by omega).imp id (fun h x => x.up zz bF_73A_74 cF_73A_74 (by rw [pF_73A_74]; exact h.1) (by rw [qF_73A_74]; exact h.2) rfl (by omega)))
        refine ⟨hF_73, hA_74, (fun q hq => (((F_73_o q hq).trans (F_27_o q hq)).trans (F_10_o q hq))), (fun q hq => (((((A_74_o q (fun e => hq ((by decide : ∀ x, x ∈ ([12, 15, 16] : List Nat) → x ∈ ([12, 13, 14, 15, 16] : List Nat)) q e))).trans (A_39_o q (fun e => hq (by rw [e]; decide)))).trans (A_28_o q (fun e => hq ((by decide : ∀ x, x ∈ ([] : List Nat) → x ∈ ([12, 13, 14, 15, 16] : List Nat)) q e)))).trans (A_25_o q (fun e => hq (by rw [e]; decide)))).trans (A_11_o q (fun e => hq ((by decide : ∀ x, x ∈ ([] : List Nat) → x ∈ ([12, 13, 14, 15, 16] : List Nat)) q e))))), ?_⟩
        exact ⟨NF_73A_74, LF_73A_74, by (try dsimp only) <;> omega, by (try dsimp only) <;> omega, xs⟩
      · rw [i_nne] at c_71
        have l_85 : (5 : Int32).toInt = 5 := by decide
        refine ok_call (l_d_wrong hF_27 hA_39 (by omega) (by omega)) ?_
        rintro ⟨u_86, F_87, A_88, J_89⟩ ⟨hF_87, hA_88, F_87_o, A_88_o, u_86_p⟩
        dsimp only at hF_87 hA_88 F_87_o A_88_o u_86_p ⊢
        change 1 ≤ (F_27 13).toInt + (F_87 15).toInt ∧ (F_27 15).toInt ≤ 5 * (F_87 15).toInt at u_86_p
        have r_90 : 0 ≤ (F_87 11).toInt ∧ (F_87 11).toInt ≤ 400 := hF_87 11
        have f_91 : (F_87 11).toInt = (F_27 11).toInt := congrArg Int32.toInt (F_87_o 11 (by decide))
        have r_92 : 0 ≤ (F_87 13).toInt ∧ (F_87 13).toInt ≤ 5 := hF_87 13
        have f_93 : (F_87 13).toInt = (F_27 13).toInt := congrArg Int32.toInt (F_87_o 13 (by decide))
        have r_94 : 0 ≤ (F_87 15).toInt ∧ (F_87 15).toInt ≤ 5 := hF_87 15
        have r_95 : 0 ≤ (F_87 18).toInt ∧ (F_87 18).toInt ≤ 1 := hF_87 18
        have f_96 : (F_87 18).toInt = (F_27 18).toInt := congrArg Int32.toInt (F_87_o 18 (by decide))
        have r_97 : 0 ≤ (F_87 19).toInt ∧ (F_87 19).toInt ≤ 1 := hF_87 19
        have f_98 : (F_87 19).toInt = (F_27 19).toInt := congrArg Int32.toInt (F_87_o 19 (by decide))
        have r_99 : 0 ≤ (F_87 20).toInt ∧ (F_87 20).toInt ≤ 32 := hF_87 20
        have f_100 : (F_87 20).toInt = (F_27 20).toInt := congrArg Int32.toInt (F_87_o 20 (by decide))
        have LF_87A_88 : LSm l A A_88 := LF_27A_39.fr _ A_88_o (by decide)
        have NF_87A_88 : NCm F_87 A_88 := NF_27A_39.fr0 (F_87_o 19 (by decide)) (F_87_o 20 (by decide)) (fun q hq => A_88_o q (by simp))
        have aF_87A_88 : ai A_88 12 (F_87 19).toInt = ai A 12 (F 19).toInt := by rw [ai_fr (A_88_o 12 (by decide)), F_87_o 19 (by decide)] <;> exact aF_27A_39
        have bF_87A_88 : ∀ i, 0 ≤ i → i ≠ 12 * (F 19).toInt + ai A 12 (F 19).toInt → ai A_88 13 i = ai A 13 i := by rw [ai_fr (A_88_o 13 (by decide))] <;> exact bF_27A_39
        have cF_87A_88 : ∀ i, 0 ≤ i → i ≠ 12 * (F 19).toInt + ai A 12 (F 19).toInt → ai A_88 14 i = ai A 14 i := by rw [ai_fr (A_88_o 14 (by decide))] <;> exact cF_27A_39
        have pF_87A_88 : ai A_88 13 (12 * (F 19).toInt + ai A 12 (F 19).toInt) = v_9.toInt := by rw [ai_fr (A_88_o 13 (by decide))] <;> exact pF_27A_39
        have qF_87A_88 : ai A_88 14 (12 * (F 19).toInt + ai A 12 (F 19).toInt) = v_26.toInt := by rw [ai_fr (A_88_o 14 (by decide))] <;> exact qF_27A_39
        have l_101 : (1 : Int32).toInt = 1 := by decide
        have l_102 : (60 : Int32).toInt = 60 := by decide
        refine ok_call (l_d_bounded hF_87 hA_88 (by omega) (by omega)) ?_
        rintro ⟨v_103, F_104, A_105, J_106⟩ ⟨hF_104, hA_105, F_104_o, A_105_o, v_103_p⟩
        dsimp only at hF_104 hA_105 F_104_o A_105_o v_103_p ⊢
        change 0 ≤ v_103.toInt ∧ v_103.toInt ≤ 9999 ∧ (1 : Int32).toInt ≤ v_103.toInt + 10000 * ((F_104 13).toInt + (F_104 15).toInt) ∧ v_103.toInt ≤ (60 : Int32).toInt + 20000 * ((F_104 13).toInt + (F_104 15).toInt) ∧ (F_87 11).toInt ≤ (F_104 11).toInt ∧ (F_87 13).toInt ≤ 5 * (F_104 13).toInt ∧ (F_87 15).toInt ≤ 5 * (F_104 15).toInt at v_103_p
        have r_107 : 0 ≤ (F_104 11).toInt ∧ (F_104 11).toInt ≤ 400 := hF_104 11
        have r_108 : 0 ≤ (F_104 13).toInt ∧ (F_104 13).toInt ≤ 5 := hF_104 13
        have r_109 : 0 ≤ (F_104 15).toInt ∧ (F_104 15).toInt ≤ 5 := hF_104 15
        have r_110 : 0 ≤ (F_104 18).toInt ∧ (F_104 18).toInt ≤ 1 := hF_104 18
        have f_111 : (F_104 18).toInt = (F_87 18).toInt := congrArg Int32.toInt (F_104_o 18 (by decide))
        have r_112 : 0 ≤ (F_104 19).toInt ∧ (F_104 19).toInt ≤ 1 := hF_104 19
        have f_113 : (F_104 19).toInt = (F_87 19).toInt := congrArg Int32.toInt (F_104_o 19 (by decide))
        have r_114 : 0 ≤ (F_104 20).toInt ∧ (F_104 20).toInt ≤ 32 := hF_104 20
        have f_115 : (F_104 20).toInt = (F_87 20).toInt := congrArg Int32.toInt (F_104_o 20 (by decide))
        have LF_104A_105 : LSm l A A_105 := LF_87A_88.fr _ A_105_o (by decide)
        have NF_104A_105 : NCm F_104 A_105 := NF_87A_88.fr0 (F_104_o 19 (by decide)) (F_104_o 20 (by decide)) (fun q hq => A_105_o q (by simp))
        have aF_104A_105 : ai A_105 12 (F_104 19).toInt = ai A 12 (F 19).toInt := by rw [ai_fr (A_105_o 12 (by decide)), F_104_o 19 (by decide)] <;> exact aF_87A_88
        have bF_104A_105 : ∀ i, 0 ≤ i → i ≠ 12 * (F 19).toInt + ai A 12 (F 19).toInt → ai A_105 13 i = ai A 13 i := by rw [ai_fr (A_105_o 13 (by decide))] <;> exact bF_87A_88
        have cF_104A_105 : ∀ i, 0 ≤ i → i ≠ 12 * (F 19).toInt + ai A 12 (F 19).toInt → ai A_105 14 i = ai A 14 i := by rw [ai_fr (A_105_o 14 (by decide))] <;> exact cF_87A_88
        have pF_104A_105 : ai A_105 13 (12 * (F 19).toInt + ai A 12 (F 19).toInt) = v_9.toInt := by rw [ai_fr (A_105_o 13 (by decide))] <;> exact pF_87A_88
        have qF_104A_105 : ai A_105 14 (12 * (F 19).toInt + ai A 12 (F 19).toInt) = v_26.toInt := by rw [ai_fr (A_105_o 14 (by decide))] <;> exact qF_87A_88
        refine ok_st (j := 15) hA_105 (by omega) (by omega) (trivial) ?_
        intro A_116 hA_116 A_116_o A_116_s A_116_n
        have LF_104A_116 : LSm l A A_116 := LF_104A_105.st hl.1 12 rfl A_116_o A_116_n ⟨by omega, by omega⟩ (by omega)
        have NF_104A_116 : NCm F_104 A_116 := NF_104A_105.fr0 rfl rfl (fun q hq => A_116_o q (by omega))
        have aF_104A_116 : ai A_116 12 (F_104 19).toInt = ai A 12 (F 19).toInt := by rw [ai_fr (A_116_o 12 (by decide))] <;> exact aF_104A_105
        have bF_104A_116 : ∀ i, 0 ≤ i → i ≠ 12 * (F 19).toInt + ai A 12 (F 19).toInt → ai A_116 13 i = ai A 13 i := by rw [ai_fr (A_116_o 13 (by decide))] <;> exact bF_104A_105
        have cF_104A_116 : ∀ i, 0 ≤ i → i ≠ 12 * (F 19).toInt + ai A 12 (F 19).toInt → ai A_116 14 i = ai A 14 i := by rw [ai_fr (A_116_o 14 (by decide))] <;> exact cF_104A_105
        have pF_104A_116 : ai A_116 13 (12 * (F 19).toInt + ai A 12 (F 19).toInt) = v_9.toInt := by rw [ai_fr (A_116_o 13 (by decide))] <;> exact pF_104A_105
        have qF_104A_116 : ai A_116 14 (12 * (F 19).toInt + ai A 12 (F 19).toInt) = v_26.toInt := by rw [ai_fr (A_116_o 14 (by decide))] <;> exact qF_104A_105
        refine ok_cond (fun c_117 => ?_) (fun c_117 => ?_)
        · rw [i_ne] at c_117
          unfold d_tellDoor_120
          refine ok_mono (s_d_tellDoor_121 (l := l) hF_104 hA_116 (by omega) (NF_104A_116) (by omega) (by omega) (rfl) (by decide)) ?_
          rintro ⟨v_118, F_119, A_120, J_121⟩ ⟨hF_119, hA_120, F_119_o, A_120_o, v_118_p⟩
          dsimp only at hF_119 hA_120 F_119_o A_120_o v_118_p ⊢
          change NCm F_119 A_120 ∧ LSm l A_116 A_120 ∧ (F_104 15).toInt ≤ 5 * (F_119 15).toInt ∧ (F_104 11).toInt ≤ (F_119 11).toInt ∧ (F_104 13).toInt ≤ 5 * (F_119 13).toInt ∧ (1 ≤ (F_119 13).toInt ∨ ai A_120 12 (F_104 19).toInt = ai A_116 12 (F_104 19).toInt + 1) at v_118_p
          have r_122 : 0 ≤ (F_119 11).toInt ∧ (F_119 11).toInt ≤ 400 := hF_119 11
          have r_123 : 0 ≤ (F_119 13).toInt ∧ (F_119 13).toInt ≤ 5 := hF_119 13
          have r_124 : 0 ≤ (F_119 15).toInt ∧ (F_119 15).toInt ≤ 5 := hF_119 15
          have f_125 : (F_119 15).toInt = (F_104 15).toInt := congrArg Int32.toInt (F_119_o 15 (by decide))
          have r_126 : 0 ≤ (F_119 18).toInt ∧ (F_119 18).toInt ≤ 1 := hF_119 18
          have f_127 : (F_119 18).toInt = (F_104 18).toInt := congrArg Int32.toInt (F_119_o 18 (by decide))
          have r_128 : 0 ≤ (F_119 19).toInt ∧ (F_119 19).toInt ≤ 1 := hF_119 19
          have f_129 : (F_119 19).toInt = (F_104 19).toInt := congrArg Int32.toInt (F_119_o 19 (by decide))
          have r_130 : 0 ≤ (F_119 20).toInt ∧ (F_119 20).toInt ≤ 32 := hF_119 20
          have f_131 : (F_119 20).toInt = (F_104 20).toInt := congrArg Int32.toInt (F_119_o 20 (by decide))
          have LF_119A_120 : LSm l A A_120 := LF_104A_116.tr v_118_p.2.1
          have NF_119A_120 : NCm F_119 A_120 := v_118_p.1
          have bF_119A_120 : ∀ i, 0 ≤ i → i ≠ 12 * (F 19).toInt + ai A 12 (F 19).toInt → ai A_120 13 i = ai A 13 i := by rw [ai_fr (A_120_o 13 (by decide))] <;> exact bF_104A_116
          have cF_119A_120 : ∀ i, 0 ≤ i → i ≠ 12 * (F 19).toInt + ai A 12 (F 19).toInt → ai A_120 14 i = ai A 14 i := by rw [ai_fr (A_120_o 14 (by decide))] <;> exact cF_104A_116
          have pF_119A_120 : ai A_120 13 (12 * (F 19).toInt + ai A 12 (F 19).toInt) = v_9.toInt := by rw [ai_fr (A_120_o 13 (by decide))] <;> exact pF_104A_116
          have qF_119A_120 : ai A_120 14 (12 * (F 19).toInt + ai A 12 (F 19).toInt) = v_26.toInt := by rw [ai_fr (A_120_o 14 (by decide))] <;> exact qF_104A_116
          have xs : 1 ≤ (F_119 13).toInt ∨ 1 ≤ (F_119 15).toInt ∨ (XDm A (F 19).toInt → XDm A_120 (F 19).toInt) := by
            rcases v_118_p.2.2.2.2.2 with h | h
            · exact .inl h
            · have zz : ai A_120 12 (F 19).toInt = ai A 12 (F 19).toInt + 1 := (congrArg (ai A_120 12) (show (F 19).toInt = (F_104 19).toInt by omega)).trans (h.trans (by omega))
              by_cases h13 : 1 ≤ (F_119 13).toInt
              · exact .inl h13
              · exact .inr ((show 1 ≤ (F_119 15).toInt ∨ (0 ≤ v_9.toInt ∧ 0 ≤ v_26.toInt) by omega).imp id (fun h x => x.up zz bF_119A_120 cF_119A_120 (by rw [pF_119A_120]; exact h.1) (by rw [qF_119A_120]; exact h.2) rfl (by omega)))
          refine ⟨hF_119, hA_120, (fun q hq => (((((F_119_o q (fun e => hq ((by decide : ∀ x, x ∈ ([11, 13, 14] : List Nat) → x ∈ ([11, 13, 14, 15, 16] : List Nat)) q e))).trans (F_104_o q hq)).trans (F_87_o q (fun e => hq ((by decide : ∀ x, x ∈ ([15, 16] : List Nat) → x ∈ ([11, 13, 14, 15, 16] : List Nat)) q e)))).trans (F_27_o q hq)).trans (F_10_o q hq))), (fun q hq => ((((((((A_120_o q (fun e => hq ((by decide : ∀ x, x ∈ ([12, 16] : List Nat) → x ∈ ([12, 13, 14, 15, 16] : List Nat)) q e))).trans (A_116_o q (fun e => hq (by rw [e]; decide)))).trans (A_105_o q (fun e => hq ((by decide : ∀ x, x ∈ ([] : List Nat) → x ∈ ([12, 13, 14, 15, 16] : List Nat)) q e)))).trans (A_88_o q (fun e => hq ((by decide : ∀ x, x ∈ ([] : List Nat) → x ∈ ([12, 13, 14, 15, 16] : List Nat)) q e)))).trans (A_39_o q (fun e => hq (by rw [e]; decide)))).trans (A_28_o q (fun e => hq ((by decide : ∀ x, x ∈ ([] : List Nat) → x ∈ ([12, 13, 14, 15, 16] : List Nat)) q e)))).trans (A_25_o q (fun e => hq (by rw [e]; decide)))).trans (A_11_o q (fun e => hq ((by decide : ∀ x, x ∈ ([] : List Nat) → x ∈ ([12, 13, 14, 15, 16] : List Nat)) q e))))), ?_⟩
          exact ⟨NF_119A_120, LF_119A_120, by (try dsimp only) <;> omega, by (try dsimp only) <;> omega, xs⟩
        · rw [i_nne] at c_117
          refine ok_call (l_d_is hF_104 hA_116) ?_
          intro v_132 v_132_p
          change 0 ≤ v_132.toInt ∧ v_132.toInt ≤ 1 at v_132_p
          refine ok_cond (fun c_133 => ?_) (fun c_133 => ?_)
          · rw [i_eq] at c_133
            unfold d_tellDoor_120
            refine ok_mono (s_d_tellDoor_121 (l := l) hF_104 hA_116 (by omega) (NF_104A_116) (by omega) (by omega) (rfl) (by decide)) ?_
            rintro ⟨v_134, F_135, A_136, J_137⟩ ⟨hF_135, hA_136, F_135_o, A_136_o, v_134_p⟩
            dsimp only at hF_135 hA_136 F_135_o A_136_o v_134_p ⊢
            change NCm F_135 A_136 ∧ LSm l A_116 A_136 ∧ (F_104 15).toInt ≤ 5 * (F_135 15).toInt ∧ (F_104 11).toInt ≤ (F_135 11).toInt ∧ (F_104 13).toInt ≤ 5 * (F_135 13).toInt ∧ (1 ≤ (F_135 13).toInt ∨ ai A_136 12 (F_104 19).toInt = ai A_116 12 (F_104 19).toInt + 1) at v_134_p
            have r_138 : 0 ≤ (F_135 11).toInt ∧ (F_135 11).toInt ≤ 400 := hF_135 11
            have r_139 : 0 ≤ (F_135 13).toInt ∧ (F_135 13).toInt ≤ 5 := hF_135 13
            have r_140 : 0 ≤ (F_135 15).toInt ∧ (F_135 15).toInt ≤ 5 := hF_135 15
            have f_141 : (F_135 15).toInt = (F_104 15).toInt := congrArg Int32.toInt (F_135_o 15 (by decide))
            have r_142 : 0 ≤ (F_135 18).toInt ∧ (F_135 18).toInt ≤ 1 := hF_135 18
            have f_143 : (F_135 18).toInt = (F_104 18).toInt := congrArg Int32.toInt (F_135_o 18 (by decide))
            have r_144 : 0 ≤ (F_135 19).toInt ∧ (F_135 19).toInt ≤ 1 := hF_135 19
            have f_145 : (F_135 19).toInt = (F_104 19).toInt := congrArg Int32.toInt (F_135_o 19 (by decide))
            have r_146 : 0 ≤ (F_135 20).toInt ∧ (F_135 20).toInt ≤ 32 := hF_135 20
            have f_147 : (F_135 20).toInt = (F_104 20).toInt := congrArg Int32.toInt (F_135_o 20 (by decide))
            have LF_135A_136 : LSm l A A_136 := LF_104A_116.tr v_134_p.2.1
            have NF_135A_136 : NCm F_135 A_136 := v_134_p.1
            have bF_135A_136 : ∀ i, 0 ≤ i → i ≠ 12 * (F 19).toInt + ai A 12 (F 19).toInt → ai A_136 13 i = ai A 13 i := by rw [ai_fr (A_136_o 13 (by decide))] <;> exact bF_104A_116
            have cF_135A_136 : ∀ i, 0 ≤ i → i ≠ 12 * (F 19).toInt + ai A 12 (F 19).toInt → ai A_136 14 i = ai A 14 i := by rw [ai_fr (A_136_o 14 (by decide))] <;> exact cF_104A_116
            have pF_135A_136 : ai A_136 13 (12 * (F 19).toInt + ai A 12 (F 19).toInt) = v_9.toInt := by rw [ai_fr (A_136_o 13 (by decide))] <;> exact pF_104A_116
            have qF_135A_136 : ai A_136 14 (12 * (F 19).toInt + ai A 12 (F 19).toInt) = v_26.toInt := by rw [ai_fr (A_136_o 14 (by decide))] <;> exact qF_104A_116
            have xs : 1 ≤ (F_135 13).toInt ∨ 1 ≤ (F_135 15).toInt ∨ (XDm A (F 19).toInt → XDm A_136 (F 19).toInt) := by
              rcases v_134_p.2.2.2.2.2 with h | h
              · exact .inl h
              · have zz : ai A_136 12 (F 19).toInt = ai A 12 (F 19).toInt + 1 := (congrArg (ai A_136 12) (show (F 19).toInt = (F_104 19).toInt by omega)).trans (h.trans (by omega))
                by_cases h13 : 1 ≤ (F_135 13).toInt
                · exact .inl h13
                · exact .inr ((show 1 ≤ (F_135 15).toInt ∨ (0 ≤ v_9.toInt ∧ 0 ≤ v_26.toInt) by omega).imp id (fun h x => x.up zz bF_135A_136 cF_135A_136 (by rw [pF_135A_136]; exact h.1) (by rw [qF_135A_136]; exact h.2) rfl (by omega)))
            refine ⟨hF_135, hA_136, (fun q hq => (((((F_135_o q (fun e => hq ((by decide : ∀ x, x ∈ ([11, 13, 14] : List Nat) → x ∈ ([11, 13, 14, 15, 16] : List Nat)) q e))).trans (F_104_o q hq)).trans (F_87_o q (fun e => hq ((by decide : ∀ x, x ∈ ([15, 16] : List Nat) → x ∈ ([11, 13, 14, 15, 16] : List Nat)) q e)))).trans (F_27_o q hq)).trans (F_10_o q hq))), (fun q hq => ((((((((A_136_o q (fun e => hq ((by decide : ∀ x, x ∈ ([12, 16] : List Nat) → x ∈ ([12, 13, 14, 15, 16] : List Nat)) q e))).trans (A_116_o q (fun e => hq (by rw [e]; decide)))).trans (A_105_o q (fun e => hq ((by decide : ∀ x, x ∈ ([] : List Nat) → x ∈ ([12, 13, 14, 15, 16] : List Nat)) q e)))).trans (A_88_o q (fun e => hq ((by decide : ∀ x, x ∈ ([] : List Nat) → x ∈ ([12, 13, 14, 15, 16] : List Nat)) q e)))).trans (A_39_o q (fun e => hq (by rw [e]; decide)))).trans (A_28_o q (fun e => hq ((by decide : ∀ x, x ∈ ([] : List Nat) → x ∈ ([12, 13, 14, 15, 16] : List Nat)) q e)))).trans (A_25_o q (fun e => hq (by rw [e]; decide)))).trans (A_11_o q (fun e => hq ((by decide : ∀ x, x ∈ ([] : List Nat) → x ∈ ([12, 13, 14, 15, 16] : List Nat)) q e))))), ?_⟩
            exact ⟨NF_135A_136, LF_135A_136, by (try dsimp only) <;> omega, by (try dsimp only) <;> omega, xs⟩
          · rw [i_neq] at c_133
            refine ok_mono (s_d_tellDoor_121 (l := l) hF_104 hA_116 (by omega) (NF_104A_116) (by omega) (by omega) (rfl) (by decide)) ?_
            rintro ⟨v_148, F_149, A_150, J_151⟩ ⟨hF_149, hA_150, F_149_o, A_150_o, v_148_p⟩
            dsimp only at hF_149 hA_150 F_149_o A_150_o v_148_p ⊢
            change NCm F_149 A_150 ∧ LSm l A_116 A_150 ∧ (F_104 15).toInt ≤ 5 * (F_149 15).toInt ∧ (F_104 11).toInt ≤ (F_149 11).toInt ∧ (F_104 13).toInt ≤ 5 * (F_149 13).toInt ∧ (1 ≤ (F_149 13).toInt ∨ ai A_150 12 (F_104 19).toInt = ai A_116 12 (F_104 19).toInt + 1) at v_148_p
            have r_152 : 0 ≤ (F_149 11).toInt ∧ (F_149 11).toInt ≤ 400 := hF_149 11
            have r_153 : 0 ≤ (F_149 13).toInt ∧ (F_149 13).toInt ≤ 5 := hF_149 13
            have r_154 : 0 ≤ (F_149 15).toInt ∧ (F_149 15).toInt ≤ 5 := hF_149 15
            have f_155 : (F_149 15).toInt = (F_104 15).toInt := congrArg Int32.toInt (F_149_o 15 (by decide))
            have r_156 : 0 ≤ (F_149 18).toInt ∧ (F_149 18).toInt ≤ 1 := hF_149 18
            have f_157 : (F_149 18).toInt = (F_104 18).toInt := congrArg Int32.toInt (F_149_o 18 (by decide))
            have r_158 : 0 ≤ (F_149 19).toInt ∧ (F_149 19).toInt ≤ 1 := hF_149 19
            have f_159 : (F_149 19).toInt = (F_104 19).toInt := congrArg Int32.toInt (F_149_o 19 (by decide))
            have r_160 : 0 ≤ (F_149 20).toInt ∧ (F_149 20).toInt ≤ 32 := hF_149 20
            have f_161 : (F_149 20).toInt = (F_104 20).toInt := congrArg Int32.toInt (F_149_o 20 (by decide))
            have LF_149A_150 : LSm l A A_150 := LF_104A_116.tr v_148_p.2.1
            have NF_149A_150 : NCm F_149 A_150 := v_148_p.1
            have bF_149A_150 : ∀ i, 0 ≤ i → i ≠ 12 * (F 19).toInt + ai A 12 (F 19).toInt → ai A_150 13 i = ai A 13 i := by rw [ai_fr (A_150_o 13 (by decide))] <;> exact bF_104A_116
            have cF_149A_150 : ∀ i, 0 ≤ i → i ≠ 12 * (F 19).toInt + ai A 12 (F 19).toInt → ai A_150 14 i = ai A 14 i := by rw [ai_fr (A_150_o 14 (by decide))] <;> exact cF_104A_116
            have pF_149A_150 : ai A_150 13 (12 * (F 19).toInt + ai A 12 (F 19).toInt) = v_9.toInt := by rw [ai_fr (A_150_o 13 (by decide))] <;> exact pF_104A_116
            have qF_149A_150 : ai A_150 14 (12 * (F 19).toInt + ai A 12 (F 19).toInt) = v_26.toInt := by rw [ai_fr (A_150_o 14 (by decide))] <;> exact qF_104A_116
            have xs : 1 ≤ (F_149 13).toInt ∨ 1 ≤ (F_149 15).toInt ∨ (XDm A (F 19).toInt → XDm A_150 (F 19).toInt) := by
              rcases v_148_p.2.2.2.2.2 with h | h
              · exact .inl h
              · have zz : ai A_150 12 (F 19).toInt = ai A 12 (F 19).toInt + 1 := (congrArg (ai A_150 12) (show (F 19).toInt = (F_104 19).toInt by omega)).trans (h.trans (by omega))
                by_cases h13 : 1 ≤ (F_149 13).toInt
                · exact .inl h13
                · exact .inr ((show 1 ≤ (F_149 15).toInt ∨ (0 ≤ v_9.toInt ∧ 0 ≤ v_26.toInt) by omega).imp id (fun h x => x.up zz bF_149A_150 cF_149A_150 (by rw [pF_149A_150]; exact h.1) (by rw [qF_149A_150]; exact h.2) rfl (by omega)))
            refine ⟨hF_149, hA_150, (fun q hq => (((((F_149_o q (fun e => hq ((by decide : ∀ x, x ∈ ([11, 13, 14] : List Nat) → x ∈ ([11, 13, 14, 15, 16] : List Nat)) q e))).trans (F_104_o q hq)).trans (F_87_o q (fun e => hq ((by decide : ∀ x, x ∈ ([15, 16] : List Nat) → x ∈ ([11, 13, 14, 15, 16] : List Nat)) q e)))).trans (F_27_o q hq)).trans (F_10_o q hq))), (fun q hq => ((((((((A_150_o q (fun e => hq ((by decide : ∀ x, x ∈ ([12, 16] : List Nat) → x ∈ ([12, 13, 14, 15, 16] : List Nat)) q e))).trans (A_116_o q (fun e => hq (by rw [e]; decide)))).trans (A_105_o q (fun e => hq ((by decide : ∀ x, x ∈ ([] : List Nat) → x ∈ ([12, 13, 14, 15, 16] : List Nat)) q e)))).trans (A_88_o q (fun e => hq ((by decide : ∀ x, x ∈ ([] : List Nat) → x ∈ ([12, 13, 14, 15, 16] : List Nat)) q e)))).trans (A_39_o q (fun e => hq (by rw [e]; decide)))).trans (A_28_o q (fun e => hq ((by decide : ∀ x, x ∈ ([] : List Nat) → x ∈ ([12, 13, 14, 15, 16] : List Nat)) q e)))).trans (A_25_o q (fun e => hq (by rw [e]; decide)))).trans (A_11_o q (fun e => hq ((by decide : ∀ x, x ∈ ([] : List Nat) → x ∈ ([12, 13, 14, 15, 16] : List Nat)) q e))))), ?_⟩
            exact ⟨NF_149A_150, LF_149A_150, by (try dsimp only) <;> omega, by (try dsimp only) <;> omega, xs⟩
end Qz63
section Qz64
set_option maxRecDepth 10000 in
theorem s_d_tellMan_118 {n : Nat} {l : Int} {F : Nat → Int32} {A : Nat → Nat → Int32} {J : Nat → Nat → Int64} {x2 : Int32} (hF : IFm F) (hA : IAm A) (hl : 0 ≤ l ∧ (F 18).toInt = l ∧ (F 19).toInt = 1 - l) (NFA : NCm F A) (hr : ai A 29 (F 19).toInt < 6) (rx2 : 0 ≤ x2.toInt ∧ x2.toInt ≤ 402) : ok (d_tellMan_118 n F A J x2) (fun r => IFm r.2.1 ∧ IAm r.2.2.1 ∧ (∀ q, q ∉ ([11, 13, 14, 20] : List Nat) → r.2.1 q = F q) ∧ (∀ q, q ∉ ([9, 10, 29] : List Nat) → r.2.2.1 q = A q) ∧ NCm r.2.1 r.2.2.1 ∧ LSm l A r.2.2.1 ∧ (F 15).toInt ≤ 5 * (r.2.1 15).toInt ∧ (F 11).toInt ≤ (r.2.1 11).toInt ∧ (F 13).toInt ≤ 5 * (r.2.1 13).toInt ∧ (1 ≤ (r.2.1 13).toInt ∨ ai r.2.2.1 29 (F 19).toInt = ai A 29 (F 19).toInt + 1)) := by
  have r18 : 0 ≤ (F 18).toInt ∧ (F 18).toInt ≤ 1 := hF 18
  have LFA : LSm l A A := LSm.rfl' l A
  have ct := NFA.2
  unfold CTm at ct
  have g11 : 0 ≤ ai A 11 (F 19).toInt ∧ ai A 11 (F 19).toInt ≤ 8 := hA 11 _ (by have := hF 19; exact this.1)
  have g12 : 0 ≤ ai A 12 (F 19).toInt ∧ ai A 12 (F 19).toInt ≤ 12 := hA 12 _ (by have := hF 19; exact this.1)
  have g17 : 0 ≤ ai A 17 (F 19).toInt ∧ ai A 17 (F 19).toInt ≤ 6 := hA 17 _ (by have := hF 19; exact this.1)
  have g19 : 0 ≤ ai A 19 (F 19).toInt ∧ ai A 19 (F 19).toInt ≤ 6 := hA 19 _ (by have := hF 19; exact this.1)
  have g29 : 0 ≤ ai A 29 (F 19).toInt ∧ ai A 29 (F 19).toInt ≤ 6 := hA 29 _ (by have := hF 19; exact this.1)
  have aFA : ai A 29 (F 19).toInt = ai A 29 (F 19).toInt := rfl
  have r_1 : 0 ≤ (F 11).toInt ∧ (F 11).toInt ≤ 400 := hF 11
  have r_2 : 0 ≤ (F 13).toInt ∧ (F 13).toInt ≤ 5 := hF 13
  have r_3 : 0 ≤ (F 15).toInt ∧ (F 15).toInt ≤ 5 := hF 15
  have r_4 : 0 ≤ (F 18).toInt ∧ (F 18).toInt ≤ 1 := hF 18
  have r_5 : 0 ≤ (F 19).toInt ∧ (F 19).toInt ≤ 1 := hF 19
  have r_6 : 0 ≤ (F 20).toInt ∧ (F 20).toInt ≤ 32 := hF 20
  unfold d_tellMan_118
  refine ok_call (l_d_must hF hA) ?_
  rintro ⟨u_7, F_8, A_9, J_10⟩ ⟨hF_8, hA_9, F_8_o, A_9_o, u_7_p⟩
  dsimp only at hF_8 hA_9 F_8_o A_9_o u_7_p ⊢
  change (F 11).toInt ≤ (F_8 11).toInt ∧ (F 13).toInt ≤ 5 * (F_8 13).toInt at u_7_p
  have r_11 : 0 ≤ (F_8 11).toInt ∧ (F_8 11).toInt ≤ 400 := hF_8 11
  have r_12 : 0 ≤ (F_8 13).toInt ∧ (F_8 13).toInt ≤ 5 := hF_8 13
  have r_13 : 0 ≤ (F_8 15).toInt ∧ (F_8 15).toInt ≤ 5 := hF_8 15
  have f_14 : (F_8 15).toInt = (F 15).toInt := congrArg Int32.toInt (F_8_o 15 (by decide))
  have r_15 : 0 ≤ (F_8 18).toInt ∧ (F_8 18).toInt ≤ 1 := hF_8 18
  have f_16 : (F_8 18).toInt = (F 18).toInt := congrArg Int32.toInt (F_8_o 18 (by decide))
  have r_17 : 0 ≤ (F_8 19).toInt ∧ (F_8 19).toInt ≤ 1 := hF_8 19
  have f_18 : (F_8 19).toInt = (F 19).toInt := congrArg Int32.toInt (F_8_o 19 (by decide))
  have r_19 : 0 ≤ (F_8 20).toInt ∧ (F_8 20).toInt ≤ 32 := hF_8 20
  have f_20 : (F_8 20).toInt = (F 20).toInt := congrArg Int32.toInt (F_8_o 20 (by decide))
  have LF_8A_9 : LSm l A A_9 := LFA.fr _ A_9_o (by decide)
  have NF_8A_9 : NCm F_8 A_9 := NFA.fr0 (F_8_o 19 (by decide)) (F_8_o 20 (by decide)) (fun q hq => A_9_o q (by simp))
  have aF_8A_9 : ai A_9 29 (F_8 19).toInt = ai A 29 (F 19).toInt := by rw [ai_fr (A_9_o 29 (by decide)), F_8_o 19 (by decide)] <;> exact aFA
  have l_21 : (0 : Int32).toInt = 0 := by decide
  refine ok_cond (fun c_22 => ?_) (fun c_22 => ?_)
  · rw [i_le] at c_22
    refine ok_ld (j := 29) hA_9 (by omega) (by omega) ?_
    intro v_23 v_23_e v_23_r
    change 0 ≤ v_23.toInt ∧ v_23.toInt ≤ 6 at v_23_r
    refine ok_call (s_d_notes hF_8 hA_9 (by omega) (by omega) (by omega)) ?_
    rintro ⟨u_24, F_25, A_26, J_27⟩ ⟨hF_25, hA_26, F_25_o, A_26_o, u_24_p⟩
    dsimp only at hF_25 hA_26 F_25_o A_26_o u_24_p ⊢
    change (F_25 20).toInt = (F_8 20).toInt + 1 ∧ ai A_26 9 (F_8 20).toInt = (3 : Int32).toInt ∧ ai A_26 10 (F_8 20).toInt = v_23.toInt ∧ (∀ q, 0 ≤ q → q ≠ (F_8 20).toInt → ai A_26 9 q = ai A_9 9 q ∧ ai A_26 10 q = ai A_9 10 q) at u_24_p
    have r_28 : 0 ≤ (F_25 11).toInt ∧ (F_25 11).toInt ≤ 400 := hF_25 11
    have f_29 : (F_25 11).toInt = (F_8 11).toInt := congrArg Int32.toInt (F_25_o 11 (by decide))
    have r_30 : 0 ≤ (F_25 13).toInt ∧ (F_25 13).toInt ≤ 5 := hF_25 13
    have f_31 : (F_25 13).toInt = (F_8 13).toInt := congrArg Int32.toInt (F_25_o 13 (by decide))
    have r_32 : 0 ≤ (F_25 15).toInt ∧ (F_25 15).toInt ≤ 5 := hF_25 15
    have f_33 : (F_25 15).toInt = (F_8 15).toInt := congrArg Int32.toInt (F_25_o 15 (by decide))
    have r_34 : 0 ≤ (F_25 18).toInt ∧ (F_25 18).toInt ≤ 1 := hF_25 18
    have f_35 : (F_25 18).toInt = (F_8 18).toInt := congrArg Int32.toInt (F_25_o 18 (by decide))
    have r_36 : 0 ≤ (F_25 19).toInt ∧ (F_25 19).toInt ≤ 1 := hF_25 19
    have f_37 : (F_25 19).toInt = (F_8 19).toInt := congrArg Int32.toInt (F_25_o 19 (by decide))
    have r_38 : 0 ≤ (F_25 20).toInt ∧ (F_25 20).toInt ≤ 32 := hF_25 20
    have LF_25A_26 : LSm l A A_26 := LF_8A_9.fr _ A_26_o (by decide)
    have aF_25A_26 : ai A_26 29 (F_25 19).toInt = ai A 29 (F 19).toInt := by rw [ai_fr (A_26_o 29 (by decide)), F_25_o 19 (by decide)] <;> exact aF_8A_9
    refine ok_ld (j := 29) hA_26 (by omega) (by omega) ?_
    intro v_39 v_39_e v_39_r
    change 0 ≤ v_39.toInt ∧ v_39.toInt ≤ 6 at v_39_r
    have l_40 : (1 : Int32).toInt = 1 := by decide
    have e_41 := i_add (x := v_39) (y := 1) (by omega) (by omega)
    refine ok_st (j := 29) hA_26 (by omega) (by omega) (⟨by omega, by omega⟩) ?_
    intro A_42 hA_42 A_42_o A_42_s A_42_n
    have LF_25A_42 : LSm l A A_42 := LF_25A_26.st hl.1 1 rfl A_42_o A_42_n ⟨by omega, by omega⟩ (by omega)
    have e19 : F_25 19 = F_8 19 := F_25_o 19 (by decide)
    have zr : ai A_42 29 (F_8 19).toInt = ai A_9 29 (F_8 19).toInt + 1 := by rw [← e19, A_42_s, ← ai_fr (A_26_o 29 (by decide))]; omega
    have NZ : NCm F_25 A_42 := NCm.add (r := 29) NF_8A_9 (.inr (.inr (.inr ⟨rfl, by decide⟩))) e19 u_24_p A_26_o A_42_o v_23_e zr
    have zz : ai A_42 29 (F 19).toInt = ai A 29 (F 19).toInt + 1 := (congrArg (ai A_42 29) (show (F 19).toInt = (F_25 19).toInt by omega)).trans (A_42_s.trans (by omega))
    refine ok_some ?_
    refine ⟨hF_25, hA_42, (fun q hq => ((F_25_o q (fun e => hq ((by decide : ∀ x, x ∈ ([20] : List Nat) → x ∈ ([11, 13, 14, 20] : List Nat)) q e))).trans (F_8_o q (fun e => hq ((by decide : ∀ x, x ∈ ([11, 13, 14] : List Nat) → x ∈ ([11, 13, 14, 20] : List Nat)) q e))))), (fun q hq => (((A_42_o q (fun e => hq (by rw [e]; decide))).trans (A_26_o q (fun e => hq ((by decide : ∀ x, x ∈ ([9, 10] : List Nat) → x ∈ ([9, 10, 29] : List Nat)) q e)))).trans (A_9_o q (fun e => hq ((by decide : ∀ x, x ∈ ([] : List Nat) → x ∈ ([9, 10, 29] : List Nat)) q e))))), ?_⟩
    first | exact ⟨NZ, LF_25A_42, by (try dsimp only) <;> omega, by (try dsimp only) <;> omega, by (try dsimp only) <;> omega, .inr zz⟩ | exact ⟨NF_25A_42, LF_25A_42, by (try dsimp only) <;> omega, by (try dsimp only) <;> omega, by (try dsimp only) <;> omega, .inl (by (try dsimp only) <;> omega)⟩
  · rw [i_nle] at c_22
    refine ok_some ?_
    refine ⟨hF_8, hA_9, (fun q hq => (F_8_o q (fun e => hq ((by decide : ∀ x, x ∈ ([11, 13, 14] : List Nat) → x ∈ ([11, 13, 14, 20] : List Nat)) q e)))), (fun q hq => (A_9_o q (fun e => hq ((by decide : ∀ x, x ∈ ([] : List Nat) → x ∈ ([9, 10, 29] : List Nat)) q e)))), ?_⟩
    first | exact ⟨NZ, LF_8A_9, by (try dsimp only) <;> omega, by (try dsimp only) <;> omega, by (try dsimp only) <;> omega, .inr zz⟩ | exact ⟨NF_8A_9, LF_8A_9, by (try dsimp only) <;> omega, by (try dsimp only) <;> omega, by (try dsimp only) <;> omega, .inl (by (try dsimp only) <;> omega)⟩
set_option maxRecDepth 10000 in
theorem s_d_tellMan_114 {n : Nat} {l : Int} {F : Nat → Int32} {A : Nat → Nat → Int32} {J : Nat → Nat → Int64} {x2 : Int32} {s1 : Int32} {s3 : Int32} {s4 : Int32} (hF : IFm F) (hA : IAm A) (hl : 0 ≤ l ∧ (F 18).toInt = l ∧ (F 19).toInt = 1 - l) (NFA : NCm F A) (hr : ai A 29 (F 19).toInt < 6) (hi : 6 * (F 19).toInt ≤ s1.toInt ∧ s1.toInt < 6 * (F 19).toInt + 6) (rx2 : 0 ≤ x2.toInt ∧ x2.toInt ≤ 402) (rs3 : 0 ≤ s3.toInt ∧ s3.toInt ≤ 1) (rs4 : -1 ≤ s4.toInt ∧ s4.toInt ≤ 9999) : ok (d_tellMan_114 n F A J x2 s1 s3 s4) (fun r => IFm r.2.1 ∧ IAm r.2.2.1 ∧ (∀ q, q ∉ ([11, 13, 14, 15, 16, 20] : List Nat) → r.2.1 q = F q) ∧ (∀ q, q ∉ ([9, 10, 29, 32] : List Nat) → r.2.2.1 q = A q) ∧ NCm r.2.1 r.2.2.1 ∧ LSm l A r.2.2.1 ∧ (F 15).toInt ≤ 5 * (r.2.1 15).toInt ∧ (F 11).toInt ≤ (r.2.1 11).toInt ∧ (F 13).toInt ≤ 5 * (r.2.1 13).toInt ∧ (1 ≤ (r.2.1 13).toInt ∨ ai r.2.2.1 29 (F 19).toInt = ai A 29 (F 19).toInt + 1) ∧ (∀ i, 0 ≤ i → i ≠ s1.toInt → ai r.2.2.1 32 i = ai A 32 i) ∧ 0 ≤ ai r.2.2.1 32 s1.toInt ∧ ai r.2.2.1 32 s1.toInt ≤ s4.toInt + 1000000 * ((r.2.1 13).toInt + (r.2.1 15).toInt)) := by
  have r18 : 0 ≤ (F 18).toInt ∧ (F 18).toInt ≤ 1 := hF 18
  have LFA : LSm l A A := LSm.rfl' l A
  have ct := NFA.2
  unfold CTm at ct
  have g11 : 0 ≤ ai A 11 (F 19).toInt ∧ ai A 11 (F 19).toInt ≤ 8 := hA 11 _ (by have := hF 19; exact this.1)
  have g12 : 0 ≤ ai A 12 (F 19).toInt ∧ ai A 12 (F 19).toInt ≤ 12 := hA 12 _ (by have := hF 19; exact this.1)
  have g17 : 0 ≤ ai A 17 (F 19).toInt ∧ ai A 17 (F 19).toInt ≤ 6 := hA 17 _ (by have := hF 19; exact this.1)
  have g19 : 0 ≤ ai A 19 (F 19).toInt ∧ ai A 19 (F 19).toInt ≤ 6 := hA 19 _ (by have := hF 19; exact this.1)
  have g29 : 0 ≤ ai A 29 (F 19).toInt ∧ ai A 29 (F 19).toInt ≤ 6 := hA 29 _ (by have := hF 19; exact this.1)
  have aFA : ai A 29 (F 19).toInt = ai A 29 (F 19).toInt := rfl
  have dFA : ∀ i, 0 ≤ i → i ≠ s1.toInt → ai A 32 i = ai A 32 i := fun _ _ _ => rfl
  have r_1 : 0 ≤ (F 11).toInt ∧ (F 11).toInt ≤ 400 := hF 11
  have r_2 : 0 ≤ (F 13).toInt ∧ (F 13).toInt ≤ 5 := hF 13
  have r_3 : 0 ≤ (F 15).toInt ∧ (F 15).toInt ≤ 5 := hF 15
  have r_4 : 0 ≤ (F 18).toInt ∧ (F 18).toInt ≤ 1 := hF 18
  have r_5 : 0 ≤ (F 19).toInt ∧ (F 19).toInt ≤ 1 := hF 19
  have r_6 : 0 ≤ (F 20).toInt ∧ (F 20).toInt ≤ 32 := hF 20
  unfold d_tellMan_114
  refine ok_call (l_d_bounded hF hA (by omega) (by omega)) ?_
  rintro ⟨v_7, F_8, A_9, J_10⟩ ⟨hF_8, hA_9, F_8_o, A_9_o, v_7_p⟩
  dsimp only at hF_8 hA_9 F_8_o A_9_o v_7_p ⊢
  change 0 ≤ v_7.toInt ∧ v_7.toInt ≤ 9999 ∧ s3.toInt ≤ v_7.toInt + 10000 * ((F_8 13).toInt + (F_8 15).toInt) ∧ v_7.toInt ≤ s4.toInt + 20000 * ((F_8 13).toInt + (F_8 15).toInt) ∧ (F 11).toInt ≤ (F_8 11).toInt ∧ (F 13).toInt ≤ 5 * (F_8 13).toInt ∧ (F 15).toInt ≤ 5 * (F_8 15).toInt at v_7_p
  have r_11 : 0 ≤ (F_8 11).toInt ∧ (F_8 11).toInt ≤ 400 := hF_8 11
  have r_12 : 0 ≤ (F_8 13).toInt ∧ (F_8 13).toInt ≤ 5 := hF_8 13
  have r_13 : 0 ≤ (F_8 15).toInt ∧ (F_8 15).toInt ≤ 5 := hF_8 15
  have r_14 : 0 ≤ (F_8 18).toInt ∧ (F_8 18).toInt ≤ 1 := hF_8 18
  have f_15 : (F_8 18).toInt = (F 18).toInt := congrArg Int32.toInt (F_8_o 18 (by decide))
  have r_16 : 0 ≤ (F_8 19).toInt ∧ (F_8 19).toInt ≤ 1 := hF_8 19
  have f_17 : (F_8 19).toInt = (F 19).toInt := congrArg Int32.toInt (F_8_o 19 (by decide))
  have r_18 : 0 ≤ (F_8 20).toInt ∧ (F_8 20).toInt ≤ 32 := hF_8 20
  have f_19 : (F_8 20).toInt = (F 20).toInt := congrArg Int32.toInt (F_8_o 20 (by decide))
  have LF_8A_9 : LSm l A A_9 := LFA.fr _ A_9_o (by decide)
  have NF_8A_9 : NCm F_8 A_9 := NFA.fr0 (F_8_o 19 (by decide)) (F_8_o 20 (by decide)) (fun q hq => A_9_o q (by simp))
  have aF_8A_9 : ai A_9 29 (F_8 19).toInt = ai A 29 (F 19).toInt := by rw [ai_fr (A_9_o 29 (by decide)), F_8_o 19 (by decide)] <;> exact aFA
  have dF_8A_9 : ∀ i, 0 ≤ i → i ≠ s1.toInt → ai A_9 32 i = ai A 32 i := by rw [ai_fr (A_9_o 32 (by decide))] <;> exact dFA
  refine ok_st (j := 32) hA_9 (by omega) (by omega) (trivial) ?_
  intro A_20 hA_20 A_20_o A_20_s A_20_n
  have LF_8A_20 : LSm l A A_20 := LF_8A_9.st hl.1 6 rfl A_20_o A_20_n ⟨by omega, by omega⟩ (by omega)
  have NF_8A_20 : NCm F_8 A_20 := NF_8A_9.fr0 rfl rfl (fun q hq => A_20_o q (by omega))
  have aF_8A_20 : ai A_20 29 (F_8 19).toInt = ai A 29 (F 19).toInt := by rw [ai_fr (A_20_o 29 (by decide))] <;> exact aF_8A_9
  have dF_8A_20 : ∀ i, 0 ≤ i → i ≠ s1.toInt → ai A_20 32 i = ai A 32 i := fun i h0 h1 => (A_20_n i h0 (by omega)).trans (dF_8A_9 i h0 h1)
  have wF_8A_20 : ai A_20 32 (s1.toInt) = v_7.toInt := A_20_s
  refine ok_call (l_d_must hF_8 hA_20) ?_
  rintro ⟨u_21, F_22, A_23, J_24⟩ ⟨hF_22, hA_23, F_22_o, A_23_o, u_21_p⟩
  dsimp only at hF_22 hA_23 F_22_o A_23_o u_21_p ⊢
  change (F_8 11).toInt ≤ (F_22 11).toInt ∧ (F_8 13).toInt ≤ 5 * (F_22 13).toInt at u_21_p
  have r_25 : 0 ≤ (F_22 11).toInt ∧ (F_22 11).toInt ≤ 400 := hF_22 11
  have r_26 : 0 ≤ (F_22 13).toInt ∧ (F_22 13).toInt ≤ 5 := hF_22 13
  have r_27 : 0 ≤ (F_22 15).toInt ∧ (F_22 15).toInt ≤ 5 := hF_22 15
  have f_28 : (F_22 15).toInt = (F_8 15).toInt := congrArg Int32.toInt (F_22_o 15 (by decide))
  have r_29 : 0 ≤ (F_22 18).toInt ∧ (F_22 18).toInt ≤ 1 := hF_22 18
  have f_30 : (F_22 18).toInt = (F_8 18).toInt := congrArg Int32.toInt (F_22_o 18 (by decide))
  have r_31 : 0 ≤ (F_22 19).toInt ∧ (F_22 19).toInt ≤ 1 := hF_22 19
  have f_32 : (F_22 19).toInt = (F_8 19).toInt := congrArg Int32.toInt (F_22_o 19 (by decide))
  have r_33 : 0 ≤ (F_22 20).toInt ∧ (F_22 20).toInt ≤ 32 := hF_22 20
  have f_34 : (F_22 20).toInt = (F_8 20).toInt := congrArg Int32.toInt (F_22_o 20 (by decide))
  have LF_22A_23 : LSm l A A_23 := LF_8A_20.fr _ A_23_o (by decide)
  have NF_22A_23 : NCm F_22 A_23 := NF_8A_20.fr0 (F_22_o 19 (by decide)) (F_22_o 20 (by decide)) (fun q hq => A_23_o q (by simp))
  have aF_22A_23 : ai A_23 29 (F_22 19).toInt = ai A 29 (F 19).toInt := by rw [ai_fr (A_23_o 29 (by decide)), F_22_o 19 (by decide)] <;> exact aF_8A_20
  have dF_22A_23 : ∀ i, 0 ≤ i → i ≠ s1.toInt → ai A_23 32 i = ai A 32 i := by rw [ai_fr (A_23_o 32 (by decide))] <;> exact dF_8A_20
  have wF_22A_23 : ai A_23 32 (s1.toInt) = v_7.toInt := by rw [ai_fr (A_23_o 32 (by decide))] <;> exact wF_8A_20
  have l_35 : (0 : Int32).toInt = 0 := by decide
  refine ok_cond (fun c_36 => ?_) (fun c_36 => ?_)
  · rw [i_le] at c_36
    refine ok_ld (j := 29) hA_23 (by omega) (by omega) ?_
    intro v_37 v_37_e v_37_r
    change 0 ≤ v_37.toInt ∧ v_37.toInt ≤ 6 at v_37_r
    refine ok_call (s_d_notes hF_22 hA_23 (by omega) (by omega) (by omega)) ?_
    rintro ⟨u_38, F_39, A_40, J_41⟩ ⟨hF_39, hA_40, F_39_o, A_40_o, u_38_p⟩
    dsimp only at hF_39 hA_40 F_39_o A_40_o u_38_p ⊢
    change (F_39 20).toInt = (F_22 20).toInt + 1 ∧ ai A_40 9 (F_22 20).toInt = (3 : Int32).toInt ∧ ai A_40 10 (F_22 20).toInt = v_37.toInt ∧ (∀ q, 0 ≤ q → q ≠ (F_22 20).toInt → ai A_40 9 q = ai A_23 9 q ∧ ai A_40 10 q = ai A_23 10 q) at u_38_p
    have r_42 : 0 ≤ (F_39 11).toInt ∧ (F_39 11).toInt ≤ 400 := hF_39 11
    have f_43 : (F_39 11).toInt = (F_22 11).toInt := congrArg Int32.toInt (F_39_o 11 (by decide))
    have r_44 : 0 ≤ (F_39 13).toInt ∧ (F_39 13).toInt ≤ 5 := hF_39 13
    have f_45 : (F_39 13).toInt = (F_22 13).toInt := congrArg Int32.toInt (F_39_o 13 (by decide))
    have r_46 : 0 ≤ (F_39 15).toInt ∧ (F_39 15).toInt ≤ 5 := hF_39 15
    have f_47 : (F_39 15).toInt = (F_22 15).toInt := congrArg Int32.toInt (F_39_o 15 (by decide))
    have r_48 : 0 ≤ (F_39 18).toInt ∧ (F_39 18).toInt ≤ 1 := hF_39 18
    have f_49 : (F_39 18).toInt = (F_22 18).toInt := congrArg Int32.toInt (F_39_o 18 (by decide))
    have r_50 : 0 ≤ (F_39 19).toInt ∧ (F_39 19).toInt ≤ 1 := hF_39 19
    have f_51 : (F_39 19).toInt = (F_22 19).toInt := congrArg Int32.toInt (F_39_o 19 (by decide))
    have r_52 : 0 ≤ (F_39 20).toInt ∧ (F_39 20).toInt ≤ 32 := hF_39 20
    have LF_39A_40 : LSm l A A_40 := LF_22A_23.fr _ A_40_o (by decide)
    have aF_39A_40 : ai A_40 29 (F_39 19).toInt = ai A 29 (F 19).toInt := by rw [ai_fr (A_40_o 29 (by decide)), F_39_o 19 (by decide)] <;> exact aF_22A_23
    have dF_39A_40 : ∀ i, 0 ≤ i → i ≠ s1.toInt → ai A_40 32 i = ai A 32 i := by rw [ai_fr (A_40_o 32 (by decide))] <;> exact dF_22A_23
    have wF_39A_40 : ai A_40 32 (s1.toInt) = v_7.toInt := by rw [ai_fr (A_40_o 32 (by decide))] <;> exact wF_22A_23
    refine ok_ld (j := 29) hA_40 (by omega) (by omega) ?_
    intro v_53 v_53_e v_53_r
    change 0 ≤ v_53.toInt ∧ v_53.toInt ≤ 6 at v_53_r
    have l_54 : (1 : Int32).toInt = 1 := by decide
    have e_55 := i_add (x := v_53) (y := 1) (by omega) (by omega)
    refine ok_st (j := 29) hA_40 (by omega) (by omega) (⟨by omega, by omega⟩) ?_
    intro A_56 hA_56 A_56_o A_56_s A_56_n
    have LF_39A_56 : LSm l A A_56 := LF_39A_40.st hl.1 1 rfl A_56_o A_56_n ⟨by omega, by omega⟩ (by omega)
    have dF_39A_56 : ∀ i, 0 ≤ i → i ≠ s1.toInt → ai A_56 32 i = ai A 32 i := by rw [ai_fr (A_56_o 32 (by decide))] <;> exact dF_39A_40
    have wF_39A_56 : ai A_56 32 (s1.toInt) = v_7.toInt := by rw [ai_fr (A_56_o 32 (by decide))] <;> exact wF_39A_40
    have e19 : F_39 19 = F_22 19 := F_39_o 19 (by decide)
    have zr : ai A_56 29 (F_22 19).toInt = ai A_23 29 (F_22 19).toInt + 1 := by rw [← e19, A_56_s, ← ai_fr (A_40_o 29 (by decide))]; omega
    have NZ : NCm F_39 A_56 := NCm.add (r := 29) NF_22A_23 (.inr (.inr (.inr ⟨rfl, by decide⟩))) e19 u_38_p A_40_o A_56_o v_37_e zr
    have zz : ai A_56 29 (F 19).toInt = ai A 29 (F 19).toInt + 1 := (congrArg (ai A_56 29) (show (F 19).toInt = (F_39 19).toInt by omega)).trans (A_56_s.trans (by omega))
    refine ok_some ?_
    refine ⟨hF_39, hA_56, (fun q hq => (((F_39_o q (fun e => hq ((by decide : ∀ x, x ∈ ([20] : List Nat) → x ∈ ([11, 13, 14, 15, 16, 20] : List Nat)) q e))).trans (F_22_o q (fun e => hq ((by decide : ∀ x, x ∈ ([11, 13, 14] : List Nat) → x ∈ ([11, 13, 14, 15, 16, 20] : List Nat)) q e)))).trans (F_8_o q (fun e => hq ((by decide : ∀ x, x ∈ ([11, 13, 14, 15, 16] : List Nat) → x ∈ ([11, 13, 14, 15, 16, 20] : List Nat)) q e))))), (fun q hq => (((((A_56_o q (fun e => hq (by rw [e]; decide))).trans (A_40_o q (fun e => hq ((by decide : ∀ x, x ∈ ([9, 10] : List Nat) → x ∈ ([9, 10, 29, 32] : List Nat)) q e)))).trans (A_23_o q (fun e => hq ((by decide : ∀ x, x ∈ ([] : List Nat) → x ∈ ([9, 10, 29, 32] : List Nat)) q e)))).trans (A_20_o q (fun e => hq (by rw [e]; decide)))).trans (A_9_o q (fun e => hq ((by decide : ∀ x, x ∈ ([] : List Nat) → x ∈ ([9, 10, 29, 32] : List Nat)) q e))))), ?_⟩
    first | exact ⟨NZ, LF_39A_56, by (try dsimp only) <;> omega, by (try dsimp only) <;> omega, by (try dsimp only) <;> omega, .inr zz, dF_39A_56, by rw [wF_39A_56]; omega, by rw [wF_39A_56]; dsimp only; omega⟩ | exact ⟨NF_39A_56, LF_39A_56, by (try dsimp only) <;> omega, by (try dsimp only) <;> omega, by (try dsimp only) <;> omega, .inl (by (try dsimp only) <;> omega), dF_39A_56, by rw [wF_39A_56]; omega, by rw [wF_39A_56]; dsimp only; omega⟩
  · rw [i_nle] at c_36
    refine ok_some ?_
    refine ⟨hF_22, hA_23, (fun q hq => ((F_22_o q (fun e => hq ((by decide : ∀ x, x ∈ ([11, 13, 14] : List Nat) → x ∈ ([11, 13, 14, 15, 16, 20] : List Nat)) q e))).trans (F_8_o q (fun e => hq ((by decide : ∀ x, x ∈ ([11, 13, 14, 15, 16] : List Nat) → x ∈ ([11, 13, 14, 15, 16, 20] : List Nat)) q e))))), (fun q hq => (((A_23_o q (fun e => hq ((by decide : ∀ x, x ∈ ([] : List Nat) → x ∈ ([9, 10, 29, 32] : List Nat)) q e))).trans (A_20_o q (fun e => hq (by rw [e]; decide)))).trans (A_9_o q (fun e => hq ((by decide : ∀ x, x ∈ ([] : List Nat) → x ∈ ([9, 10, 29, 32] : List Nat)) q e))))), ?_⟩
    first | exact ⟨NZ, LF_22A_23, by (try dsimp only) <;> omega, by (try dsimp only) <;> omega, by (try dsimp only) <;> omega, .inr zz, dF_22A_23, by rw [wF_22A_23]; omega, by rw [wF_22A_23]; dsimp only; omega⟩ | exact ⟨NF_22A_23, LF_22A_23, by (try dsimp only) <;> omega, by (try dsimp only) <;> omega, by (try dsimp only) <;> omega, .inl (by (try dsimp only) <;> omega), dF_22A_23, by rw [wF_22A_23]; omega, by rw [wF_22A_23]; dsimp only; omega⟩
end Qz64
