theorem l_d_must {F : Nat → Int32} {A : Nat → Nat → Int32} {J : Nat → Nat → Int64} {x1 : Int32} (hF : IFm F) (hA : IAm A)  : ok (d_must F A J x1) (fun r => IFm r.2.1 ∧ IAm r.2.2.1 ∧ (∀ q, q ∉ ([11, 13, 14] : List Nat) → r.2.1 q = F q) ∧ (∀ q, q ∉ ([] : List Nat) → r.2.2.1 q = A q) ∧ (F 11).toInt ≤ (r.2.1 11).toInt ∧ (F 13).toInt ≤ 5 * (r.2.1 13).toInt) := by
  have a13 : 0 ≤ (F 13).toInt ∧ (F 13).toInt ≤ 5 := hF 13
  have a15 : 0 ≤ (F 15).toInt ∧ (F 15).toInt ≤ 5 := hF 15
  refine ok_mono (s_d_must hF hA ) ?_
  rintro ⟨v, F2, A2, J2⟩ ⟨h1, h2, h3, h4, h5⟩
  dsimp only at h1 h2 h3 h4 h5 ⊢
  have b13 : 0 ≤ (F2 13).toInt ∧ (F2 13).toInt ≤ 5 := h1 13
  have b15 : 0 ≤ (F2 15).toInt ∧ (F2 15).toInt ≤ 5 := h1 15
  exact ⟨h1, h2, h3, h4, by omega, by omega⟩
theorem l_d_goesOn {F : Nat → Int32} {A : Nat → Nat → Int32} {J : Nat → Nat → Int64}  (hF : IFm F) (hA : IAm A)  : ok (d_goesOn F A J) (fun r => IFm r.2.1 ∧ IAm r.2.2.1 ∧ (∀ q, q ∉ ([11, 13, 14] : List Nat) → r.2.1 q = F q) ∧ (∀ q, q ∉ ([] : List Nat) → r.2.2.1 q = A q) ∧ (F 11).toInt ≤ (r.2.1 11).toInt ∧ (F 13).toInt ≤ 5 * (r.2.1 13).toInt) := by
  have a13 : 0 ≤ (F 13).toInt ∧ (F 13).toInt ≤ 5 := hF 13
  have a15 : 0 ≤ (F 15).toInt ∧ (F 15).toInt ≤ 5 := hF 15
  refine ok_mono (s_d_goesOn hF hA ) ?_
  rintro ⟨v, F2, A2, J2⟩ ⟨h1, h2, h3, h4, h5⟩
  dsimp only at h1 h2 h3 h4 h5 ⊢
  have b13 : 0 ≤ (F2 13).toInt ∧ (F2 13).toInt ≤ 5 := h1 13
  have b15 : 0 ≤ (F2 15).toInt ∧ (F2 15).toInt ≤ 5 := h1 15
  exact ⟨h1, h2, h3, h4, by omega, by omega⟩
theorem l_d_failAt {F : Nat → Int32} {A : Nat → Nat → Int32} {J : Nat → Nat → Int64} {x1 : Int32} {x2 : Int32} (hF : IFm F) (hA : IAm A) (rx1 : 1 ≤ x1.toInt ∧ x1.toInt ≤ 5) (rx2 : 0 ≤ x2.toInt ∧ x2.toInt ≤ 402) : ok (d_failAt F A J x1 x2) (fun r => IFm r.2.1 ∧ IAm r.2.2.1 ∧ (∀ q, q ∉ ([13, 14] : List Nat) → r.2.1 q = F q) ∧ (∀ q, q ∉ ([] : List Nat) → r.2.2.1 q = A q) ∧ 1 ≤ (r.2.1 13).toInt ∧ (F 13).toInt ≤ 5 * (r.2.1 13).toInt) := by
  have a13 : 0 ≤ (F 13).toInt ∧ (F 13).toInt ≤ 5 := hF 13
  have a15 : 0 ≤ (F 15).toInt ∧ (F 15).toInt ≤ 5 := hF 15
  refine ok_mono (s_d_failAt hF hA rx1 rx2) ?_
  rintro ⟨v, F2, A2, J2⟩ ⟨h1, h2, h3, h4, h5⟩
  dsimp only at h1 h2 h3 h4 h5 ⊢
  have b13 : 0 ≤ (F2 13).toInt ∧ (F2 13).toInt ≤ 5 := h1 13
  have b15 : 0 ≤ (F2 15).toInt ∧ (F2 15).toInt ≤ 5 := h1 15
  exact ⟨h1, h2, h3, h4, by omega, by omega⟩
theorem l_d_wrong {F : Nat → Int32} {A : Nat → Nat → Int32} {J : Nat → Nat → Int64} {x1 : Int32} {x2 : Int32} (hF : IFm F) (hA : IAm A) (rx1 : 3 ≤ x1.toInt ∧ x1.toInt ≤ 5) (rx2 : 0 ≤ x2.toInt ∧ x2.toInt ≤ 402) : ok (d_wrong F A J x1 x2) (fun r => IFm r.2.1 ∧ IAm r.2.2.1 ∧ (∀ q, q ∉ ([15, 16] : List Nat) → r.2.1 q = F q) ∧ (∀ q, q ∉ ([] : List Nat) → r.2.2.1 q = A q) ∧ 1 ≤ (F 13).toInt + (r.2.1 15).toInt ∧ (F 15).toInt ≤ 5 * (r.2.1 15).toInt) := by
  have a13 : 0 ≤ (F 13).toInt ∧ (F 13).toInt ≤ 5 := hF 13
  have a15 : 0 ≤ (F 15).toInt ∧ (F 15).toInt ≤ 5 := hF 15
  refine ok_mono (s_d_wrong hF hA rx1 rx2) ?_
  rintro ⟨v, F2, A2, J2⟩ ⟨h1, h2, h3, h4, h5⟩
  dsimp only at h1 h2 h3 h4 h5 ⊢
  have b13 : 0 ≤ (F2 13).toInt ∧ (F2 13).toInt ≤ 5 := h1 13
  have b15 : 0 ≤ (F2 15).toInt ∧ (F2 15).toInt ≤ 5 := h1 15
  exact ⟨h1, h2, h3, h4, by omega, by omega⟩
theorem l_d_named {n : Nat} {F : Nat → Int32} {A : Nat → Nat → Int32} {J : Nat → Nat → Int64}  (hF : IFm F) (hA : IAm A) (hn : 40 ≤ n) : ok (d_named n F A J) (fun r => IFm r.2.1 ∧ IAm r.2.2.1 ∧ (∀ q, q ∉ ([11, 13, 14, 15, 16] : List Nat) → r.2.1 q = F q) ∧ (∀ q, q ∉ ([] : List Nat) → r.2.2.1 q = A q) ∧ r.1 = F 11 ∧ (F 11).toInt ≤ (r.2.1 11).toInt ∧ (F 13).toInt ≤ 5 * (r.2.1 13).toInt ∧ (F 15).toInt ≤ 5 * (r.2.1 15).toInt) := by
  have a13 : 0 ≤ (F 13).toInt ∧ (F 13).toInt ≤ 5 := hF 13
  have a15 : 0 ≤ (F 15).toInt ∧ (F 15).toInt ≤ 5 := hF 15
  refine ok_mono (s_d_named hF hA hn) ?_
  rintro ⟨v, F2, A2, J2⟩ ⟨h1, h2, h3, h4, h5⟩
  dsimp only at h1 h2 h3 h4 h5 ⊢
  have b13 : 0 ≤ (F2 13).toInt ∧ (F2 13).toInt ≤ 5 := h1 13
  have b15 : 0 ≤ (F2 15).toInt ∧ (F2 15).toInt ≤ 5 := h1 15
  exact ⟨h1, h2, h3, h4, h5.1, by omega, by omega, by omega⟩
theorem l_d_known {n : Nat} {F : Nat → Int32} {A : Nat → Nat → Int32} {J : Nat → Nat → Int64} {x1 : Int32} (hF : IFm F) (hA : IAm A) (hn : 40 ≤ n) (N : NMm F A) (rx1 : 0 ≤ x1.toInt ∧ x1.toInt ≤ 3) : ok (d_known n F A J x1) (fun r => IFm r.2.1 ∧ IAm r.2.2.1 ∧ (∀ q, q ∉ ([11, 13, 14, 15, 16] : List Nat) → r.2.1 q = F q) ∧ (∀ q, q ∉ ([] : List Nat) → r.2.2.1 q = A q) ∧ -1 ≤ r.1.toInt ∧ r.1.toInt ≤ 7 ∧ 0 ≤ r.1.toInt + (r.2.1 13).toInt + (r.2.1 15).toInt ∧ (F 11).toInt ≤ (r.2.1 11).toInt ∧ (F 13).toInt ≤ 5 * (r.2.1 13).toInt ∧ (F 15).toInt ≤ 5 * (r.2.1 15).toInt ∧ (x1.toInt = 0 → r.1.toInt < ai A 11 (F 19).toInt) ∧ (x1.toInt = 1 → r.1.toInt < ai A 17 (F 19).toInt) ∧ (x1.toInt = 2 → r.1.toInt < ai A 19 (F 19).toInt) ∧ (x1.toInt = 3 → r.1.toInt < ai A 29 (F 19).toInt)) := by
  have a13 : 0 ≤ (F 13).toInt ∧ (F 13).toInt ≤ 5 := hF 13
  have a15 : 0 ≤ (F 15).toInt ∧ (F 15).toInt ≤ 5 := hF 15
  refine ok_mono (s_d_known hF hA hn N rx1) ?_
  rintro ⟨v, F2, A2, J2⟩ ⟨h1, h2, h3, h4, h5⟩
  dsimp only at h1 h2 h3 h4 h5 ⊢
  have b13 : 0 ≤ (F2 13).toInt ∧ (F2 13).toInt ≤ 5 := h1 13
  have b15 : 0 ≤ (F2 15).toInt ∧ (F2 15).toInt ≤ 5 := h1 15
  have g1 : 0 ≤ ai A 11 (F 19).toInt := (show 0 ≤ ai A 11 (F 19).toInt ∧ ai A 11 (F 19).toInt ≤ 8 from hA 11 _ (show 0 ≤ (F 19).toInt ∧ (F 19).toInt ≤ 1 from hF 19).1).1
  have g2 : 0 ≤ ai A 17 (F 19).toInt := (show 0 ≤ ai A 17 (F 19).toInt ∧ ai A 17 (F 19).toInt ≤ 6 from hA 17 _ (show 0 ≤ (F 19).toInt ∧ (F 19).toInt ≤ 1 from hF 19).1).1
  have g3 : 0 ≤ ai A 19 (F 19).toInt := (show 0 ≤ ai A 19 (F 19).toInt ∧ ai A 19 (F 19).toInt ≤ 6 from hA 19 _ (show 0 ≤ (F 19).toInt ∧ (F 19).toInt ≤ 1 from hF 19).1).1
  have g4 : 0 ≤ ai A 29 (F 19).toInt := (show 0 ≤ ai A 29 (F 19).toInt ∧ ai A 29 (F 19).toInt ≤ 6 from hA 29 _ (show 0 ≤ (F 19).toInt ∧ (F 19).toInt ≤ 1 from hF 19).1).1
  exact ⟨h1, h2, h3, h4, by omega, by omega, by omega, by omega, by omega, by omega, fun e => by omega, fun e => by omega, fun e => by omega, fun e => by omega⟩
theorem l_d_bounded {F : Nat → Int32} {A : Nat → Nat → Int32} {J : Nat → Nat → Int64} {x1 : Int32} {x2 : Int32} (hF : IFm F) (hA : IAm A) (rx1 : 0 ≤ x1.toInt ∧ x1.toInt ≤ 1) (rx2 : -1 ≤ x2.toInt ∧ x2.toInt ≤ 9999) : ok (d_bounded F A J x1 x2) (fun r => IFm r.2.1 ∧ IAm r.2.2.1 ∧ (∀ q, q ∉ ([11, 13, 14, 15, 16] : List Nat) → r.2.1 q = F q) ∧ (∀ q, q ∉ ([] : List Nat) → r.2.2.1 q = A q) ∧ 0 ≤ r.1.toInt ∧ r.1.toInt ≤ 9999 ∧ x1.toInt ≤ r.1.toInt + 10000 * ((r.2.1 13).toInt + (r.2.1 15).toInt) ∧ r.1.toInt ≤ x2.toInt + 20000 * ((r.2.1 13).toInt + (r.2.1 15).toInt) ∧ (F 11).toInt ≤ (r.2.1 11).toInt ∧ (F 13).toInt ≤ 5 * (r.2.1 13).toInt ∧ (F 15).toInt ≤ 5 * (r.2.1 15).toInt) := by
  have a13 : 0 ≤ (F 13).toInt ∧ (F 13).toInt ≤ 5 := hF 13
  have a15 : 0 ≤ (F 15).toInt ∧ (F 15).toInt ≤ 5 := hF 15
  refine ok_mono (s_d_bounded hF hA rx1) ?_
  rintro ⟨v, F2, A2, J2⟩ ⟨h1, h2, h3, h4, h5⟩
  dsimp only at h1 h2 h3 h4 h5 ⊢
  have b13 : 0 ≤ (F2 13).toInt ∧ (F2 13).toInt ≤ 5 := h1 13
  have b15 : 0 ≤ (F2 15).toInt ∧ (F2 15).toInt ≤ 5 := h1 15
  exact ⟨h1, h2, h3, h4, by omega, by omega, by omega, by omega, by omega, by omega, by omega⟩
theorem l_d_is {F : Nat → Int32} {A : Nat → Nat → Int32} {J : Nat → Nat → Int64} {x1 : Int32} (hF : IFm F) (hA : IAm A) : ok (d_is F A J x1) (fun v => 0 ≤ v.toInt ∧ v.toInt ≤ 1) := ok_mono (s_d_is hF hA) (fun v h => ⟨by omega, by omega⟩)
