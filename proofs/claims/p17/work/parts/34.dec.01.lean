/-! the reference's methods as functions (printed by wip/dec.py) -/
section MD
variable {t : gT} {lg : Nat → Nat} {d : Nat} {c : Nat × Nat} {B : Nat → List gE} {F : Nat → Int32} {A : Nat → Nat → Int32} {J : Nat → Nat → Int64}
/-- SleepWorkModel.tellRoom()V -/
def d_tellRoom (n : Nat) (F : Nat → Int32) (A : Nat → Nat → Int32) (J : Nat → Nat → Int64) : Option (Unit × (Nat → Int32) × (Nat → Nat → Int32) × (Nat → Nat → Int64)) :=
  (d_named n F A J).bind fun (v1, F2, A3, J4) =>
  (d_must F2 A3 J4 4).bind fun (_, F6, A7, J8) =>
  cond (g_cnd .le (F6 13) 0)
  ((m_ld (A7 11) 2 (F6 19)).bind fun v10 =>
  (d_notes F6 A7 J8 v1 0 v10).bind fun (_, F12, A13, J14) =>
  (m_ld (A13 11) 2 (F12 19)).bind fun v15 =>
  (m_st A13 11 2 (F12 19) (v15 + 1)).bind fun A16 =>
  some ((), F12, A16, J14))
  (some ((), F6, A7, J8))
theorem t_d_tellRoom (ht : ∀ k, t.1 12 k = k_ty 12 k) {n : Nat} {r : Unit} {F' : Nat → Int32} {A' : Nat → Nat → Int32} {J' : Nat → Nat → Int64} : d_tellRoom n F A J = some (r, F', A', J') → k_run t lg (d + 4) 164 0 [(0, .ref 40960)] [] (m_h c B F A J) (none, m_h c B F' A' J') := by
  intro hD
  unfold d_tellRoom at hD
  refine k_runB (pc' := 1) (loc' := [(0, .ref 40960)]) (st' := [.ref 40960]) 1 rfl ?_
  obtain ⟨⟨v1, F2, A3, J4⟩, hv1, hD⟩ := Option.bind_eq_some_iff.mp hD
  dsimp only at hD
  refine k_runC rfl rfl rfl rfl (t_d_named (d := d) ht hv1) ?_
  refine k_runB (pc' := 7) (loc' := [(0, .ref 40960), (1, .int v1)]) (st' := [.int 4, .ref 40960]) 3 rfl ?_
  obtain ⟨⟨v5, F6, A7, J8⟩, hv5, hD⟩ := Option.bind_eq_some_iff.mp hD
  dsimp only at hD
  refine k_runC rfl rfl rfl rfl (t_d_must (d := d + 1) ht hv5) ?_
  refine k_runB (pc' := 14) (loc' := [(0, .ref 40960), (1, .int v1)]) (st' := [.int (F6 13)]) 2 rfl ?_
  refine k_if rfl (fun c14_8 => ?_) (fun c14_8 => ?_)
  · rw [c14_8, cond_true] at hD
    refine k_runB (pc' := 29) (loc' := [(0, .ref 40960), (1, .int v1)]) (st' := [.int (F6 19), .ref 40971, .int 0, .int v1, .ref 40960]) 7 rfl ?_
    obtain ⟨v10, hv10, hD⟩ := Option.bind_eq_some_iff.mp hD
    refine k_ldI rfl rfl hv10 ?_
    obtain ⟨⟨v11, F12, A13, J14⟩, hv11, hD⟩ := Option.bind_eq_some_iff.mp hD
    dsimp only at hD
    refine k_runC rfl rfl rfl rfl (t_d_notes (d := d + 3) ht hv11) ?_
    refine k_runB (pc' := 42) (loc' := [(0, .ref 40960), (1, .int v1)]) (st' := [.int (F12 19), .ref 40971, .int (F12 19), .ref 40971]) 5 rfl ?_
    obtain ⟨v15, hv15, hD⟩ := Option.bind_eq_some_iff.mp hD
    refine k_ldI rfl rfl hv15 ?_
    refine k_runB (pc' := 45) (loc' := [(0, .ref 40960), (1, .int v1)]) (st' := [.int (v15 + 1), .int (F12 19), .ref 40971]) 2 rfl ?_
    obtain ⟨A16, hA16, hD⟩ := Option.bind_eq_some_iff.mp hD
    refine k_stI 11 rfl rfl (fun _ => rfl) hA16 ?_
    cases hD
    exact k_vret rfl rfl
  · rw [c14_8, cond_false] at hD
    cases hD
    exact k_vret rfl rfl
def d_tellDoor_135 (n : Nat) (F : Nat → Int32) (A : Nat → Nat → Int32) (J : Nat → Nat → Int64) : Option (Unit × (Nat → Int32) × (Nat → Nat → Int32) × (Nat → Nat → Int64)) :=
    (d_must F A J 4).bind fun (_, F53, A54, J55) =>
    cond (g_cnd .ne (F53 13) 0)
    (some ((), F53, A54, J55))
    ((m_ld (A54 12) 2 (F53 19)).bind fun v57 =>
    (m_st A54 12 2 (F53 19) (v57 + 1)).bind fun A58 =>
    some ((), F53, A58, J55))
theorem t_d_tellDoor_135 (ht : ∀ k, t.1 12 k = k_ty 12 k) {n : Nat}  {F : Nat → Int32} {A : Nat → Nat → Int32} {J : Nat → Nat → Int64}  {w : Unit × (Nat → Int32) × (Nat → Nat → Int32) × (Nat → Nat → Int64)} : d_tellDoor_135 n F A J = some w → k_run t lg (d + 4) 165 135 [(0, .ref 40960)] [] (m_h c B F A J) (none, m_h c B w.2.1 w.2.2.1 w.2.2.2) := by
  intro hD
  unfold d_tellDoor_135 at hD
  refine k_runB (pc' := 137) (loc' := [(0, .ref 40960)]) (st' := [.int 4, .ref 40960]) 2 rfl ?_
  obtain ⟨⟨v52, F53, A54, J55⟩, hv52, hD⟩ := Option.bind_eq_some_iff.mp hD
  dsimp only at hD
  refine k_runC rfl rfl rfl rfl (t_d_must (d := d + 1) ht hv52) ?_
  refine k_runB (pc' := 144) (loc' := [(0, .ref 40960)]) (st' := [.int (F53 13)]) 2 rfl ?_
  refine k_if rfl (fun c144_55 => ?_) (fun c144_55 => ?_)
  · rw [c144_55, cond_true] at hD
    cases hD
    exact k_vret rfl rfl
  · rw [c144_55, cond_false] at hD
    refine k_runB (pc' := 156) (loc' := [(0, .ref 40960)]) (st' := [.int (F53 19), .ref 40972, .int (F53 19), .ref 40972]) 5 rfl ?_
    obtain ⟨v57, hv57, hD⟩ := Option.bind_eq_some_iff.mp hD
    refine k_ldI rfl rfl hv57 ?_
    refine k_runB (pc' := 159) (loc' := [(0, .ref 40960)]) (st' := [.int (v57 + 1), .int (F53 19), .ref 40972]) 2 rfl ?_
    obtain ⟨A58, hA58, hD⟩ := Option.bind_eq_some_iff.mp hD
    refine k_stI 12 rfl rfl (fun _ => rfl) hA58 ?_
    cases hD
    exact k_vret rfl rfl
def d_tellDoor_121 (n : Nat) (F : Nat → Int32) (A : Nat → Nat → Int32) (J : Nat → Nat → Int64) (x1 : Int32) (s1 : Int32) (s2 : Int32) : Option (Unit × (Nat → Int32) × (Nat → Nat → Int32) × (Nat → Nat → Int64)) :=
    (m_st A 16 24 s1 (vp_nar .boolean s2)).bind fun A38 =>
    (m_ld (A38 16) 24 x1).bind fun v39 =>
    cond (g_cnd .eq v39 0)
    (d_tellDoor_135 n F A38 J)
    ((d_goesOn F A38 J).bind fun (_, F42, A43, J44) =>
    (d_must F42 A43 J44 4).bind fun (_, F46, A47, J48) =>
    cond (g_cnd .ne (F46 13) 0)
    (some ((), F46, A47, J48))
    ((m_ld (A47 12) 2 (F46 19)).bind fun v50 =>
    (m_st A47 12 2 (F46 19) (v50 + 1)).bind fun A51 =>
    some ((), F46, A51, J48)))
theorem t_d_tellDoor_121 (ht : ∀ k, t.1 12 k = k_ty 12 k) {n : Nat}  {F : Nat → Int32} {A : Nat → Nat → Int32} {J : Nat → Nat → Int64} {x1 : Int32} {s1 : Int32} {s2 : Int32} {w : Unit × (Nat → Int32) × (Nat → Nat → Int32) × (Nat → Nat → Int64)} : d_tellDoor_121 n F A J x1 s1 s2 = some w → k_run t lg (d + 4) 165 121 [(0, .ref 40960), (1, .int x1)] [.int s2, .int s1, .ref 40976] (m_h c B F A J) (none, m_h c B w.2.1 w.2.2.1 w.2.2.2) := by
  intro hD
  unfold d_tellDoor_121 at hD
  obtain ⟨A38, hA38, hD⟩ := Option.bind_eq_some_iff.mp hD
  refine k_stZ 16 rfl rfl (fun _ => rfl) hA38 ?_
  refine k_runB (pc' := 127) (loc' := [(0, .ref 40960), (1, .int x1)]) (st' := [.int x1, .ref 40976]) 3 rfl ?_
  obtain ⟨v39, hv39, hD⟩ := Option.bind_eq_some_iff.mp hD
  refine k_ldZ rfl rfl hv39 ?_
  refine k_if rfl (fun c128_39 => ?_) (fun c128_39 => ?_)
  · rw [c128_39, cond_true] at hD
    refine k_wk [0] (loc' := [(0, .ref 40960)]) rfl rfl ?_
    exact t_d_tellDoor_135 ht  hD
  · rw [c128_39, cond_false] at hD
    refine k_runB (pc' := 132) (loc' := [(0, .ref 40960), (1, .int x1)]) (st' := [.ref 40960]) 1 rfl ?_
    obtain ⟨⟨v41, F42, A43, J44⟩, hv41, hD⟩ := Option.bind_eq_some_iff.mp hD
    dsimp only at hD
    refine k_runC rfl rfl rfl rfl (t_d_goesOn (d := d + 2) ht hv41) ?_
    refine k_runB (pc' := 137) (loc' := [(0, .ref 40960), (1, .int x1)]) (st' := [.int 4, .ref 40960]) 2 rfl ?_
    obtain ⟨⟨v45, F46, A47, J48⟩, hv45, hD⟩ := Option.bind_eq_some_iff.mp hD
    dsimp only at hD
    refine k_runC rfl rfl rfl rfl (t_d_must (d := d + 1) ht hv45) ?_
    refine k_runB (pc' := 144) (loc' := [(0, .ref 40960), (1, .int x1)]) (st' := [.int (F46 13)]) 2 rfl ?_
    refine k_if rfl (fun c144_48 => ?_) (fun c144_48 => ?_)
    · rw [c144_48, cond_true] at hD
      cases hD
      exact k_vret rfl rfl
    · rw [c144_48, cond_false] at hD
      refine k_runB (pc' := 156) (loc' := [(0, .ref 40960), (1, .int x1)]) (st' := [.int (F46 19), .ref 40972, .int (F46 19), .ref 40972]) 5 rfl ?_
      obtain ⟨v50, hv50, hD⟩ := Option.bind_eq_some_iff.mp hD
      refine k_ldI rfl rfl hv50 ?_
      refine k_runB (pc' := 159) (loc' := [(0, .ref 40960), (1, .int x1)]) (st' := [.int (v50 + 1), .int (F46 19), .ref 40972]) 2 rfl ?_
      obtain ⟨A51, hA51, hD⟩ := Option.bind_eq_some_iff.mp hD
      refine k_stI 12 rfl rfl (fun _ => rfl) hA51 ?_
      cases hD
      exact k_vret rfl rfl
def d_tellDoor_120 (n : Nat) (F : Nat → Int32) (A : Nat → Nat → Int32) (J : Nat → Nat → Int64) (x1 : Int32) (s1 : Int32) : Option (Unit × (Nat → Int32) × (Nat → Nat → Int32) × (Nat → Nat → Int64)) :=
    d_tellDoor_121 n F A J x1 s1 0
theorem t_d_tellDoor_120 (ht : ∀ k, t.1 12 k = k_ty 12 k) {n : Nat}  {F : Nat → Int32} {A : Nat → Nat → Int32} {J : Nat → Nat → Int64} {x1 : Int32} {s1 : Int32} {w : Unit × (Nat → Int32) × (Nat → Nat → Int32) × (Nat → Nat → Int64)} : d_tellDoor_120 n F A J x1 s1 = some w → k_run t lg (d + 4) 165 120 [(0, .ref 40960), (1, .int x1)] [.int s1, .ref 40976] (m_h c B F A J) (none, m_h c B w.2.1 w.2.2.1 w.2.2.2) := by
  intro hD
  unfold d_tellDoor_120 at hD
  refine k_runB (pc' := 121) (loc' := [(0, .ref 40960), (1, .int x1)]) (st' := [.int 0, .int s1, .ref 40976]) 1 rfl ?_
  refine k_wk [0, 1] (loc' := [(0, .ref 40960), (1, .int x1)]) rfl rfl ?_
  exact t_d_tellDoor_121 ht  hD
def d_tellDoor_82 (n : Nat) (F : Nat → Int32) (A : Nat → Nat → Int32) (J : Nat → Nat → Int64) (x1 : Int32) : Option (Unit × (Nat → Int32) × (Nat → Nat → Int32) × (Nat → Nat → Int64)) :=
    (d_bounded F A J 1 60).bind fun (v30, F31, A32, J33) =>
    (m_st A32 15 24 x1 v30).bind fun A34 =>
    cond (g_cnd .ne (F31 13) 0)
    (d_tellDoor_120 n F31 A34 J33 x1 x1)
    ((d_is F31 A34 J33 22).bind fun v36 =>
    cond (g_cnd .eq v36 0)
    (d_tellDoor_120 n F31 A34 J33 x1 x1)
    (d_tellDoor_121 n F31 A34 J33 x1 x1 1))
theorem t_d_tellDoor_82 (ht : ∀ k, t.1 12 k = k_ty 12 k) {n : Nat}  {F : Nat → Int32} {A : Nat → Nat → Int32} {J : Nat → Nat → Int64} {x1 : Int32} {w : Unit × (Nat → Int32) × (Nat → Nat → Int32) × (Nat → Nat → Int64)} : d_tellDoor_82 n F A J x1 = some w → k_run t lg (d + 4) 165 82 [(0, .ref 40960), (1, .int x1)] [] (m_h c B F A J) (none, m_h c B w.2.1 w.2.2.1 w.2.2.2) := by
  intro hD
  unfold d_tellDoor_82 at hD
  refine k_runB (pc' := 91) (loc' := [(0, .ref 40960), (1, .int x1)]) (st' := [.int 60, .int 1, .ref 40960, .int x1, .ref 40975]) 6 rfl ?_
  obtain ⟨⟨v30, F31, A32, J33⟩, hv30, hD⟩ := Option.bind_eq_some_iff.mp hD
  dsimp only at hD
  refine k_runC rfl rfl rfl rfl (t_d_bounded (d := d + 1) ht hv30) ?_
  obtain ⟨A34, hA34, hD⟩ := Option.bind_eq_some_iff.mp hD
  refine k_stI 15 rfl rfl (fun _ => rfl) hA34 ?_
  refine k_runB (pc' := 104) (loc' := [(0, .ref 40960), (1, .int x1)]) (st' := [.int (F31 13), .int x1, .ref 40976]) 5 rfl ?_
  refine k_if rfl (fun c104_34 => ?_) (fun c104_34 => ?_)
  · rw [c104_34, cond_true] at hD
    refine k_wk [0, 1] (loc' := [(0, .ref 40960), (1, .int x1)]) rfl rfl ?_
    exact t_d_tellDoor_120 ht  hD
  · rw [c104_34, cond_false] at hD
    refine k_runB (pc' := 110) (loc' := [(0, .ref 40960), (1, .int x1)]) (st' := [.int 22, .ref 40960, .int x1, .ref 40976]) 2 rfl ?_
    obtain ⟨v36, hv36, hD⟩ := Option.bind_eq_some_iff.mp hD
    refine k_runC rfl rfl rfl rfl (t_d_is (d := d + 3) hv36) ?_
    refine k_if rfl (fun c113_36 => ?_) (fun c113_36 => ?_)
    · rw [c113_36, cond_true] at hD
      refine k_wk [0, 1] (loc' := [(0, .ref 40960), (1, .int x1)]) rfl rfl ?_
      exact t_d_tellDoor_120 ht  hD
    · rw [c113_36, cond_false] at hD
      refine k_runB (pc' := 121) (loc' := [(0, .ref 40960), (1, .int x1)]) (st' := [.int 1, .int x1, .ref 40976]) 2 rfl ?_
      refine k_wk [0, 1] (loc' := [(0, .ref 40960), (1, .int x1)]) rfl rfl ?_
      exact t_d_tellDoor_121 ht  hD
/-- SleepWorkModel.tellDoor()V -/
def d_tellDoor (n : Nat) (F : Nat → Int32) (A : Nat → Nat → Int32) (J : Nat → Nat → Int64) : Option (Unit × (Nat → Int32) × (Nat → Nat → Int32) × (Nat → Nat → Int64)) :=
  (m_ld (A 12) 2 (F 19)).bind fun v1 =>
  (d_known n F A J 0).bind fun (v2, F3, A4, J5) =>
  (m_st A4 13 24 ((12 * (F 19)) + v1) v2).bind fun A6 =>
  (d_known n F3 A6 J5 0).bind fun (v7, F8, A9, J10) =>
  (m_st A9 14 24 ((12 * (F 19)) + v1) v7).bind fun A11 =>
  cond (g_cnd .ne (F8 13) 0)
  (d_tellDoor_82 n F8 A11 J10 ((12 * (F 19)) + v1))
  ((m_ld (A11 13) 24 ((12 * (F 19)) + v1)).bind fun v13 =>
  cond (g_cnd .lt v13 0)
  (d_tellDoor_82 n F8 A11 J10 ((12 * (F 19)) + v1))
  ((m_ld (A11 13) 24 ((12 * (F 19)) + v1)).bind fun v15 =>
  (m_ld (A11 14) 24 ((12 * (F 19)) + v1)).bind fun v16 =>
  cond (g_cnd .ne v15 v16)
  (d_tellDoor_82 n F8 A11 J10 ((12 * (F 19)) + v1))
  ((d_wrong F8 A11 J10 5 (F3 11)).bind fun (_, F19, A20, J21) =>
  (d_bounded F19 A20 J21 1 60).bind fun (v22, F23, A24, J25) =>
  (m_st A24 15 24 ((12 * (F 19)) + v1) v22).bind fun A26 =>
  cond (g_cnd .ne (F23 13) 0)
  (d_tellDoor_120 n F23 A26 J25 ((12 * (F 19)) + v1) ((12 * (F 19)) + v1))
  ((d_is F23 A26 J25 22).bind fun v28 =>
  cond (g_cnd .eq v28 0)
  (d_tellDoor_120 n F23 A26 J25 ((12 * (F 19)) + v1) ((12 * (F 19)) + v1))
  (d_tellDoor_121 n F23 A26 J25 ((12 * (F 19)) + v1) ((12 * (F 19)) + v1) 1)))))
theorem t_d_tellDoor (ht : ∀ k, t.1 12 k = k_ty 12 k) {n : Nat} {r : Unit} {F' : Nat → Int32} {A' : Nat → Nat → Int32} {J' : Nat → Nat → Int64} : d_tellDoor n F A J = some (r, F', A', J') → k_run t lg (d + 4) 165 0 [(0, .ref 40960)] [] (m_h c B F A J) (none, m_h c B F' A' J') := by
  intro hD
  unfold d_tellDoor at hD
  refine k_runB (pc' := 15) (loc' := [(0, .ref 40960)]) (st' := [.int (F 19), .ref 40972, .int (12 * (F 19))]) 8 rfl ?_
  obtain ⟨v1, hv1, hD⟩ := Option.bind_eq_some_iff.mp hD
  refine k_ldI rfl rfl hv1 ?_
  refine k_runB (pc' := 25) (loc' := [(0, .ref 40960), (1, .int ((12 * (F 19)) + v1))]) (st' := [.int 0, .ref 40960, .int ((12 * (F 19)) + v1), .ref 40973]) 7 rfl ?_
  obtain ⟨⟨v2, F3, A4, J5⟩, hv2, hD⟩ := Option.bind_eq_some_iff.mp hD
  dsimp only at hD
  refine k_runC rfl rfl rfl rfl (t_d_known (d := d) ht hv2) ?_
  obtain ⟨A6, hA6, hD⟩ := Option.bind_eq_some_iff.mp hD
  refine k_stI 13 rfl rfl (fun _ => rfl) hA6 ?_
  refine k_runB (pc' := 41) (loc' := [(0, .ref 40960), (1, .int ((12 * (F 19)) + v1)), (2, .int (F3 11))]) (st' := [.int 0, .ref 40960, .int ((12 * (F 19)) + v1), .ref 40974]) 8 rfl ?_
  obtain ⟨⟨v7, F8, A9, J10⟩, hv7, hD⟩ := Option.bind_eq_some_iff.mp hD
  dsimp only at hD
  refine k_runC rfl rfl rfl rfl (t_d_known (d := d) ht hv7) ?_
  obtain ⟨A11, hA11, hD⟩ := Option.bind_eq_some_iff.mp hD
  refine k_stI 14 rfl rfl (fun _ => rfl) hA11 ?_
  refine k_runB (pc' := 49) (loc' := [(0, .ref 40960), (1, .int ((12 * (F 19)) + v1)), (2, .int (F3 11))]) (st' := [.int (F8 13)]) 2 rfl ?_
  refine k_if rfl (fun c49_11 => ?_) (fun c49_11 => ?_)
  · rw [c49_11, cond_true] at hD
    refine k_wk [0, 1] (loc' := [(0, .ref 40960), (1, .int ((12 * (F 19)) + v1))]) rfl rfl ?_
    exact t_d_tellDoor_82 ht  hD
  · rw [c49_11, cond_false] at hD
    refine k_runB (pc' := 57) (loc' := [(0, .ref 40960), (1, .int ((12 * (F 19)) + v1)), (2, .int (F3 11))]) (st' := [.int ((12 * (F 19)) + v1), .ref 40973]) 3 rfl ?_
    obtain ⟨v13, hv13, hD⟩ := Option.bind_eq_some_iff.mp hD
    refine k_ldI rfl rfl hv13 ?_
    refine k_if rfl (fun c58_13 => ?_) (fun c58_13 => ?_)
    · rw [c58_13, cond_true] at hD
      refine k_wk [0, 1] (loc' := [(0, .ref 40960), (1, .int ((12 * (F 19)) + v1))]) rfl rfl ?_
      exact t_d_tellDoor_82 ht  hD
    · rw [c58_13, cond_false] at hD
      refine k_runB (pc' := 66) (loc' := [(0, .ref 40960), (1, .int ((12 * (F 19)) + v1)), (2, .int (F3 11))]) (st' := [.int ((12 * (F 19)) + v1), .ref 40973]) 3 rfl ?_
      obtain ⟨v15, hv15, hD⟩ := Option.bind_eq_some_iff.mp hD
      refine k_ldI rfl rfl hv15 ?_
      refine k_runB (pc' := 72) (loc' := [(0, .ref 40960), (1, .int ((12 * (F 19)) + v1)), (2, .int (F3 11))]) (st' := [.int ((12 * (F 19)) + v1), .ref 40974, .int v15]) 3 rfl ?_
      obtain ⟨v16, hv16, hD⟩ := Option.bind_eq_some_iff.mp hD
      refine k_ldI rfl rfl hv16 ?_
      refine k_ic rfl (fun c73_16 => ?_) (fun c73_16 => ?_)
      · rw [c73_16, cond_true] at hD
        refine k_wk [0, 1] (loc' := [(0, .ref 40960), (1, .int ((12 * (F 19)) + v1))]) rfl rfl ?_
        exact t_d_tellDoor_82 ht  hD
      · rw [c73_16, cond_false] at hD
        refine k_runB (pc' := 79) (loc' := [(0, .ref 40960), (1, .int ((12 * (F 19)) + v1)), (2, .int (F3 11))]) (st' := [.int (F3 11), .int 5, .ref 40960]) 3 rfl ?_
        obtain ⟨⟨v18, F19, A20, J21⟩, hv18, hD⟩ := Option.bind_eq_some_iff.mp hD
        dsimp only at hD
        refine k_runC rfl rfl rfl rfl (t_d_wrong (d := d + 3) ht hv18) ?_
        refine k_runB (pc' := 91) (loc' := [(0, .ref 40960), (1, .int ((12 * (F 19)) + v1)), (2, .int (F3 11))]) (st' := [.int 60, .int 1, .ref 40960, .int ((12 * (F 19)) + v1), .ref 40975]) 6 rfl ?_
        obtain ⟨⟨v22, F23, A24, J25⟩, hv22, hD⟩ := Option.bind_eq_some_iff.mp hD
        dsimp only at hD
        refine k_runC rfl rfl rfl rfl (t_d_bounded (d := d + 1) ht hv22) ?_
        obtain ⟨A26, hA26, hD⟩ := Option.bind_eq_some_iff.mp hD
        refine k_stI 15 rfl rfl (fun _ => rfl) hA26 ?_
        refine k_runB (pc' := 104) (loc' := [(0, .ref 40960), (1, .int ((12 * (F 19)) + v1)), (2, .int (F3 11))]) (st' := [.int (F23 13), .int ((12 * (F 19)) + v1), .ref 40976]) 5 rfl ?_
        refine k_if rfl (fun c104_26 => ?_) (fun c104_26 => ?_)
        · rw [c104_26, cond_true] at hD
          refine k_wk [0, 1] (loc' := [(0, .ref 40960), (1, .int ((12 * (F 19)) + v1))]) rfl rfl ?_
          exact t_d_tellDoor_120 ht  hD
        · rw [c104_26, cond_false] at hD
          refine k_runB (pc' := 110) (loc' := [(0, .ref 40960), (1, .int ((12 * (F 19)) + v1)), (2, .int (F3 11))]) (st' := [.int 22, .ref 40960, .int ((12 * (F 19)) + v1), .ref 40976]) 2 rfl ?_
          obtain ⟨v28, hv28, hD⟩ := Option.bind_eq_some_iff.mp hD
          refine k_runC rfl rfl rfl rfl (t_d_is (d := d + 3) hv28) ?_
          refine k_if rfl (fun c113_28 => ?_) (fun c113_28 => ?_)
          · rw [c113_28, cond_true] at hD
            refine k_wk [0, 1] (loc' := [(0, .ref 40960), (1, .int ((12 * (F 19)) + v1))]) rfl rfl ?_
            exact t_d_tellDoor_120 ht  hD
          · rw [c113_28, cond_false] at hD
            refine k_runB (pc' := 121) (loc' := [(0, .ref 40960), (1, .int ((12 * (F 19)) + v1)), (2, .int (F3 11))]) (st' := [.int 1, .int ((12 * (F 19)) + v1), .ref 40976]) 2 rfl ?_
            refine k_wk [0, 1] (loc' := [(0, .ref 40960), (1, .int ((12 * (F 19)) + v1))]) rfl rfl ?_
            exact t_d_tellDoor_121 ht  hD
/-- SleepWorkModel.tellTool()V -/
def d_tellTool (n : Nat) (F : Nat → Int32) (A : Nat → Nat → Int32) (J : Nat → Nat → Int64) : Option (Unit × (Nat → Int32) × (Nat → Nat → Int32) × (Nat → Nat → Int64)) :=
  (d_named n F A J).bind fun (v1, F2, A3, J4) =>
  (m_ld (A3 17) 2 (F2 19)).bind fun v5 =>
  (d_known n F2 A3 J4 0).bind fun (v6, F7, A8, J9) =>
  (m_st A8 18 12 ((6 * (F2 19)) + v5) v6).bind fun A10 =>
  (d_must F7 A10 J9 4).bind fun (_, F12, A13, J14) =>
  cond (g_cnd .le (F12 13) 0)
  ((m_ld (A13 17) 2 (F12 19)).bind fun v16 =>
  (d_notes F12 A13 J14 v1 1 v16).bind fun (_, F18, A19, J20) =>
  (m_ld (A19 17) 2 (F18 19)).bind fun v21 =>
  (m_st A19 17 2 (F18 19) (v21 + 1)).bind fun A22 =>
  some ((), F18, A22, J20))
  (some ((), F12, A13, J14))
theorem t_d_tellTool (ht : ∀ k, t.1 12 k = k_ty 12 k) {n : Nat} {r : Unit} {F' : Nat → Int32} {A' : Nat → Nat → Int32} {J' : Nat → Nat → Int64} : d_tellTool n F A J = some (r, F', A', J') → k_run t lg (d + 4) 166 0 [(0, .ref 40960)] [] (m_h c B F A J) (none, m_h c B F' A' J') := by
  intro hD
  unfold d_tellTool at hD
  refine k_runB (pc' := 1) (loc' := [(0, .ref 40960)]) (st' := [.ref 40960]) 1 rfl ?_
  obtain ⟨⟨v1, F2, A3, J4⟩, hv1, hD⟩ := Option.bind_eq_some_iff.mp hD
  dsimp only at hD
  refine k_runC rfl rfl rfl rfl (t_d_named (d := d) ht hv1) ?_
  refine k_runB (pc' := 24) (loc' := [(0, .ref 40960), (1, .int v1)]) (st' := [.int (F2 19), .ref 40977, .int (6 * (F2 19)), .ref 40978]) 11 rfl ?_
  obtain ⟨v5, hv5, hD⟩ := Option.bind_eq_some_iff.mp hD
  refine k_ldI rfl rfl hv5 ?_
  refine k_runB (pc' := 28) (loc' := [(0, .ref 40960), (1, .int v1)]) (st' := [.int 0, .ref 40960, .int ((6 * (F2 19)) + v5), .ref 40978]) 3 rfl ?_
  obtain ⟨⟨v6, F7, A8, J9⟩, hv6, hD⟩ := Option.bind_eq_some_iff.mp hD
  dsimp only at hD
  refine k_runC rfl rfl rfl rfl (t_d_known (d := d) ht hv6) ?_
  obtain ⟨A10, hA10, hD⟩ := Option.bind_eq_some_iff.mp hD
  refine k_stI 18 rfl rfl (fun _ => rfl) hA10 ?_
  refine k_runB (pc' := 34) (loc' := [(0, .ref 40960), (1, .int v1)]) (st' := [.int 4, .ref 40960]) 2 rfl ?_
  obtain ⟨⟨v11, F12, A13, J14⟩, hv11, hD⟩ := Option.bind_eq_some_iff.mp hD
  dsimp only at hD
  refine k_runC rfl rfl rfl rfl (t_d_must (d := d + 1) ht hv11) ?_
  refine k_runB (pc' := 41) (loc' := [(0, .ref 40960), (1, .int v1)]) (st' := [.int (F12 13)]) 2 rfl ?_
  refine k_if rfl (fun c41_14 => ?_) (fun c41_14 => ?_)
  · rw [c41_14, cond_true] at hD
    refine k_runB (pc' := 56) (loc' := [(0, .ref 40960), (1, .int v1)]) (st' := [.int (F12 19), .ref 40977, .int 1, .int v1, .ref 40960]) 7 rfl ?_
    obtain ⟨v16, hv16, hD⟩ := Option.bind_eq_some_iff.mp hD
    refine k_ldI rfl rfl hv16 ?_
    obtain ⟨⟨v17, F18, A19, J20⟩, hv17, hD⟩ := Option.bind_eq_some_iff.mp hD
    dsimp only at hD
    refine k_runC rfl rfl rfl rfl (t_d_notes (d := d + 3) ht hv17) ?_
    refine k_runB (pc' := 69) (loc' := [(0, .ref 40960), (1, .int v1)]) (st' := [.int (F18 19), .ref 40977, .int (F18 19), .ref 40977]) 5 rfl ?_
    obtain ⟨v21, hv21, hD⟩ := Option.bind_eq_some_iff.mp hD
    refine k_ldI rfl rfl hv21 ?_
    refine k_runB (pc' := 72) (loc' := [(0, .ref 40960), (1, .int v1)]) (st' := [.int (v21 + 1), .int (F18 19), .ref 40977]) 2 rfl ?_
    obtain ⟨A22, hA22, hD⟩ := Option.bind_eq_some_iff.mp hD
    refine k_stI 17 rfl rfl (fun _ => rfl) hA22 ?_
    cases hD
    exact k_vret rfl rfl
  · rw [c41_14, cond_false] at hD
    cases hD
    exact k_vret rfl rfl
/-- SleepWorkModel.tellTask()V -/
def d_tellTask (n : Nat) (F : Nat → Int32) (A : Nat → Nat → Int32) (J : Nat → Nat → Int64) : Option (Unit × (Nat → Int32) × (Nat → Nat → Int32) × (Nat → Nat → Int64)) :=
  (m_ld (A 19) 2 (F 19)).bind fun v1 =>
  (d_named n F A J).bind fun (v2, F3, A4, J5) =>
  (d_known n F3 A4 J5 0).bind fun (v6, F7, A8, J9) =>
  (m_st A8 20 12 ((6 * (F 19)) + v1) v6).bind fun A10 =>
  (d_bounded F7 A10 J9 0 999).bind fun (v11, F12, A13, J14) =>
  (m_st A13 21 12 ((6 * (F 19)) + v1) v11).bind fun A15 =>
  (m_st A15 22 12 ((6 * (F 19)) + v1) 0).bind fun A16 =>
  (d_must F12 A16 J14 4).bind fun (_, F18, A19, J20) =>
  cond (g_cnd .le (F18 13) 0)
  ((m_ld (A19 19) 2 (F18 19)).bind fun v22 =>
  (d_notes F18 A19 J20 v2 2 v22).bind fun (_, F24, A25, J26) =>
  (m_ld (A25 19) 2 (F24 19)).bind fun v27 =>
  (m_st A25 19 2 (F24 19) (v27 + 1)).bind fun A28 =>
  some ((), F24, A28, J26))
  (some ((), F18, A19, J20))
theorem t_d_tellTask (ht : ∀ k, t.1 12 k = k_ty 12 k) {n : Nat} {r : Unit} {F' : Nat → Int32} {A' : Nat → Nat → Int32} {J' : Nat → Nat → Int64} : d_tellTask n F A J = some (r, F', A', J') → k_run t lg (d + 4) 167 0 [(0, .ref 40960)] [] (m_h c B F A J) (none, m_h c B F' A' J') := by
  intro hD
  unfold d_tellTask at hD
  refine k_runB (pc' := 15) (loc' := [(0, .ref 40960)]) (st' := [.int (F 19), .ref 40979, .int (6 * (F 19))]) 8 rfl ?_
  obtain ⟨v1, hv1, hD⟩ := Option.bind_eq_some_iff.mp hD
  refine k_ldI rfl rfl hv1 ?_
  refine k_runB (pc' := 19) (loc' := [(0, .ref 40960), (1, .int ((6 * (F 19)) + v1))]) (st' := [.ref 40960]) 3 rfl ?_
  obtain ⟨⟨v2, F3, A4, J5⟩, hv2, hD⟩ := Option.bind_eq_some_iff.mp hD
  dsimp only at hD
  refine k_runC rfl rfl rfl rfl (t_d_named (d := d) ht hv2) ?_
  refine k_runB (pc' := 30) (loc' := [(0, .ref 40960), (1, .int ((6 * (F 19)) + v1)), (2, .int v2)]) (st' := [.int 0, .ref 40960, .int ((6 * (F 19)) + v1), .ref 40980]) 6 rfl ?_
  obtain ⟨⟨v6, F7, A8, J9⟩, hv6, hD⟩ := Option.bind_eq_some_iff.mp hD
  dsimp only at hD
  refine k_runC rfl rfl rfl rfl (t_d_known (d := d) ht hv6) ?_
  obtain ⟨A10, hA10, hD⟩ := Option.bind_eq_some_iff.mp hD
  refine k_stI 20 rfl rfl (fun _ => rfl) hA10 ?_
  refine k_runB (pc' := 44) (loc' := [(0, .ref 40960), (1, .int ((6 * (F 19)) + v1)), (2, .int v2)]) (st' := [.int 999, .int 0, .ref 40960, .int ((6 * (F 19)) + v1), .ref 40981]) 6 rfl ?_
  obtain ⟨⟨v11, F12, A13, J14⟩, hv11, hD⟩ := Option.bind_eq_some_iff.mp hD
  dsimp only at hD
  refine k_runC rfl rfl rfl rfl (t_d_bounded (d := d + 1) ht hv11) ?_
  obtain ⟨A15, hA15, hD⟩ := Option.bind_eq_some_iff.mp hD
  refine k_stI 21 rfl rfl (fun _ => rfl) hA15 ?_
  refine k_runB (pc' := 54) (loc' := [(0, .ref 40960), (1, .int ((6 * (F 19)) + v1)), (2, .int v2)]) (st' := [.int 0, .int ((6 * (F 19)) + v1), .ref 40982]) 4 rfl ?_
  obtain ⟨A16, hA16, hD⟩ := Option.bind_eq_some_iff.mp hD
  refine k_stI 22 rfl rfl (fun _ => rfl) hA16 ?_
  refine k_runB (pc' := 57) (loc' := [(0, .ref 40960), (1, .int ((6 * (F 19)) + v1)), (2, .int v2)]) (st' := [.int 4, .ref 40960]) 2 rfl ?_
  obtain ⟨⟨v17, F18, A19, J20⟩, hv17, hD⟩ := Option.bind_eq_some_iff.mp hD
  dsimp only at hD
  refine k_runC rfl rfl rfl rfl (t_d_must (d := d + 1) ht hv17) ?_
  refine k_runB (pc' := 64) (loc' := [(0, .ref 40960), (1, .int ((6 * (F 19)) + v1)), (2, .int v2)]) (st' := [.int (F18 13)]) 2 rfl ?_
  refine k_if rfl (fun c64_20 => ?_) (fun c64_20 => ?_)
  · rw [c64_20, cond_true] at hD
    refine k_runB (pc' := 79) (loc' := [(0, .ref 40960), (1, .int ((6 * (F 19)) + v1)), (2, .int v2)]) (st' := [.int (F18 19), .ref 40979, .int 2, .int v2, .ref 40960]) 7 rfl ?_
    obtain ⟨v22, hv22, hD⟩ := Option.bind_eq_some_iff.mp hD
    refine k_ldI rfl rfl hv22 ?_
    obtain ⟨⟨v23, F24, A25, J26⟩, hv23, hD⟩ := Option.bind_eq_some_iff.mp hD
    dsimp only at hD
    refine k_runC rfl rfl rfl rfl (t_d_notes (d := d + 3) ht hv23) ?_
    refine k_runB (pc' := 92) (loc' := [(0, .ref 40960), (1, .int ((6 * (F 19)) + v1)), (2, .int v2)]) (st' := [.int (F24 19), .ref 40979, .int (F24 19), .ref 40979]) 5 rfl ?_
    obtain ⟨v27, hv27, hD⟩ := Option.bind_eq_some_iff.mp hD
    refine k_ldI rfl rfl hv27 ?_
    refine k_runB (pc' := 95) (loc' := [(0, .ref 40960), (1, .int ((6 * (F 19)) + v1)), (2, .int v2)]) (st' := [.int (v27 + 1), .int (F24 19), .ref 40979]) 2 rfl ?_
    obtain ⟨A28, hA28, hD⟩ := Option.bind_eq_some_iff.mp hD
    refine k_stI 19 rfl rfl (fun _ => rfl) hA28 ?_
    cases hD
    exact k_vret rfl rfl
  · rw [c64_20, cond_false] at hD
    cases hD
    exact k_vret rfl rfl
def d_tellStep_174 (n : Nat) (F : Nat → Int32) (A : Nat → Nat → Int32) (J : Nat → Nat → Int64) (x2 : Int32) (x4 : Int32) (x5 : Int32) (x6 : Int32) (x7 : Int32) (x8 : Int32) (x9 : Int32) (x10 : Int32) : Option (Unit × (Nat → Int32) × (Nat → Nat → Int32) × (Nat → Nat → Int64)) :=
    (d_must F A J 4).bind fun (_, F56, A57, J58) =>
    cond (g_cnd .gt (F56 13) 0)
    (some ((), F56, A57, J58))
    (cond (g_cnd .ge x2 0)
    ((m_st A57 23 72 x4 x5).bind fun A61 =>
    (m_st A61 24 72 x4 x6).bind fun A62 =>
    (m_st A62 25 72 x4 x7).bind fun A63 =>
    (m_st A63 26 72 x4 x8).bind fun A64 =>
    (m_st A64 27 72 x4 x9).bind fun A65 =>
    (m_st A65 28 72 x4 x10).bind fun A66 =>
    (m_ld (A66 22) 12 ((6 * (F56 19)) + x2)).bind fun v67 =>
    (m_st A66 22 12 ((6 * (F56 19)) + x2) (v67 + 1)).bind fun A68 =>
    some ((), F56, A68, J58))
    (some ((), F56, A57, J58)))
theorem t_d_tellStep_174 (ht : ∀ k, t.1 12 k = k_ty 12 k) {n : Nat}  {F : Nat → Int32} {A : Nat → Nat → Int32} {J : Nat → Nat → Int64} {x2 : Int32} {x4 : Int32} {x5 : Int32} {x6 : Int32} {x7 : Int32} {x8 : Int32} {x9 : Int32} {x10 : Int32} {w : Unit × (Nat → Int32) × (Nat → Nat → Int32) × (Nat → Nat → Int64)} : d_tellStep_174 n F A J x2 x4 x5 x6 x7 x8 x9 x10 = some w → k_run t lg (d + 4) 168 174 [(0, .ref 40960), (2, .int x2), (4, .int x4), (5, .int x5), (6, .int x6), (7, .int x7), (8, .int x8), (9, .int x9), (10, .int x10)] [] (m_h c B F A J) (none, m_h c B w.2.1 w.2.2.1 w.2.2.2) := by
  intro hD
  unfold d_tellStep_174 at hD
  refine k_runB (pc' := 176) (loc' := [(0, .ref 40960), (2, .int x2), (4, .int x4), (5, .int x5), (6, .int x6), (7, .int x7), (8, .int x8), (9, .int x9), (10, .int x10)]) (st' := [.int 4, .ref 40960]) 2 rfl ?_
  obtain ⟨⟨v55, F56, A57, J58⟩, hv55, hD⟩ := Option.bind_eq_some_iff.mp hD
  dsimp only at hD
  refine k_runC rfl rfl rfl rfl (t_d_must (d := d + 1) ht hv55) ?_
  refine k_runB (pc' := 183) (loc' := [(0, .ref 40960), (2, .int x2), (4, .int x4), (5, .int x5), (6, .int x6), (7, .int x7), (8, .int x8), (9, .int x9), (10, .int x10)]) (st' := [.int (F56 13)]) 2 rfl ?_
  refine k_if rfl (fun c183_58 => ?_) (fun c183_58 => ?_)
  · rw [c183_58, cond_true] at hD
    cases hD
    exact k_vret rfl rfl
  · rw [c183_58, cond_false] at hD
    refine k_runB (pc' := 187) (loc' := [(0, .ref 40960), (2, .int x2), (4, .int x4), (5, .int x5), (6, .int x6), (7, .int x7), (8, .int x8), (9, .int x9), (10, .int x10)]) (st' := [.int x2]) 1 rfl ?_
    refine k_if rfl (fun c187_59 => ?_) (fun c187_59 => ?_)
    · rw [c187_59, cond_true] at hD
      refine k_runB (pc' := 199) (loc' := [(0, .ref 40960), (2, .int x2), (4, .int x4), (5, .int x5), (6, .int x6), (7, .int x7), (8, .int x8), (9, .int x9), (10, .int x10)]) (st' := [.int x5, .int x4, .ref 40983]) 4 rfl ?_
      obtain ⟨A61, hA61, hD⟩ := Option.bind_eq_some_iff.mp hD
      refine k_stI 23 rfl rfl (fun _ => rfl) hA61 ?_
      refine k_runB (pc' := 208) (loc' := [(0, .ref 40960), (2, .int x2), (4, .int x4), (5, .int x5), (6, .int x6), (7, .int x7), (8, .int x8), (9, .int x9), (10, .int x10)]) (st' := [.int x6, .int x4, .ref 40984]) 4 rfl ?_
      obtain ⟨A62, hA62, hD⟩ := Option.bind_eq_some_iff.mp hD
      refine k_stI 24 rfl rfl (fun _ => rfl) hA62 ?_
      refine k_runB (pc' := 217) (loc' := [(0, .ref 40960), (2, .int x2), (4, .int x4), (5, .int x5), (6, .int x6), (7, .int x7), (8, .int x8), (9, .int x9), (10, .int x10)]) (st' := [.int x7, .int x4, .ref 40985]) 4 rfl ?_
      obtain ⟨A63, hA63, hD⟩ := Option.bind_eq_some_iff.mp hD
      refine k_stI 25 rfl rfl (fun _ => rfl) hA63 ?_
      refine k_runB (pc' := 226) (loc' := [(0, .ref 40960), (2, .int x2), (4, .int x4), (5, .int x5), (6, .int x6), (7, .int x7), (8, .int x8), (9, .int x9), (10, .int x10)]) (st' := [.int x8, .int x4, .ref 40986]) 4 rfl ?_
      obtain ⟨A64, hA64, hD⟩ := Option.bind_eq_some_iff.mp hD
      refine k_stI 26 rfl rfl (fun _ => rfl) hA64 ?_
      refine k_runB (pc' := 235) (loc' := [(0, .ref 40960), (2, .int x2), (4, .int x4), (5, .int x5), (6, .int x6), (7, .int x7), (8, .int x8), (9, .int x9), (10, .int x10)]) (st' := [.int x9, .int x4, .ref 40987]) 4 rfl ?_
      obtain ⟨A65, hA65, hD⟩ := Option.bind_eq_some_iff.mp hD
      refine k_stI 27 rfl rfl (fun _ => rfl) hA65 ?_
      refine k_runB (pc' := 244) (loc' := [(0, .ref 40960), (2, .int x2), (4, .int x4), (5, .int x5), (6, .int x6), (7, .int x7), (8, .int x8), (9, .int x9), (10, .int x10)]) (st' := [.int x10, .int x4, .ref 40988]) 4 rfl ?_
      obtain ⟨A66, hA66, hD⟩ := Option.bind_eq_some_iff.mp hD
      refine k_stI 28 rfl rfl (fun _ => rfl) hA66 ?_
      refine k_runB (pc' := 259) (loc' := [(0, .ref 40960), (2, .int x2), (4, .int x4), (5, .int x5), (6, .int x6), (7, .int x7), (8, .int x8), (9, .int x9), (10, .int x10)]) (st' := [.int ((6 * (F56 19)) + x2), .ref 40982, .int ((6 * (F56 19)) + x2), .ref 40982]) 9 rfl ?_
      obtain ⟨v67, hv67, hD⟩ := Option.bind_eq_some_iff.mp hD
      refine k_ldI rfl rfl hv67 ?_
      refine k_runB (pc' := 262) (loc' := [(0, .ref 40960), (2, .int x2), (4, .int x4), (5, .int x5), (6, .int x6), (7, .int x7), (8, .int x8), (9, .int x9), (10, .int x10)]) (st' := [.int (v67 + 1), .int ((6 * (F56 19)) + x2), .ref 40982]) 2 rfl ?_
      obtain ⟨A68, hA68, hD⟩ := Option.bind_eq_some_iff.mp hD
      refine k_stI 22 rfl rfl (fun _ => rfl) hA68 ?_
      cases hD
      exact k_vret rfl rfl
    · rw [c187_59, cond_false] at hD
      cases hD
      exact k_vret rfl rfl
def d_tellStep_169 (n : Nat) (F : Nat → Int32) (A : Nat → Nat → Int32) (J : Nat → Nat → Int64) (x2 : Int32) (x4 : Int32) (x5 : Int32) (x6 : Int32) (x7 : Int32) (x8 : Int32) (x9 : Int32) (s1 : Int32) (s2 : Int32) : Option (Unit × (Nat → Int32) × (Nat → Nat → Int32) × (Nat → Nat → Int64)) :=
    (d_bounded F A J s1 s2).bind fun (v69, F70, A71, J72) =>
    d_tellStep_174 n F70 A71 J72 x2 x4 x5 x6 x7 x8 x9 v69
theorem t_d_tellStep_169 (ht : ∀ k, t.1 12 k = k_ty 12 k) {n : Nat}  {F : Nat → Int32} {A : Nat → Nat → Int32} {J : Nat → Nat → Int64} {x2 : Int32} {x4 : Int32} {x5 : Int32} {x6 : Int32} {x7 : Int32} {x8 : Int32} {x9 : Int32} {s1 : Int32} {s2 : Int32} {w : Unit × (Nat → Int32) × (Nat → Nat → Int32) × (Nat → Nat → Int64)} : d_tellStep_169 n F A J x2 x4 x5 x6 x7 x8 x9 s1 s2 = some w → k_run t lg (d + 4) 168 169 [(0, .ref 40960), (2, .int x2), (4, .int x4), (5, .int x5), (6, .int x6), (7, .int x7), (8, .int x8), (9, .int x9)] [.int s2, .int s1, .ref 40960] (m_h c B F A J) (none, m_h c B w.2.1 w.2.2.1 w.2.2.2) := by
  intro hD
  unfold d_tellStep_169 at hD
  obtain ⟨⟨v69, F70, A71, J72⟩, hv69, hD⟩ := Option.bind_eq_some_iff.mp hD
  dsimp only at hD
  refine k_runC rfl rfl rfl rfl (t_d_bounded (d := d + 1) ht hv69) ?_
  refine k_runB (pc' := 174) (loc' := [(0, .ref 40960), (2, .int x2), (4, .int x4), (5, .int x5), (6, .int x6), (7, .int x7), (8, .int x8), (9, .int x9), (10, .int v69)]) (st' := []) 1 rfl ?_
  refine k_wk [0, 2, 4, 5, 6, 7, 8, 9, 10] (loc' := [(0, .ref 40960), (2, .int x2), (4, .int x4), (5, .int x5), (6, .int x6), (7, .int x7), (8, .int x8), (9, .int x9), (10, .int v69)]) rfl rfl ?_
  exact t_d_tellStep_174 ht  hD
def d_tellStep_134 (n : Nat) (F : Nat → Int32) (A : Nat → Nat → Int32) (J : Nat → Nat → Int64) (x2 : Int32) (x3 : Int32) (x4 : Int32) (x5 : Int32) (x6 : Int32) (x7 : Int32) (x8 : Int32) (x9 : Int32) (x10 : Int32) : Option (Unit × (Nat → Int32) × (Nat → Nat → Int32) × (Nat → Nat → Int64)) :=
    cond (g_cnd .ne (F 13) 0)
    (d_tellStep_174 n F A J x2 x4 x5 x6 x7 x8 x9 x10)
    ((d_is F A J 27).bind fun v48 =>
    cond (g_cnd .eq v48 0)
    (d_tellStep_174 n F A J x2 x4 x5 x6 x7 x8 x9 x10)
    ((d_goesOn F A J).bind fun (_, F51, A52, J53) =>
    cond (g_cnd .ge x2 0)
    (d_tellStep_169 n F51 A52 J53 x2 x4 x5 x6 x7 x8 x9 0 (x3 - 1))
    (d_tellStep_169 n F51 A52 J53 x2 x4 x5 x6 x7 x8 x9 0 9999)))
theorem t_d_tellStep_134 (ht : ∀ k, t.1 12 k = k_ty 12 k) {n : Nat}  {F : Nat → Int32} {A : Nat → Nat → Int32} {J : Nat → Nat → Int64} {x2 : Int32} {x3 : Int32} {x4 : Int32} {x5 : Int32} {x6 : Int32} {x7 : Int32} {x8 : Int32} {x9 : Int32} {x10 : Int32} {w : Unit × (Nat → Int32) × (Nat → Nat → Int32) × (Nat → Nat → Int64)} : d_tellStep_134 n F A J x2 x3 x4 x5 x6 x7 x8 x9 x10 = some w → k_run t lg (d + 4) 168 134 [(0, .ref 40960), (2, .int x2), (3, .int x3), (4, .int x4), (5, .int x5), (6, .int x6), (7, .int x7), (8, .int x8), (9, .int x9), (10, .int x10)] [] (m_h c B F A J) (none, m_h c B w.2.1 w.2.2.1 w.2.2.2) := by
  intro hD
  unfold d_tellStep_134 at hD
  refine k_runB (pc' := 138) (loc' := [(0, .ref 40960), (2, .int x2), (3, .int x3), (4, .int x4), (5, .int x5), (6, .int x6), (7, .int x7), (8, .int x8), (9, .int x9), (10, .int x10)]) (st' := [.int (F 13)]) 2 rfl ?_
  refine k_if rfl (fun c138_46 => ?_) (fun c138_46 => ?_)
  · rw [c138_46, cond_true] at hD
    refine k_wk [0, 2, 4, 5, 6, 7, 8, 9, 10] (loc' := [(0, .ref 40960), (2, .int x2), (4, .int x4), (5, .int x5), (6, .int x6), (7, .int x7), (8, .int x8), (9, .int x9), (10, .int x10)]) rfl rfl ?_
    exact t_d_tellStep_174 ht  hD
  · rw [c138_46, cond_false] at hD
    refine k_runB (pc' := 144) (loc' := [(0, .ref 40960), (2, .int x2), (3, .int x3), (4, .int x4), (5, .int x5), (6, .int x6), (7, .int x7), (8, .int x8), (9, .int x9), (10, .int x10)]) (st' := [.int 27, .ref 40960]) 2 rfl ?_
    obtain ⟨v48, hv48, hD⟩ := Option.bind_eq_some_iff.mp hD
    refine k_runC rfl rfl rfl rfl (t_d_is (d := d + 3) hv48) ?_
    refine k_if rfl (fun c147_48 => ?_) (fun c147_48 => ?_)
    · rw [c147_48, cond_true] at hD
      refine k_wk [0, 2, 4, 5, 6, 7, 8, 9, 10] (loc' := [(0, .ref 40960), (2, .int x2), (4, .int x4), (5, .int x5), (6, .int x6), (7, .int x7), (8, .int x8), (9, .int x9), (10, .int x10)]) rfl rfl ?_
      exact t_d_tellStep_174 ht  hD
    · rw [c147_48, cond_false] at hD
      refine k_runB (pc' := 151) (loc' := [(0, .ref 40960), (2, .int x2), (3, .int x3), (4, .int x4), (5, .int x5), (6, .int x6), (7, .int x7), (8, .int x8), (9, .int x9), (10, .int x10)]) (st' := [.ref 40960]) 1 rfl ?_
      obtain ⟨⟨v50, F51, A52, J53⟩, hv50, hD⟩ := Option.bind_eq_some_iff.mp hD
      dsimp only at hD
      refine k_runC rfl rfl rfl rfl (t_d_goesOn (d := d + 2) ht hv50) ?_
      refine k_runB (pc' := 157) (loc' := [(0, .ref 40960), (2, .int x2), (3, .int x3), (4, .int x4), (5, .int x5), (6, .int x6), (7, .int x7), (8, .int x8), (9, .int x9), (10, .int x10)]) (st' := [.int x2, .int 0, .ref 40960]) 3 rfl ?_
      refine k_if rfl (fun c157_53 => ?_) (fun c157_53 => ?_)
      · rw [c157_53, cond_true] at hD
        refine k_runB (pc' := 169) (loc' := [(0, .ref 40960), (2, .int x2), (3, .int x3), (4, .int x4), (5, .int x5), (6, .int x6), (7, .int x7), (8, .int x8), (9, .int x9), (10, .int x10)]) (st' := [.int (x3 - 1), .int 0, .ref 40960]) 3 rfl ?_
        refine k_wk [0, 2, 4, 5, 6, 7, 8, 9] (loc' := [(0, .ref 40960), (2, .int x2), (4, .int x4), (5, .int x5), (6, .int x6), (7, .int x7), (8, .int x8), (9, .int x9)]) rfl rfl ?_
        exact t_d_tellStep_169 ht  hD
      · rw [c157_53, cond_false] at hD
        refine k_runB (pc' := 169) (loc' := [(0, .ref 40960), (2, .int x2), (3, .int x3), (4, .int x4), (5, .int x5), (6, .int x6), (7, .int x7), (8, .int x8), (9, .int x9), (10, .int x10)]) (st' := [.int 9999, .int 0, .ref 40960]) 2 rfl ?_
        refine k_wk [0, 2, 4, 5, 6, 7, 8, 9] (loc' := [(0, .ref 40960), (2, .int x2), (4, .int x4), (5, .int x5), (6, .int x6), (7, .int x7), (8, .int x8), (9, .int x9)]) rfl rfl ?_
        exact t_d_tellStep_169 ht  hD
def d_tellStep_59 (n : Nat) (F : Nat → Int32) (A : Nat → Nat → Int32) (J : Nat → Nat → Int64) (x2 : Int32) (x3 : Int32) (s0 : Int32) (s1 : Int32) (s2 : Int32) : Option (Unit × (Nat → Int32) × (Nat → Nat → Int32) × (Nat → Nat → Int64)) :=
    (d_bounded F A J 1 120).bind fun (v14, F15, A16, J17) =>
    (d_bounded F15 A16 J17 0 99).bind fun (v18, F19, A20, J21) =>
    (d_bounded F19 A20 J21 0 99).bind fun (v22, F23, A24, J25) =>
    (d_bounded F23 A24 J25 0 99).bind fun (v26, F27, A28, J29) =>
    cond (g_cnd .ne (F27 13) 0)
    (d_tellStep_134 n F27 A28 J29 x2 x3 ((s0 * (s1 + s2)) + x3) v14 v18 v22 v26 ((-1)) ((-1)))
    ((d_is F27 A28 J29 26).bind fun v31 =>
    cond (g_cnd .eq v31 0)
    (d_tellStep_134 n F27 A28 J29 x2 x3 ((s0 * (s1 + s2)) + x3) v14 v18 v22 v26 ((-1)) ((-1)))
    ((d_goesOn F27 A28 J29).bind fun (_, F34, A35, J36) =>
    (d_known n F34 A35 J36 1).bind fun (v37, F38, A39, J40) =>
    d_tellStep_134 n F38 A39 J40 x2 x3 ((s0 * (s1 + s2)) + x3) v14 v18 v22 v26 v37 ((-1))))
theorem t_d_tellStep_59 (ht : ∀ k, t.1 12 k = k_ty 12 k) {n : Nat}  {F : Nat → Int32} {A : Nat → Nat → Int32} {J : Nat → Nat → Int64} {x2 : Int32} {x3 : Int32} {s0 : Int32} {s1 : Int32} {s2 : Int32} {w : Unit × (Nat → Int32) × (Nat → Nat → Int32) × (Nat → Nat → Int64)} : d_tellStep_59 n F A J x2 x3 s0 s1 s2 = some w → k_run t lg (d + 4) 168 59 [(0, .ref 40960), (2, .int x2), (3, .int x3)] [.int s2, .int s1, .int s0] (m_h c B F A J) (none, m_h c B w.2.1 w.2.2.1 w.2.2.2) := by
  intro hD
  unfold d_tellStep_59 at hD
  refine k_runB (pc' := 69) (loc' := [(0, .ref 40960), (2, .int x2), (3, .int x3), (4, .int ((s0 * (s1 + s2)) + x3))]) (st' := [.int 120, .int 1, .ref 40960]) 8 rfl ?_
  obtain ⟨⟨v14, F15, A16, J17⟩, hv14, hD⟩ := Option.bind_eq_some_iff.mp hD
  dsimp only at hD
  refine k_runC rfl rfl rfl rfl (t_d_bounded (d := d + 1) ht hv14) ?_
  refine k_runB (pc' := 78) (loc' := [(0, .ref 40960), (2, .int x2), (3, .int x3), (4, .int ((s0 * (s1 + s2)) + x3)), (5, .int v14)]) (st' := [.int 99, .int 0, .ref 40960]) 4 rfl ?_
  obtain ⟨⟨v18, F19, A20, J21⟩, hv18, hD⟩ := Option.bind_eq_some_iff.mp hD
  dsimp only at hD
  refine k_runC rfl rfl rfl rfl (t_d_bounded (d := d + 1) ht hv18) ?_
  refine k_runB (pc' := 87) (loc' := [(0, .ref 40960), (2, .int x2), (3, .int x3), (4, .int ((s0 * (s1 + s2)) + x3)), (5, .int v14), (6, .int v18)]) (st' := [.int 99, .int 0, .ref 40960]) 4 rfl ?_
  obtain ⟨⟨v22, F23, A24, J25⟩, hv22, hD⟩ := Option.bind_eq_some_iff.mp hD
  dsimp only at hD
  refine k_runC rfl rfl rfl rfl (t_d_bounded (d := d + 1) ht hv22) ?_
  refine k_runB (pc' := 96) (loc' := [(0, .ref 40960), (2, .int x2), (3, .int x3), (4, .int ((s0 * (s1 + s2)) + x3)), (5, .int v14), (6, .int v18), (7, .int v22)]) (st' := [.int 99, .int 0, .ref 40960]) 4 rfl ?_
  obtain ⟨⟨v26, F27, A28, J29⟩, hv26, hD⟩ := Option.bind_eq_some_iff.mp hD
  dsimp only at hD
  refine k_runC rfl rfl rfl rfl (t_d_bounded (d := d + 1) ht hv26) ?_
  refine k_runB (pc' := 111) (loc' := [(0, .ref 40960), (2, .int x2), (3, .int x3), (4, .int ((s0 * (s1 + s2)) + x3)), (5, .int v14), (6, .int v18), (7, .int v22), (8, .int v26), (9, .int ((-1))), (10, .int ((-1)))]) (st' := [.int (F27 13)]) 7 rfl ?_
  refine k_if rfl (fun c111_29 => ?_) (fun c111_29 => ?_)
  · rw [c111_29, cond_true] at hD
    refine k_wk [0, 2, 3, 4, 5, 6, 7, 8, 9, 10] (loc' := [(0, .ref 40960), (2, .int x2), (3, .int x3), (4, .int ((s0 * (s1 + s2)) + x3)), (5, .int v14), (6, .int v18), (7, .int v22), (8, .int v26), (9, .int ((-1))), (10, .int ((-1)))]) rfl rfl ?_
    exact t_d_tellStep_134 ht  hD
  · rw [c111_29, cond_false] at hD
    refine k_runB (pc' := 117) (loc' := [(0, .ref 40960), (2, .int x2), (3, .int x3), (4, .int ((s0 * (s1 + s2)) + x3)), (5, .int v14), (6, .int v18), (7, .int v22), (8, .int v26), (9, .int ((-1))), (10, .int ((-1)))]) (st' := [.int 26, .ref 40960]) 2 rfl ?_
    obtain ⟨v31, hv31, hD⟩ := Option.bind_eq_some_iff.mp hD
    refine k_runC rfl rfl rfl rfl (t_d_is (d := d + 3) hv31) ?_
    refine k_if rfl (fun c120_31 => ?_) (fun c120_31 => ?_)
    · rw [c120_31, cond_true] at hD
      refine k_wk [0, 2, 3, 4, 5, 6, 7, 8, 9, 10] (loc' := [(0, .ref 40960), (2, .int x2), (3, .int x3), (4, .int ((s0 * (s1 + s2)) + x3)), (5, .int v14), (6, .int v18), (7, .int v22), (8, .int v26), (9, .int ((-1))), (10, .int ((-1)))]) rfl rfl ?_
      exact t_d_tellStep_134 ht  hD
    · rw [c120_31, cond_false] at hD
      refine k_runB (pc' := 124) (loc' := [(0, .ref 40960), (2, .int x2), (3, .int x3), (4, .int ((s0 * (s1 + s2)) + x3)), (5, .int v14), (6, .int v18), (7, .int v22), (8, .int v26), (9, .int ((-1))), (10, .int ((-1)))]) (st' := [.ref 40960]) 1 rfl ?_
      obtain ⟨⟨v33, F34, A35, J36⟩, hv33, hD⟩ := Option.bind_eq_some_iff.mp hD
      dsimp only at hD
      refine k_runC rfl rfl rfl rfl (t_d_goesOn (d := d + 2) ht hv33) ?_
      refine k_runB (pc' := 129) (loc' := [(0, .ref 40960), (2, .int x2), (3, .int x3), (4, .int ((s0 * (s1 + s2)) + x3)), (5, .int v14), (6, .int v18), (7, .int v22), (8, .int v26), (9, .int ((-1))), (10, .int ((-1)))]) (st' := [.int 1, .ref 40960]) 2 rfl ?_
      obtain ⟨⟨v37, F38, A39, J40⟩, hv37, hD⟩ := Option.bind_eq_some_iff.mp hD
      dsimp only at hD
      refine k_runC rfl rfl rfl rfl (t_d_known (d := d) ht hv37) ?_
      refine k_runB (pc' := 134) (loc' := [(0, .ref 40960), (2, .int x2), (3, .int x3), (4, .int ((s0 * (s1 + s2)) + x3)), (5, .int v14), (6, .int v18), (7, .int v22), (8, .int v26), (9, .int v37), (10, .int ((-1)))]) (st' := []) 1 rfl ?_
      refine k_wk [0, 2, 3, 4, 5, 6, 7, 8, 9, 10] (loc' := [(0, .ref 40960), (2, .int x2), (3, .int x3), (4, .int ((s0 * (s1 + s2)) + x3)), (5, .int v14), (6, .int v18), (7, .int v22), (8, .int v26), (9, .int v37), (10, .int ((-1)))]) rfl rfl ?_
      exact t_d_tellStep_134 ht  hD
def d_tellStep_41 (n : Nat) (F : Nat → Int32) (A : Nat → Nat → Int32) (J : Nat → Nat → Int64) (x2 : Int32) (x3 : Int32) : Option (Unit × (Nat → Int32) × (Nat → Nat → Int32) × (Nat → Nat → Int64)) :=
    cond (g_cnd .ge x2 0)
    (d_tellStep_59 n F A J x2 x3 6 (6 * (F 19)) x2)
    (d_tellStep_59 n F A J x2 x3 6 (6 * (F 19)) 0)
theorem t_d_tellStep_41 (ht : ∀ k, t.1 12 k = k_ty 12 k) {n : Nat}  {F : Nat → Int32} {A : Nat → Nat → Int32} {J : Nat → Nat → Int64} {x2 : Int32} {x3 : Int32} {w : Unit × (Nat → Int32) × (Nat → Nat → Int32) × (Nat → Nat → Int64)} : d_tellStep_41 n F A J x2 x3 = some w → k_run t lg (d + 4) 168 41 [(0, .ref 40960), (2, .int x2), (3, .int x3)] [] (m_h c B F A J) (none, m_h c B w.2.1 w.2.2.1 w.2.2.2) := by
  intro hD
  unfold d_tellStep_41 at hD
  refine k_runB (pc' := 51) (loc' := [(0, .ref 40960), (2, .int x2), (3, .int x3)]) (st' := [.int x2, .int (6 * (F 19)), .int 6]) 6 rfl ?_
  refine k_if rfl (fun c51_12 => ?_) (fun c51_12 => ?_)
  · rw [c51_12, cond_true] at hD
    refine k_runB (pc' := 59) (loc' := [(0, .ref 40960), (2, .int x2), (3, .int x3)]) (st' := [.int x2, .int (6 * (F 19)), .int 6]) 1 rfl ?_
    refine k_wk [0, 2, 3] (loc' := [(0, .ref 40960), (2, .int x2), (3, .int x3)]) rfl rfl ?_
    exact t_d_tellStep_59 ht  hD
  · rw [c51_12, cond_false] at hD
    refine k_runB (pc' := 59) (loc' := [(0, .ref 40960), (2, .int x2), (3, .int x3)]) (st' := [.int 0, .int (6 * (F 19)), .int 6]) 2 rfl ?_
    refine k_wk [0, 2, 3] (loc' := [(0, .ref 40960), (2, .int x2), (3, .int x3)]) rfl rfl ?_
    exact t_d_tellStep_59 ht  hD
def d_tellStep_28 (n : Nat) (F : Nat → Int32) (A : Nat → Nat → Int32) (J : Nat → Nat → Int64) (x1 : Int32) (x2 : Int32) (s0 : Int32) : Option (Unit × (Nat → Int32) × (Nat → Nat → Int32) × (Nat → Nat → Int64)) :=
    cond (g_cnd .ne s0 6)
    (d_tellStep_41 n F A J x2 s0)
    ((d_failAt F A J 2 x1).bind fun (_, F43, A44, J45) =>
    cond (g_cnd .ge x2 0)
    (d_tellStep_59 n F43 A44 J45 x2 s0 6 (6 * (F43 19)) x2)
    (d_tellStep_59 n F43 A44 J45 x2 s0 6 (6 * (F43 19)) 0))
theorem t_d_tellStep_28 (ht : ∀ k, t.1 12 k = k_ty 12 k) {n : Nat}  {F : Nat → Int32} {A : Nat → Nat → Int32} {J : Nat → Nat → Int64} {x1 : Int32} {x2 : Int32} {s0 : Int32} {w : Unit × (Nat → Int32) × (Nat → Nat → Int32) × (Nat → Nat → Int64)} : d_tellStep_28 n F A J x1 x2 s0 = some w → k_run t lg (d + 4) 168 28 [(0, .ref 40960), (1, .int x1), (2, .int x2)] [.int s0] (m_h c B F A J) (none, m_h c B w.2.1 w.2.2.1 w.2.2.2) := by
  intro hD
  unfold d_tellStep_28 at hD
  refine k_runB (pc' := 32) (loc' := [(0, .ref 40960), (1, .int x1), (2, .int x2), (3, .int s0)]) (st' := [.int 6, .int s0]) 3 rfl ?_
  refine k_ic rfl (fun c32_40 => ?_) (fun c32_40 => ?_)
  · rw [c32_40, cond_true] at hD
    refine k_wk [0, 2, 3] (loc' := [(0, .ref 40960), (2, .int x2), (3, .int s0)]) rfl rfl ?_
    exact t_d_tellStep_41 ht  hD
  · rw [c32_40, cond_false] at hD
    refine k_runB (pc' := 38) (loc' := [(0, .ref 40960), (1, .int x1), (2, .int x2), (3, .int s0)]) (st' := [.int x1, .int 2, .ref 40960]) 3 rfl ?_
    obtain ⟨⟨v42, F43, A44, J45⟩, hv42, hD⟩ := Option.bind_eq_some_iff.mp hD
    dsimp only at hD
    refine k_runC rfl rfl rfl rfl (t_d_failAt (d := d + 3) ht hv42) ?_
    refine k_runB (pc' := 51) (loc' := [(0, .ref 40960), (1, .int x1), (2, .int x2), (3, .int s0)]) (st' := [.int x2, .int (6 * (F43 19)), .int 6]) 6 rfl ?_
    refine k_if rfl (fun c51_45 => ?_) (fun c51_45 => ?_)
    · rw [c51_45, cond_true] at hD
      refine k_runB (pc' := 59) (loc' := [(0, .ref 40960), (1, .int x1), (2, .int x2), (3, .int s0)]) (st' := [.int x2, .int (6 * (F43 19)), .int 6]) 1 rfl ?_
      refine k_wk [0, 2, 3] (loc' := [(0, .ref 40960), (2, .int x2), (3, .int s0)]) rfl rfl ?_
      exact t_d_tellStep_59 ht  hD
    · rw [c51_45, cond_false] at hD
      refine k_runB (pc' := 59) (loc' := [(0, .ref 40960), (1, .int x1), (2, .int x2), (3, .int s0)]) (st' := [.int 0, .int (6 * (F43 19)), .int 6]) 2 rfl ?_
      refine k_wk [0, 2, 3] (loc' := [(0, .ref 40960), (2, .int x2), (3, .int s0)]) rfl rfl ?_
      exact t_d_tellStep_59 ht  hD
/-- SleepWorkModel.tellStep(I)V -/
def d_tellStep (n : Nat) (F : Nat → Int32) (A : Nat → Nat → Int32) (J : Nat → Nat → Int64) (x1 : Int32) : Option (Unit × (Nat → Int32) × (Nat → Nat → Int32) × (Nat → Nat → Int64)) :=
  (d_known n F A J 2).bind fun (v1, F2, A3, J4) =>
  cond (g_cnd .ge v1 0)
  ((m_ld (A3 22) 12 ((6 * (F2 19)) + v1)).bind fun v6 =>
  cond (g_cnd .ne v6 6)
  (d_tellStep_41 n F2 A3 J4 v1 v6)
  ((d_failAt F2 A3 J4 2 x1).bind fun (_, F9, A10, J11) =>
  d_tellStep_59 n F9 A10 J11 v1 v6 6 (6 * (F9 19)) v1))
  (d_tellStep_28 n F2 A3 J4 x1 v1 0)
theorem t_d_tellStep (ht : ∀ k, t.1 12 k = k_ty 12 k) {n : Nat} {x1 : Int32} {r : Unit} {F' : Nat → Int32} {A' : Nat → Nat → Int32} {J' : Nat → Nat → Int64} : d_tellStep n F A J x1 = some (r, F', A', J') → k_run t lg (d + 4) 168 0 [(0, .ref 40960), (1, .int x1)] [] (m_h c B F A J) (none, m_h c B F' A' J') := by
  intro hD
  unfold d_tellStep at hD
  refine k_runB (pc' := 2) (loc' := [(0, .ref 40960), (1, .int x1)]) (st' := [.int 2, .ref 40960]) 2 rfl ?_
  obtain ⟨⟨v1, F2, A3, J4⟩, hv1, hD⟩ := Option.bind_eq_some_iff.mp hD
  dsimp only at hD
  refine k_runC rfl rfl rfl rfl (t_d_known (d := d) ht hv1) ?_
  refine k_runB (pc' := 7) (loc' := [(0, .ref 40960), (1, .int x1), (2, .int v1)]) (st' := [.int v1]) 2 rfl ?_
  refine k_if rfl (fun c7_4 => ?_) (fun c7_4 => ?_)
  · rw [c7_4, cond_true] at hD
    refine k_runB (pc' := 27) (loc' := [(0, .ref 40960), (1, .int x1), (2, .int v1)]) (st' := [.int ((6 * (F2 19)) + v1), .ref 40982]) 8 rfl ?_
    obtain ⟨v6, hv6, hD⟩ := Option.bind_eq_some_iff.mp hD
    refine k_ldI rfl rfl hv6 ?_
    refine k_runB (pc' := 32) (loc' := [(0, .ref 40960), (1, .int x1), (2, .int v1), (3, .int v6)]) (st' := [.int 6, .int v6]) 3 rfl ?_
    refine k_ic rfl (fun c32_6 => ?_) (fun c32_6 => ?_)
    · rw [c32_6, cond_true] at hD
      refine k_wk [0, 2, 3] (loc' := [(0, .ref 40960), (2, .int v1), (3, .int v6)]) rfl rfl ?_
      exact t_d_tellStep_41 ht  hD
    · rw [c32_6, cond_false] at hD
      refine k_runB (pc' := 38) (loc' := [(0, .ref 40960), (1, .int x1), (2, .int v1), (3, .int v6)]) (st' := [.int x1, .int 2, .ref 40960]) 3 rfl ?_
      obtain ⟨⟨v8, F9, A10, J11⟩, hv8, hD⟩ := Option.bind_eq_some_iff.mp hD
      dsimp only at hD
      refine k_runC rfl rfl rfl rfl (t_d_failAt (d := d + 3) ht hv8) ?_
      refine k_runB (pc' := 51) (loc' := [(0, .ref 40960), (1, .int x1), (2, .int v1), (3, .int v6)]) (st' := [.int v1, .int (6 * (F9 19)), .int 6]) 6 rfl ?_
      refine k_if rfl (fun _ => ?_) (fun c9 => by rw [c7_4] at c9; cases c9)
      refine k_runB (pc' := 59) (loc' := [(0, .ref 40960), (1, .int x1), (2, .int v1), (3, .int v6)]) (st' := [.int v1, .int (6 * (F9 19)), .int 6]) 1 rfl ?_
      refine k_wk [0, 2, 3] (loc' := [(0, .ref 40960), (2, .int v1), (3, .int v6)]) rfl rfl ?_
      exact t_d_tellStep_59 ht  hD
  · rw [c7_4, cond_false] at hD
    refine k_runB (pc' := 28) (loc' := [(0, .ref 40960), (1, .int x1), (2, .int v1)]) (st' := [.int 0]) 2 rfl ?_
    refine k_wk [0, 1, 2] (loc' := [(0, .ref 40960), (1, .int x1), (2, .int v1)]) rfl rfl ?_
    exact t_d_tellStep_28 ht  hD
def d_tellMan_118 (n : Nat) (F : Nat → Int32) (A : Nat → Nat → Int32) (J : Nat → Nat → Int64) (x2 : Int32) : Option (Unit × (Nat → Int32) × (Nat → Nat → Int32) × (Nat → Nat → Int64)) :=
    (d_must F A J 4).bind fun (_, F28, A29, J30) =>
    cond (g_cnd .le (F28 13) 0)
    ((m_ld (A29 29) 2 (F28 19)).bind fun v32 =>
    (d_notes F28 A29 J30 x2 3 v32).bind fun (_, F34, A35, J36) =>
    (m_ld (A35 29) 2 (F34 19)).bind fun v37 =>
    (m_st A35 29 2 (F34 19) (v37 + 1)).bind fun A38 =>
    some ((), F34, A38, J36))
    (some ((), F28, A29, J30))
theorem t_d_tellMan_118 (ht : ∀ k, t.1 12 k = k_ty 12 k) {n : Nat}  {F : Nat → Int32} {A : Nat → Nat → Int32} {J : Nat → Nat → Int64} {x2 : Int32} {w : Unit × (Nat → Int32) × (Nat → Nat → Int32) × (Nat → Nat → Int64)} : d_tellMan_118 n F A J x2 = some w → k_run t lg (d + 4) 169 118 [(0, .ref 40960), (2, .int x2)] [] (m_h c B F A J) (none, m_h c B w.2.1 w.2.2.1 w.2.2.2) := by
  intro hD
  unfold d_tellMan_118 at hD
  refine k_runB (pc' := 120) (loc' := [(0, .ref 40960), (2, .int x2)]) (st' := [.int 4, .ref 40960]) 2 rfl ?_
  obtain ⟨⟨v27, F28, A29, J30⟩, hv27, hD⟩ := Option.bind_eq_some_iff.mp hD
  dsimp only at hD
  refine k_runC rfl rfl rfl rfl (t_d_must (d := d + 1) ht hv27) ?_
  refine k_runB (pc' := 127) (loc' := [(0, .ref 40960), (2, .int x2)]) (st' := [.int (F28 13)]) 2 rfl ?_
  refine k_if rfl (fun c127_30 => ?_) (fun c127_30 => ?_)
  · rw [c127_30, cond_true] at hD
    refine k_runB (pc' := 142) (loc' := [(0, .ref 40960), (2, .int x2)]) (st' := [.int (F28 19), .ref 40989, .int 3, .int x2, .ref 40960]) 7 rfl ?_
    obtain ⟨v32, hv32, hD⟩ := Option.bind_eq_some_iff.mp hD
    refine k_ldI rfl rfl hv32 ?_
    obtain ⟨⟨v33, F34, A35, J36⟩, hv33, hD⟩ := Option.bind_eq_some_iff.mp hD
    dsimp only at hD
    refine k_runC rfl rfl rfl rfl (t_d_notes (d := d + 3) ht hv33) ?_
    refine k_runB (pc' := 155) (loc' := [(0, .ref 40960), (2, .int x2)]) (st' := [.int (F34 19), .ref 40989, .int (F34 19), .ref 40989]) 5 rfl ?_
    obtain ⟨v37, hv37, hD⟩ := Option.bind_eq_some_iff.mp hD
    refine k_ldI rfl rfl hv37 ?_
    refine k_runB (pc' := 158) (loc' := [(0, .ref 40960), (2, .int x2)]) (st' := [.int (v37 + 1), .int (F34 19), .ref 40989]) 2 rfl ?_
    obtain ⟨A38, hA38, hD⟩ := Option.bind_eq_some_iff.mp hD
    refine k_stI 29 rfl rfl (fun _ => rfl) hA38 ?_
    cases hD
    exact k_vret rfl rfl
  · rw [c127_30, cond_false] at hD
    cases hD
    exact k_vret rfl rfl
def d_tellMan_114 (n : Nat) (F : Nat → Int32) (A : Nat → Nat → Int32) (J : Nat → Nat → Int64) (x2 : Int32) (s1 : Int32) (s3 : Int32) (s4 : Int32) : Option (Unit × (Nat → Int32) × (Nat → Nat → Int32) × (Nat → Nat → Int64)) :=
    (d_bounded F A J s3 s4).bind fun (v39, F40, A41, J42) =>
    (m_st A41 32 12 s1 v39).bind fun A43 =>
    (d_must F40 A43 J42 4).bind fun (_, F45, A46, J47) =>
    cond (g_cnd .le (F45 13) 0)
    ((m_ld (A46 29) 2 (F45 19)).bind fun v49 =>
    (d_notes F45 A46 J47 x2 3 v49).bind fun (_, F51, A52, J53) =>
    (m_ld (A52 29) 2 (F51 19)).bind fun v54 =>
    (m_st A52 29 2 (F51 19) (v54 + 1)).bind fun A55 =>
    some ((), F51, A55, J53))
    (some ((), F45, A46, J47))
theorem t_d_tellMan_114 (ht : ∀ k, t.1 12 k = k_ty 12 k) {n : Nat}  {F : Nat → Int32} {A : Nat → Nat → Int32} {J : Nat → Nat → Int64} {x2 : Int32} {s1 : Int32} {s3 : Int32} {s4 : Int32} {w : Unit × (Nat → Int32) × (Nat → Nat → Int32) × (Nat → Nat → Int64)} : d_tellMan_114 n F A J x2 s1 s3 s4 = some w → k_run t lg (d + 4) 169 114 [(0, .ref 40960), (2, .int x2)] [.int s4, .int s3, .ref 40960, .int s1, .ref 40992] (m_h c B F A J) (none, m_h c B w.2.1 w.2.2.1 w.2.2.2) := by
  intro hD
  unfold d_tellMan_114 at hD
  obtain ⟨⟨v39, F40, A41, J42⟩, hv39, hD⟩ := Option.bind_eq_some_iff.mp hD
  dsimp only at hD
  refine k_runC rfl rfl rfl rfl (t_d_bounded (d := d + 1) ht hv39) ?_
  obtain ⟨A43, hA43, hD⟩ := Option.bind_eq_some_iff.mp hD
  refine k_stI 32 rfl rfl (fun _ => rfl) hA43 ?_
  refine k_runB (pc' := 120) (loc' := [(0, .ref 40960), (2, .int x2)]) (st' := [.int 4, .ref 40960]) 2 rfl ?_
  obtain ⟨⟨v44, F45, A46, J47⟩, hv44, hD⟩ := Option.bind_eq_some_iff.mp hD
  dsimp only at hD
  refine k_runC rfl rfl rfl rfl (t_d_must (d := d + 1) ht hv44) ?_
  refine k_runB (pc' := 127) (loc' := [(0, .ref 40960), (2, .int x2)]) (st' := [.int (F45 13)]) 2 rfl ?_
  refine k_if rfl (fun c127_47 => ?_) (fun c127_47 => ?_)
  · rw [c127_47, cond_true] at hD
    refine k_runB (pc' := 142) (loc' := [(0, .ref 40960), (2, .int x2)]) (st' := [.int (F45 19), .ref 40989, .int 3, .int x2, .ref 40960]) 7 rfl ?_
    obtain ⟨v49, hv49, hD⟩ := Option.bind_eq_some_iff.mp hD
    refine k_ldI rfl rfl hv49 ?_
    obtain ⟨⟨v50, F51, A52, J53⟩, hv50, hD⟩ := Option.bind_eq_some_iff.mp hD
    dsimp only at hD
    refine k_runC rfl rfl rfl rfl (t_d_notes (d := d + 3) ht hv50) ?_
    refine k_runB (pc' := 155) (loc' := [(0, .ref 40960), (2, .int x2)]) (st' := [.int (F51 19), .ref 40989, .int (F51 19), .ref 40989]) 5 rfl ?_
    obtain ⟨v54, hv54, hD⟩ := Option.bind_eq_some_iff.mp hD
    refine k_ldI rfl rfl hv54 ?_
    refine k_runB (pc' := 158) (loc' := [(0, .ref 40960), (2, .int x2)]) (st' := [.int (v54 + 1), .int (F51 19), .ref 40989]) 2 rfl ?_
    obtain ⟨A55, hA55, hD⟩ := Option.bind_eq_some_iff.mp hD
    refine k_stI 29 rfl rfl (fun _ => rfl) hA55 ?_
    cases hD
    exact k_vret rfl rfl
  · rw [c127_47, cond_false] at hD
    cases hD
    exact k_vret rfl rfl
/-- SleepWorkModel.tellMan()V -/
def d_tellMan (n : Nat) (F : Nat → Int32) (A : Nat → Nat → Int32) (J : Nat → Nat → Int64) : Option (Unit × (Nat → Int32) × (Nat → Nat → Int32) × (Nat → Nat → Int64)) :=
  (m_ld (A 29) 2 (F 19)).bind fun v1 =>
  (d_named n F A J).bind fun (v2, F3, A4, J5) =>
  (d_known n F3 A4 J5 0).bind fun (v6, F7, A8, J9) =>
  (m_st A8 30 12 ((6 * (F 19)) + v1) v6).bind fun A10 =>
  (m_st A10 31 12 ((6 * (F 19)) + v1) ((-1))).bind fun A11 =>
  (m_st A11 32 12 ((6 * (F 19)) + v1) ((-1))).bind fun A12 =>
  cond (g_cnd .ne (F7 13) 0)
  (d_tellMan_118 n F7 A12 J9 v2)
  ((d_is F7 A12 J9 29).bind fun v14 =>
  cond (g_cnd .eq v14 0)
  (d_tellMan_118 n F7 A12 J9 v2)
  ((d_goesOn F7 A12 J9).bind fun (_, F17, A18, J19) =>
  (d_known n F17 A18 J19 2).bind fun (v20, F21, A22, J23) =>
  (m_st A22 31 12 ((6 * (F 19)) + v1) v20).bind fun A24 =>
  cond (g_cnd .ge v20 0)
  ((m_ld (A24 22) 12 ((6 * (F21 19)) + v20)).bind fun v26 =>
  d_tellMan_114 n F21 A24 J23 v2 ((6 * (F 19)) + v1) 0 (v26 - 1))
  (d_tellMan_114 n F21 A24 J23 v2 ((6 * (F 19)) + v1) 0 9999)))
theorem t_d_tellMan (ht : ∀ k, t.1 12 k = k_ty 12 k) {n : Nat} {r : Unit} {F' : Nat → Int32} {A' : Nat → Nat → Int32} {J' : Nat → Nat → Int64} : d_tellMan n F A J = some (r, F', A', J') → k_run t lg (d + 4) 169 0 [(0, .ref 40960)] [] (m_h c B F A J) (none, m_h c B F' A' J') := by
  intro hD
  unfold d_tellMan at hD
  refine k_runB (pc' := 15) (loc' := [(0, .ref 40960)]) (st' := [.int (F 19), .ref 40989, .int (6 * (F 19))]) 8 rfl ?_
  obtain ⟨v1, hv1, hD⟩ := Option.bind_eq_some_iff.mp hD
  refine k_ldI rfl rfl hv1 ?_
  refine k_runB (pc' := 19) (loc' := [(0, .ref 40960), (1, .int ((6 * (F 19)) + v1))]) (st' := [.ref 40960]) 3 rfl ?_
  obtain ⟨⟨v2, F3, A4, J5⟩, hv2, hD⟩ := Option.bind_eq_some_iff.mp hD
  dsimp only at hD
  refine k_runC rfl rfl rfl rfl (t_d_named (d := d) ht hv2) ?_
  refine k_runB (pc' := 30) (loc' := [(0, .ref 40960), (1, .int ((6 * (F 19)) + v1)), (2, .int v2)]) (st' := [.int 0, .ref 40960, .int ((6 * (F 19)) + v1), .ref 40990]) 6 rfl ?_
  obtain ⟨⟨v6, F7, A8, J9⟩, hv6, hD⟩ := Option.bind_eq_some_iff.mp hD
  dsimp only at hD
  refine k_runC rfl rfl rfl rfl (t_d_known (d := d) ht hv6) ?_
  obtain ⟨A10, hA10, hD⟩ := Option.bind_eq_some_iff.mp hD
  refine k_stI 30 rfl rfl (fun _ => rfl) hA10 ?_
  refine k_runB (pc' := 40) (loc' := [(0, .ref 40960), (1, .int ((6 * (F 19)) + v1)), (2, .int v2)]) (st' := [.int ((-1)), .int ((6 * (F 19)) + v1), .ref 40991]) 4 rfl ?_
  obtain ⟨A11, hA11, hD⟩ := Option.bind_eq_some_iff.mp hD
  refine k_stI 31 rfl rfl (fun _ => rfl) hA11 ?_
  refine k_runB (pc' := 47) (loc' := [(0, .ref 40960), (1, .int ((6 * (F 19)) + v1)), (2, .int v2)]) (st' := [.int ((-1)), .int ((6 * (F 19)) + v1), .ref 40992]) 4 rfl ?_
  obtain ⟨A12, hA12, hD⟩ := Option.bind_eq_some_iff.mp hD
  refine k_stI 32 rfl rfl (fun _ => rfl) hA12 ?_
  refine k_runB (pc' := 52) (loc' := [(0, .ref 40960), (1, .int ((6 * (F 19)) + v1)), (2, .int v2)]) (st' := [.int (F7 13)]) 2 rfl ?_
  refine k_if rfl (fun c52_12 => ?_) (fun c52_12 => ?_)
  · rw [c52_12, cond_true] at hD
    refine k_wk [0, 2] (loc' := [(0, .ref 40960), (2, .int v2)]) rfl rfl ?_
    exact t_d_tellMan_118 ht  hD
  · rw [c52_12, cond_false] at hD
    refine k_runB (pc' := 58) (loc' := [(0, .ref 40960), (1, .int ((6 * (F 19)) + v1)), (2, .int v2)]) (st' := [.int 29, .ref 40960]) 2 rfl ?_
    obtain ⟨v14, hv14, hD⟩ := Option.bind_eq_some_iff.mp hD
    refine k_runC rfl rfl rfl rfl (t_d_is (d := d + 3) hv14) ?_
    refine k_if rfl (fun c61_14 => ?_) (fun c61_14 => ?_)
    · rw [c61_14, cond_true] at hD
      refine k_wk [0, 2] (loc' := [(0, .ref 40960), (2, .int v2)]) rfl rfl ?_
      exact t_d_tellMan_118 ht  hD
    · rw [c61_14, cond_false] at hD
      refine k_runB (pc' := 65) (loc' := [(0, .ref 40960), (1, .int ((6 * (F 19)) + v1)), (2, .int v2)]) (st' := [.ref 40960]) 1 rfl ?_
      obtain ⟨⟨v16, F17, A18, J19⟩, hv16, hD⟩ := Option.bind_eq_some_iff.mp hD
      dsimp only at hD
      refine k_runC rfl rfl rfl rfl (t_d_goesOn (d := d + 2) ht hv16) ?_
      refine k_runB (pc' := 70) (loc' := [(0, .ref 40960), (1, .int ((6 * (F 19)) + v1)), (2, .int v2)]) (st' := [.int 2, .ref 40960]) 2 rfl ?_
      obtain ⟨⟨v20, F21, A22, J23⟩, hv20, hD⟩ := Option.bind_eq_some_iff.mp hD
      dsimp only at hD
      refine k_runC rfl rfl rfl rfl (t_d_known (d := d) ht hv20) ?_
      refine k_runB (pc' := 80) (loc' := [(0, .ref 40960), (1, .int ((6 * (F 19)) + v1)), (2, .int v2), (3, .int v20)]) (st' := [.int v20, .int ((6 * (F 19)) + v1), .ref 40991]) 5 rfl ?_
      obtain ⟨A24, hA24, hD⟩ := Option.bind_eq_some_iff.mp hD
      refine k_stI 31 rfl rfl (fun _ => rfl) hA24 ?_
      refine k_runB (pc' := 89) (loc' := [(0, .ref 40960), (1, .int ((6 * (F 19)) + v1)), (2, .int v2), (3, .int v20)]) (st' := [.int v20, .int 0, .ref 40960, .int ((6 * (F 19)) + v1), .ref 40992]) 6 rfl ?_
      refine k_if rfl (fun c89_24 => ?_) (fun c89_24 => ?_)
      · rw [c89_24, cond_true] at hD
        refine k_runB (pc' := 111) (loc' := [(0, .ref 40960), (1, .int ((6 * (F 19)) + v1)), (2, .int v2), (3, .int v20)]) (st' := [.int ((6 * (F21 19)) + v20), .ref 40982, .int 0, .ref 40960, .int ((6 * (F 19)) + v1), .ref 40992]) 8 rfl ?_
        obtain ⟨v26, hv26, hD⟩ := Option.bind_eq_some_iff.mp hD
        refine k_ldI rfl rfl hv26 ?_
        refine k_runB (pc' := 114) (loc' := [(0, .ref 40960), (1, .int ((6 * (F 19)) + v1)), (2, .int v2), (3, .int v20)]) (st' := [.int (v26 - 1), .int 0, .ref 40960, .int ((6 * (F 19)) + v1), .ref 40992]) 2 rfl ?_
        refine k_wk [0, 2] (loc' := [(0, .ref 40960), (2, .int v2)]) rfl rfl ?_
        exact t_d_tellMan_114 ht  hD
      · rw [c89_24, cond_false] at hD
        refine k_runB (pc' := 114) (loc' := [(0, .ref 40960), (1, .int ((6 * (F 19)) + v1)), (2, .int v2), (3, .int v20)]) (st' := [.int 9999, .int 0, .ref 40960, .int ((6 * (F 19)) + v1), .ref 40992]) 2 rfl ?_
        refine k_wk [0, 2] (loc' := [(0, .ref 40960), (2, .int v2)]) rfl rfl ?_
        exact t_d_tellMan_114 ht  hD
end MD
