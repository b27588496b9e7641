section Qz23
/-! the class's methods as functions (printed by wip/dec2.py) -/
section MC
variable {t : gT} {lg : Nat → Nat} {d : Nat} {c : Nat × Nat} {B : Nat → List gE}
/-- SleepWork$House.hasStep(II)Z  -/
def e_House_hasStep (P : Nat → Nat → Nat) (F : Nat → Nat → Int32) (A : Nat → Nat → Nat → Int32) (J : Nat → Nat → Nat → Int64) (r0 : Nat) (x1 : Int32) (x2 : Int32) : Option (Int32) :=
  cond (g_cnd .lt x1 0)
  (some (0))
  (cond (g_cnd .ge x1 (F r0 16))
  (some (0))
  (cond (g_cnd .lt x2 0)
  (some (0))
  ((m_ld (A r0 5) 6 x1).bind fun v4 =>
  cond (g_cnd .ge x2 v4)
  (some (0))
  (some (1)))))
set_option maxRecDepth 10000 in
theorem t_e_House_hasStep {P : Nat → Nat → Nat} {F : Nat → Nat → Int32} {A : Nat → Nat → Nat → Int32} {J : Nat → Nat → Nat → Int64} {r0 : Nat} {x1 : Int32} {x2 : Int32} (hr0 : c_kind r0 = 6) {w : Int32} : e_House_hasStep P F A J r0 x1 x2 = some w → k_run t lg (d) 23 0 [(0, .ref (r0 * 1024)), (1, .int x1), (2, .int x2)] [] (c_h c B P F A J) (some (.int w), c_h c B P F A J) := by
  intro hD
  unfold e_House_hasStep at hD
  refine k_runB (pc' := 1) (loc' := [(0, .ref (r0 * 1024)), (1, .int x1), (2, .int x2)]) (st' := [.int x1]) 1 rfl ?_
  refine k_if rfl (fun c1_0 => ?_) (fun c1_0 => ?_)
  · rw [c1_0, cond_true] at hD
    refine k_runB (pc' := 31) (loc' := [(0, .ref (r0 * 1024)), (1, .int x1), (2, .int x2)]) (st' := [.int 0]) 1 rfl ?_
    cases hD
    exact k_zret rfl rfl (Or.inl rfl)
  · rw [c1_0, cond_false] at hD
    refine k_runB (pc' := 6) (loc' := [(0, .ref (r0 * 1024)), (1, .int x1), (2, .int x2)]) (st' := [.ref (r0 * 1024), .int x1]) 2 rfl ?_
    refine k_gf r0 0 (K := 6) hr0 rfl rfl rfl rfl ?_
    refine k_ic rfl (fun c9_1 => ?_) (fun c9_1 => ?_)
    · rw [c9_1, cond_true] at hD
      refine k_runB (pc' := 31) (loc' := [(0, .ref (r0 * 1024)), (1, .int x1), (2, .int x2)]) (st' := [.int 0]) 1 rfl ?_
      cases hD
      exact k_zret rfl rfl (Or.inl rfl)
    · rw [c9_1, cond_false] at hD
      refine k_runB (pc' := 13) (loc' := [(0, .ref (r0 * 1024)), (1, .int x1), (2, .int x2)]) (st' := [.int x2]) 1 rfl ?_
      refine k_if rfl (fun c13_2 => ?_) (fun c13_2 => ?_)
      · rw [c13_2, cond_true] at hD
        refine k_runB (pc' := 31) (loc' := [(0, .ref (r0 * 1024)), (1, .int x1), (2, .int x2)]) (st' := [.int 0]) 1 rfl ?_
        cases hD
        exact k_zret rfl rfl (Or.inl rfl)
      · rw [c13_2, cond_false] at hD
        refine k_runB (pc' := 18) (loc' := [(0, .ref (r0 * 1024)), (1, .int x1), (2, .int x2)]) (st' := [.ref (r0 * 1024), .int x2]) 2 rfl ?_
        refine k_gf r0 0 (K := 6) hr0 rfl rfl rfl rfl ?_
        refine k_runB (pc' := 22) (loc' := [(0, .ref (r0 * 1024)), (1, .int x1), (2, .int x2)]) (st' := [.int x1, .ref (r0 * 1024 + 5), .int x2]) 1 rfl ?_
        obtain ⟨v4, hv4, hD⟩ := Option.bind_eq_some_iff.mp hD
        refine k_ldI rfl (c_get (r := r0) (o := 5) (K := 6) hr0 (by decide)) hv4 ?_
        refine k_ic rfl (fun c23_4 => ?_) (fun c23_4 => ?_)
        · rw [c23_4, cond_true] at hD
          refine k_runB (pc' := 31) (loc' := [(0, .ref (r0 * 1024)), (1, .int x1), (2, .int x2)]) (st' := [.int 0]) 1 rfl ?_
          cases hD
          exact k_zret rfl rfl (Or.inl rfl)
        · rw [c23_4, cond_false] at hD
          refine k_runB (pc' := 31) (loc' := [(0, .ref (r0 * 1024)), (1, .int x1), (2, .int x2)]) (st' := [.int 1]) 2 rfl ?_
          cases hD
          exact k_zret rfl rfl (Or.inr rfl)
/-- SleepWork$Laws.add(II)I  -/
def e_Laws_add (P : Nat → Nat → Nat) (F : Nat → Nat → Int32) (A : Nat → Nat → Nat → Int32) (J : Nat → Nat → Nat → Int64) (r0 : Nat) (x1 : Int32) (x2 : Int32) : Option (Int32 × (Nat → Nat → Nat) × (Nat → Nat → Int32) × (Nat → Nat → Nat → Int32) × (Nat → Nat → Nat → Int64)) :=
  cond (g_cnd .ge (F r0 1304) 400)
  (some ((F r0 1304) - 1, P, F, A, J))
  ((c_st A r0 15 400 (F r0 1304) x1).bind fun A2 =>
  (c_st A2 r0 16 400 (F r0 1304) x2).bind fun A3 =>
  (c_pf F r0 1304 ((F r0 1304) + 1)).bind fun F4 =>
  some ((F4 r0 1304) - 1, P, F4, A3, J))
set_option maxRecDepth 10000 in
theorem t_e_Laws_add (ht : ∀ ci k, t.1 ci k = k_ty ci k) {P : Nat → Nat → Nat} {F : Nat → Nat → Int32} {A : Nat → Nat → Nat → Int32} {J : Nat → Nat → Nat → Int64} {r0 : Nat} {x1 : Int32} {x2 : Int32} (hr0 : c_kind r0 = 6) {w : Int32 × (Nat → Nat → Nat) × (Nat → Nat → Int32) × (Nat → Nat → Nat → Int32) × (Nat → Nat → Nat → Int64)} : e_Laws_add P F A J r0 x1 x2 = some w → k_run t lg (d) 31 0 [(0, .ref (r0 * 1024 + 13)), (1, .int x1), (2, .int x2)] [] (c_h c B P F A J) (some (.int w.1), c_h c B w.2.1 w.2.2.1 w.2.2.2.1 w.2.2.2.2) := by
  intro hD
  unfold e_Laws_add at hD
  refine k_runB (pc' := 1) (loc' := [(0, .ref (r0 * 1024 + 13)), (1, .int x1), (2, .int x2)]) (st' := [.ref (r0 * 1024 + 13)]) 1 rfl ?_
  refine k_gf r0 13 (K := 6) hr0 rfl rfl rfl rfl ?_
  refine k_runB (pc' := 7) (loc' := [(0, .ref (r0 * 1024 + 13)), (1, .int x1), (2, .int x2)]) (st' := [.int 400, .int (F r0 1304)]) 1 rfl ?_
  refine k_ic rfl (fun c7_0 => ?_) (fun c7_0 => ?_)
  · rw [c7_0, cond_true] at hD
    refine k_runB (pc' := 41) (loc' := [(0, .ref (r0 * 1024 + 13)), (1, .int x1), (2, .int x2)]) (st' := [.ref (r0 * 1024 + 13)]) 1 rfl ?_
    refine k_gf r0 13 (K := 6) hr0 rfl rfl rfl rfl ?_
    refine k_runB (pc' := 46) (loc' := [(0, .ref (r0 * 1024 + 13)), (1, .int x1), (2, .int x2)]) (st' := [.int ((F r0 1304) - 1)]) 2 rfl ?_
    cases hD
    exact k_iret rfl rfl
  · rw [c7_0, cond_false] at hD
    refine k_runB (pc' := 11) (loc' := [(0, .ref (r0 * 1024 + 13)), (1, .int x1), (2, .int x2)]) (st' := [.ref (r0 * 1024 + 13)]) 1 rfl ?_
    refine k_gf r0 13 (K := 6) hr0 rfl rfl rfl rfl ?_
    refine k_runB (pc' := 15) (loc' := [(0, .ref (r0 * 1024 + 13)), (1, .int x1), (2, .int x2)]) (st' := [.ref (r0 * 1024 + 13), .ref (r0 * 1024 + 15)]) 1 rfl ?_
    refine k_gf r0 13 (K := 6) hr0 rfl rfl rfl rfl ?_
    refine k_runB (pc' := 19) (loc' := [(0, .ref (r0 * 1024 + 13)), (1, .int x1), (2, .int x2)]) (st' := [.int x1, .int (F r0 1304), .ref (r0 * 1024 + 15)]) 1 rfl ?_
    obtain ⟨A2, hA2, hD⟩ := Option.bind_eq_some_iff.mp hD
    refine k_cstI r0 15 (K := 6) hr0 rfl rfl rfl (fun _ => rfl) hA2 ?_
    refine k_runB (pc' := 21) (loc' := [(0, .ref (r0 * 1024 + 13)), (1, .int x1), (2, .int x2)]) (st' := [.ref (r0 * 1024 + 13)]) 1 rfl ?_
    refine k_gf r0 13 (K := 6) hr0 rfl rfl rfl rfl ?_
    refine k_runB (pc' := 25) (loc' := [(0, .ref (r0 * 1024 + 13)), (1, .int x1), (2, .int x2)]) (st' := [.ref (r0 * 1024 + 13), .ref (r0 * 1024 + 16)]) 1 rfl ?_
    refine k_gf r0 13 (K := 6) hr0 rfl rfl rfl rfl ?_
    refine k_runB (pc' := 29) (loc' := [(0, .ref (r0 * 1024 + 13)), (1, .int x1), (2, .int x2)]) (st' := [.int x2, .int (F r0 1304), .ref (r0 * 1024 + 16)]) 1 rfl ?_
    obtain ⟨A3, hA3, hD⟩ := Option.bind_eq_some_iff.mp hD
    refine k_cstI r0 16 (K := 6) hr0 rfl rfl rfl (fun _ => rfl) hA3 ?_
    refine k_runB (pc' := 32) (loc' := [(0, .ref (r0 * 1024 + 13)), (1, .int x1), (2, .int x2)]) (st' := [.ref (r0 * 1024 + 13), .ref (r0 * 1024 + 13)]) 2 rfl ?_
    refine k_gf r0 13 (K := 6) hr0 rfl rfl rfl rfl ?_
    refine k_runB (pc' := 37) (loc' := [(0, .ref (r0 * 1024 + 13)), (1, .int x1), (2, .int x2)]) (st' := [.int ((F r0 1304) + 1), .ref (r0 * 1024 + 13)]) 2 rfl ?_
    obtain ⟨F4, hF4, hD⟩ := Option.bind_eq_some_iff.mp hD
    refine k_cpt r0 13 (K := 6) (key := 1304) hr0 rfl (ht 2 4) rfl rfl rfl hF4 ?_
    refine k_runB (pc' := 41) (loc' := [(0, .ref (r0 * 1024 + 13)), (1, .int x1), (2, .int x2)]) (st' := [.ref (r0 * 1024 + 13)]) 1 rfl ?_
    refine k_gf r0 13 (K := 6) hr0 rfl rfl rfl rfl ?_
    refine k_runB (pc' := 46) (loc' := [(0, .ref (r0 * 1024 + 13)), (1, .int x1), (2, .int x2)]) (st' := [.int ((F4 r0 1304) - 1)]) 2 rfl ?_
    cases hD
    exact k_iret rfl rfl
/-- SleepWork$Laws.aimHere(I)V  -/
def e_Laws_aimHere (P : Nat → Nat → Nat) (F : Nat → Nat → Int32) (A : Nat → Nat → Nat → Int32) (J : Nat → Nat → Nat → Int64) (r0 : Nat) (x1 : Int32) : Option (Unit × (Nat → Nat → Nat) × (Nat → Nat → Int32) × (Nat → Nat → Nat → Int32) × (Nat → Nat → Nat → Int64)) :=
  cond (g_cnd .lt x1 0)
  (some ((), P, F, A, J))
  (cond (g_cnd .ge x1 (F r0 1304))
  (some ((), P, F, A, J))
  ((c_st A r0 16 400 x1 (F r0 1304)).bind fun A3 =>
  some ((), P, F, A3, J)))
set_option maxRecDepth 10000 in
theorem t_e_Laws_aimHere {P : Nat → Nat → Nat} {F : Nat → Nat → Int32} {A : Nat → Nat → Nat → Int32} {J : Nat → Nat → Nat → Int64} {r0 : Nat} {x1 : Int32} (hr0 : c_kind r0 = 6) {w : Unit × (Nat → Nat → Nat) × (Nat → Nat → Int32) × (Nat → Nat → Nat → Int32) × (Nat → Nat → Nat → Int64)} : e_Laws_aimHere P F A J r0 x1 = some w → k_run t lg (d) 32 0 [(0, .ref (r0 * 1024 + 13)), (1, .int x1)] [] (c_h c B P F A J) (none, c_h c B w.2.1 w.2.2.1 w.2.2.2.1 w.2.2.2.2) := by
  intro hD
  unfold e_Laws_aimHere at hD
  refine k_runB (pc' := 1) (loc' := [(0, .ref (r0 * 1024 + 13)), (1, .int x1)]) (st' := [.int x1]) 1 rfl ?_
  refine k_if rfl (fun c1_0 => ?_) (fun c1_0 => ?_)
  · rw [c1_0, cond_true] at hD
    cases hD
    exact k_vret rfl rfl
  · rw [c1_0, cond_false] at hD
    refine k_runB (pc' := 6) (loc' := [(0, .ref (r0 * 1024 + 13)), (1, .int x1)]) (st' := [.ref (r0 * 1024 + 13), .int x1]) 2 rfl ?_
    refine k_gf r0 13 (K := 6) hr0 rfl rfl rfl rfl ?_
    refine k_ic rfl (fun c9_1 => ?_) (fun c9_1 => ?_)
    · rw [c9_1, cond_true] at hD
      cases hD
      exact k_vret rfl rfl
    · rw [c9_1, cond_false] at hD
      refine k_runB (pc' := 13) (loc' := [(0, .ref (r0 * 1024 + 13)), (1, .int x1)]) (st' := [.ref (r0 * 1024 + 13)]) 1 rfl ?_
      refine k_gf r0 13 (K := 6) hr0 rfl rfl rfl rfl ?_
      refine k_runB (pc' := 18) (loc' := [(0, .ref (r0 * 1024 + 13)), (1, .int x1)]) (st' := [.ref (r0 * 1024 + 13), .int x1, .ref (r0 * 1024 + 16)]) 2 rfl ?_
      refine k_gf r0 13 (K := 6) hr0 rfl rfl rfl rfl ?_
      obtain ⟨A3, hA3, hD⟩ := Option.bind_eq_some_iff.mp hD
      refine k_cstI r0 16 (K := 6) hr0 rfl rfl rfl (fun _ => rfl) hA3 ?_
      cases hD
      exact k_vret rfl rfl
def e_Past_push_35 (P : Nat → Nat → Nat) (F : Nat → Nat → Int32) (A : Nat → Nat → Nat → Int32) (J : Nat → Nat → Nat → Int64) (r1 : Nat) : Option (Unit × (Nat → Nat → Nat) × (Nat → Nat → Int32) × (Nat → Nat → Nat → Int32) × (Nat → Nat → Nat → Int64)) :=
    (m_rem (((F 4 1) + (F 4 2)) - 1) 20).bind fun v12 =>
    (c_ar 20 5 2 v12).bind fun q13 =>
    (e_State_copy P F A J q13 r1).bind fun (_, P15, F16, A17, J18) =>
    some ((), P15, F16, A17, J18)
set_option maxRecDepth 10000 in
theorem t_e_Past_push_35 (ht : ∀ ci k, t.1 ci k = k_ty ci k)  {P : Nat → Nat → Nat} {F : Nat → Nat → Int32} {A : Nat → Nat → Nat → Int32} {J : Nat → Nat → Nat → Int64} {r1 : Nat} (hr1 : c_kind r1 = 2) {w : Unit × (Nat → Nat → Nat) × (Nat → Nat → Int32) × (Nat → Nat → Nat → Int32) × (Nat → Nat → Nat → Int64)} : e_Past_push_35 P F A J r1 = some w → k_run t lg (d + 1) 36 35 [(0, .ref (4 * 1024)), (1, .ref (r1 * 1024))] [] (c_h c B P F A J) (none, c_h c B w.2.1 w.2.2.1 w.2.2.2.1 w.2.2.2.2) := by
  intro hD
  unfold e_Past_push_35 at hD
  refine k_runB (pc' := 36) (loc' := [(0, .ref (4 * 1024)), (1, .ref (r1 * 1024))]) (st' := [.ref (4 * 1024)]) 1 rfl ?_
  refine k_gf 4 0 (K := 3) rfl rfl rfl rfl rfl ?_
  refine k_runB (pc' := 40) (loc' := [(0, .ref (4 * 1024)), (1, .ref (r1 * 1024))]) (st' := [.ref (4 * 1024), .ref (4 * 1024 + 1)]) 1 rfl ?_
  refine k_gf 4 0 (K := 3) rfl rfl rfl rfl rfl ?_
  refine k_runB (pc' := 44) (loc' := [(0, .ref (4 * 1024)), (1, .ref (r1 * 1024))]) (st' := [.ref (4 * 1024), .int (F 4 1), .ref (4 * 1024 + 1)]) 1 rfl ?_
  refine k_gf 4 0 (K := 3) rfl rfl rfl rfl rfl ?_
  refine k_runB (pc' := 52) (loc' := [(0, .ref (4 * 1024)), (1, .ref (r1 * 1024))]) (st' := [.int 20, .int (((F 4 1) + (F 4 2)) - 1), .ref (4 * 1024 + 1)]) 4 rfl ?_
  obtain ⟨v12, hv12, hD⟩ := Option.bind_eq_some_iff.mp hD
  refine k_rmI rfl hv12 ?_
  obtain ⟨q13, hq13, hD⟩ := Option.bind_eq_some_iff.mp hD
  refine k_aal 4 1 (K := 3) rfl rfl rfl rfl hq13 (fun kq13 => ?_)
  refine k_runB (pc' := 55) (loc' := [(0, .ref (4 * 1024)), (1, .ref (r1 * 1024))]) (st' := [.ref (r1 * 1024), .ref (q13 * 1024)]) 1 rfl ?_
  obtain ⟨⟨v14, P15, F16, A17, J18⟩, hv14, hD⟩ := Option.bind_eq_some_iff.mp hD
  dsimp only at hD
  refine k_runV rfl rfl rfl (c_get (r := q13) (o := 0) (K := 2) kq13 (by decide)) rfl rfl (t_e_State_copy (d := d) ht kq13 hr1 hv14) ?_
  cases hD
  exact k_vret rfl rfl
/-- SleepWork$Past.push(LSleepWork$State;)V  -/
def e_Past_push (P : Nat → Nat → Nat) (F : Nat → Nat → Int32) (A : Nat → Nat → Nat → Int32) (J : Nat → Nat → Nat → Int64) (r1 : Nat) : Option (Unit × (Nat → Nat → Nat) × (Nat → Nat → Int32) × (Nat → Nat → Nat → Int32) × (Nat → Nat → Nat → Int64)) :=
  cond (g_cnd .ne (F 4 2) 20)
  ((c_pf F 4 2 ((F 4 2) + 1)).bind fun F2 =>
  (m_rem (((F2 4 1) + (F2 4 2)) - 1) 20).bind fun v3 =>
  (c_ar 20 5 2 v3).bind fun q4 =>
  (e_State_copy P F2 A J q4 r1).bind fun (_, P6, F7, A8, J9) =>
  some ((), P6, F7, A8, J9))
  ((m_rem ((F 4 1) + 1) 20).bind fun v10 =>
  (c_pf F 4 1 v10).bind fun F11 =>
  e_Past_push_35 P F11 A J r1)
set_option maxRecDepth 10000 in
theorem t_e_Past_push (ht : ∀ ci k, t.1 ci k = k_ty ci k) {P : Nat → Nat → Nat} {F : Nat → Nat → Int32} {A : Nat → Nat → Nat → Int32} {J : Nat → Nat → Nat → Int64} {r1 : Nat} (hr1 : c_kind r1 = 2) {w : Unit × (Nat → Nat → Nat) × (Nat → Nat → Int32) × (Nat → Nat → Nat → Int32) × (Nat → Nat → Nat → Int64)} : e_Past_push P F A J r1 = some w → k_run t lg (d + 1) 36 0 [(0, .ref (4 * 1024)), (1, .ref (r1 * 1024))] [] (c_h c B P F A J) (none, c_h c B w.2.1 w.2.2.1 w.2.2.2.1 w.2.2.2.2) := by
  intro hD
  unfold e_Past_push at hD
  refine k_runB (pc' := 1) (loc' := [(0, .ref (4 * 1024)), (1, .ref (r1 * 1024))]) (st' := [.ref (4 * 1024)]) 1 rfl ?_
  refine k_gf 4 0 (K := 3) rfl rfl rfl rfl rfl ?_
  refine k_runB (pc' := 6) (loc' := [(0, .ref (4 * 1024)), (1, .ref (r1 * 1024))]) (st' := [.int 20, .int (F 4 2)]) 1 rfl ?_
  refine k_ic rfl (fun c6_0 => ?_) (fun c6_0 => ?_)
  · rw [c6_0, cond_true] at hD
    refine k_runB (pc' := 27) (loc' := [(0, .ref (4 * 1024)), (1, .ref (r1 * 1024))]) (st' := [.ref (4 * 1024), .ref (4 * 1024)]) 2 rfl ?_
    refine k_gf 4 0 (K := 3) rfl rfl rfl rfl rfl ?_
    refine k_runB (pc' := 32) (loc' := [(0, .ref (4 * 1024)), (1, .ref (r1 * 1024))]) (st' := [.int ((F 4 2) + 1), .ref (4 * 1024)]) 2 rfl ?_
    obtain ⟨F2, hF2, hD⟩ := Option.bind_eq_some_iff.mp hD
    refine k_cpt 4 0 (K := 3) (key := 2) rfl rfl (ht 3 2) rfl rfl rfl hF2 ?_
    refine k_runB (pc' := 36) (loc' := [(0, .ref (4 * 1024)), (1, .ref (r1 * 1024))]) (st' := [.ref (4 * 1024)]) 1 rfl ?_
    refine k_gf 4 0 (K := 3) rfl rfl rfl rfl rfl ?_
    refine k_runB (pc' := 40) (loc' := [(0, .ref (4 * 1024)), (1, .ref (r1 * 1024))]) (st' := [.ref (4 * 1024), .ref (4 * 1024 + 1)]) 1 rfl ?_
    refine k_gf 4 0 (K := 3) rfl rfl rfl rfl rfl ?_
    refine k_runB (pc' := 44) (loc' := [(0, .ref (4 * 1024)), (1, .ref (r1 * 1024))]) (st' := [.ref (4 * 1024), .int (F2 4 1), .ref (4 * 1024 + 1)]) 1 rfl ?_
    refine k_gf 4 0 (K := 3) rfl rfl rfl rfl rfl ?_
    refine k_runB (pc' := 52) (loc' := [(0, .ref (4 * 1024)), (1, .ref (r1 * 1024))]) (st' := [.int 20, .int (((F2 4 1) + (F2 4 2)) - 1), .ref (4 * 1024 + 1)]) 4 rfl ?_
    obtain ⟨v3, hv3, hD⟩ := Option.bind_eq_some_iff.mp hD
    refine k_rmI rfl hv3 ?_
    obtain ⟨q4, hq4, hD⟩ := Option.bind_eq_some_iff.mp hD
    refine k_aal 4 1 (K := 3) rfl rfl rfl rfl hq4 (fun kq4 => ?_)
    refine k_runB (pc' := 55) (loc' := [(0, .ref (4 * 1024)), (1, .ref (r1 * 1024))]) (st' := [.ref (r1 * 1024), .ref (q4 * 1024)]) 1 rfl ?_
    obtain ⟨⟨v5, P6, F7, A8, J9⟩, hv5, hD⟩ := Option.bind_eq_some_iff.mp hD
    dsimp only at hD
    refine k_runV rfl rfl rfl (c_get (r := q4) (o := 0) (K := 2) kq4 (by decide)) rfl rfl (t_e_State_copy (d := d) ht kq4 hr1 hv5) ?_
    cases hD
    exact k_vret rfl rfl
  · rw [c6_0, cond_false] at hD
    refine k_runB (pc' := 11) (loc' := [(0, .ref (4 * 1024)), (1, .ref (r1 * 1024))]) (st' := [.ref (4 * 1024), .ref (4 * 1024)]) 2 rfl ?_
    refine k_gf 4 0 (K := 3) rfl rfl rfl rfl rfl ?_
    refine k_runB (pc' := 18) (loc' := [(0, .ref (4 * 1024)), (1, .ref (r1 * 1024))]) (st' := [.int 20, .int ((F 4 1) + 1), .ref (4 * 1024)]) 3 rfl ?_
    obtain ⟨v10, hv10, hD⟩ := Option.bind_eq_some_iff.mp hD
    refine k_rmI rfl hv10 ?_
    obtain ⟨F11, hF11, hD⟩ := Option.bind_eq_some_iff.mp hD
    refine k_cpt 4 0 (K := 3) (key := 1) rfl rfl (ht 3 1) rfl rfl rfl hF11 ?_
    refine k_runB (pc' := 35) (loc' := [(0, .ref (4 * 1024)), (1, .ref (r1 * 1024))]) (st' := []) 1 rfl ?_
    refine k_wk [0, 1] (loc' := [(0, .ref (4 * 1024)), (1, .ref (r1 * 1024))]) rfl rfl ?_
    exact t_e_Past_push_35 ht  hr1 hD
/-- SleepWork$Past.pull(LSleepWork$State;)Z  -/
def e_Past_pull (P : Nat → Nat → Nat) (F : Nat → Nat → Int32) (A : Nat → Nat → Nat → Int32) (J : Nat → Nat → Nat → Int64) (r1 : Nat) : Option (Int32 × (Nat → Nat → Nat) × (Nat → Nat → Int32) × (Nat → Nat → Nat → Int32) × (Nat → Nat → Nat → Int64)) :=
  cond (g_cnd .ne (F 4 2) 0)
  ((c_pf F 4 2 ((F 4 2) - 1)).bind fun F2 =>
  (m_rem ((F2 4 1) + (F2 4 2)) 20).bind fun v3 =>
  (c_ar 20 5 2 v3).bind fun q4 =>
  (e_State_copy P F2 A J r1 q4).bind fun (_, P6, F7, A8, J9) =>
  some (1, P6, F7, A8, J9))
  (some (0, P, F, A, J))
set_option maxRecDepth 10000 in
theorem t_e_Past_pull (ht : ∀ ci k, t.1 ci k = k_ty ci k) {P : Nat → Nat → Nat} {F : Nat → Nat → Int32} {A : Nat → Nat → Nat → Int32} {J : Nat → Nat → Nat → Int64} {r1 : Nat} (hr1 : c_kind r1 = 2) {w : Int32 × (Nat → Nat → Nat) × (Nat → Nat → Int32) × (Nat → Nat → Nat → Int32) × (Nat → Nat → Nat → Int64)} : e_Past_pull P F A J r1 = some w → k_run t lg (d + 1) 37 0 [(0, .ref (4 * 1024)), (1, .ref (r1 * 1024))] [] (c_h c B P F A J) (some (.int w.1), c_h c B w.2.1 w.2.2.1 w.2.2.2.1 w.2.2.2.2) := by
  intro hD
  unfold e_Past_pull at hD
  refine k_runB (pc' := 1) (loc' := [(0, .ref (4 * 1024)), (1, .ref (r1 * 1024))]) (st' := [.ref (4 * 1024)]) 1 rfl ?_
  refine k_gf 4 0 (K := 3) rfl rfl rfl rfl rfl ?_
  refine k_if rfl (fun c4_0 => ?_) (fun c4_0 => ?_)
  · rw [c4_0, cond_true] at hD
    refine k_runB (pc' := 11) (loc' := [(0, .ref (4 * 1024)), (1, .ref (r1 * 1024))]) (st' := [.ref (4 * 1024), .ref (4 * 1024)]) 2 rfl ?_
    refine k_gf 4 0 (K := 3) rfl rfl rfl rfl rfl ?_
    refine k_runB (pc' := 16) (loc' := [(0, .ref (4 * 1024)), (1, .ref (r1 * 1024))]) (st' := [.int ((F 4 2) - 1), .ref (4 * 1024)]) 2 rfl ?_
    obtain ⟨F2, hF2, hD⟩ := Option.bind_eq_some_iff.mp hD
    refine k_cpt 4 0 (K := 3) (key := 2) rfl rfl (ht 3 2) rfl rfl rfl hF2 ?_
    refine k_runB (pc' := 21) (loc' := [(0, .ref (4 * 1024)), (1, .ref (r1 * 1024))]) (st' := [.ref (4 * 1024), .ref (r1 * 1024)]) 2 rfl ?_
    refine k_gf 4 0 (K := 3) rfl rfl rfl rfl rfl ?_
    refine k_runB (pc' := 25) (loc' := [(0, .ref (4 * 1024)), (1, .ref (r1 * 1024))]) (st' := [.ref (4 * 1024), .ref (4 * 1024 + 1), .ref (r1 * 1024)]) 1 rfl ?_
    refine k_gf 4 0 (K := 3) rfl rfl rfl rfl rfl ?_
    refine k_runB (pc' := 29) (loc' := [(0, .ref (4 * 1024)), (1, .ref (r1 * 1024))]) (st' := [.ref (4 * 1024), .int (F2 4 1), .ref (4 * 1024 + 1), .ref (r1 * 1024)]) 1 rfl ?_
    refine k_gf 4 0 (K := 3) rfl rfl rfl rfl rfl ?_
    refine k_runB (pc' := 35) (loc' := [(0, .ref (4 * 1024)), (1, .ref (r1 * 1024))]) (st' := [.int 20, .int ((F2 4 1) + (F2 4 2)), .ref (4 * 1024 + 1), .ref (r1 * 1024)]) 2 rfl ?_
    obtain ⟨v3, hv3, hD⟩ := Option.bind_eq_some_iff.mp hD
    refine k_rmI rfl hv3 ?_
    obtain ⟨q4, hq4, hD⟩ := Option.bind_eq_some_iff.mp hD
    refine k_aal 4 1 (K := 3) rfl rfl rfl rfl hq4 (fun kq4 => ?_)
    obtain ⟨⟨v5, P6, F7, A8, J9⟩, hv5, hD⟩ := Option.bind_eq_some_iff.mp hD
    dsimp only at hD
    refine k_runV rfl rfl rfl (c_get (r := r1) (o := 0) (K := 2) hr1 (by decide)) rfl rfl (t_e_State_copy (d := d) ht hr1 kq4 hv5) ?_
    refine k_runB (pc' := 41) (loc' := [(0, .ref (4 * 1024)), (1, .ref (r1 * 1024))]) (st' := [.int 1]) 1 rfl ?_
    cases hD
    exact k_zret rfl rfl (Or.inr rfl)
  · rw [c4_0, cond_false] at hD
    refine k_runB (pc' := 8) (loc' := [(0, .ref (4 * 1024)), (1, .ref (r1 * 1024))]) (st' := [.int 0]) 1 rfl ?_
    cases hD
    exact k_zret rfl rfl (Or.inl rfl)
/-- SleepWork$State.clear()V  -/
def e_State_clear (P : Nat → Nat → Nat) (F : Nat → Nat → Int32) (A : Nat → Nat → Nat → Int32) (J : Nat → Nat → Nat → Int64) (r0 : Nat) : Option (Unit × (Nat → Nat → Nat) × (Nat → Nat → Int32) × (Nat → Nat → Nat → Int32) × (Nat → Nat → Nat → Int64)) :=
  (c_fi A r0 1 36 0).bind fun A1 =>
  (c_fi A1 r0 2 6 0).bind fun A2 =>
  (c_fi A2 r0 3 6 ((-1))).bind fun A3 =>
  (c_fi A3 r0 4 6 0).bind fun A4 =>
  (c_fi A4 r0 5 6 0).bind fun A5 =>
  (c_fi A5 r0 6 6 0).bind fun A6 =>
  (c_fi A6 r0 7 6 ((-2))).bind fun A7 =>
  (c_pf F r0 7 0).bind fun F8 =>
  (c_pf F8 r0 8 0).bind fun F9 =>
  some ((), P, F9, A7, J)
set_option maxRecDepth 10000 in
theorem t_e_State_clear (ht : ∀ ci k, t.1 ci k = k_ty ci k) {P : Nat → Nat → Nat} {F : Nat → Nat → Int32} {A : Nat → Nat → Nat → Int32} {J : Nat → Nat → Nat → Int64} {r0 : Nat} (hr0 : c_kind r0 = 2) {w : Unit × (Nat → Nat → Nat) × (Nat → Nat → Int32) × (Nat → Nat → Nat → Int32) × (Nat → Nat → Nat → Int64)} : e_State_clear P F A J r0 = some w → k_run t lg (d + 1) 84 0 [(0, .ref (r0 * 1024))] [] (c_h c B P F A J) (none, c_h c B w.2.1 w.2.2.1 w.2.2.2.1 w.2.2.2.2) := by
  intro hD
  unfold e_State_clear at hD
  refine k_runB (pc' := 1) (loc' := [(0, .ref (r0 * 1024))]) (st' := [.ref (r0 * 1024)]) 1 rfl ?_
  refine k_gf r0 0 (K := 2) hr0 rfl rfl rfl rfl ?_
  refine k_runB (pc' := 5) (loc' := [(0, .ref (r0 * 1024))]) (st' := [.int 0, .ref (r0 * 1024 + 1)]) 1 rfl ?_
  obtain ⟨A1, hA1, hD⟩ := Option.bind_eq_some_iff.mp hD
  refine k_runC rfl rfl rfl rfl (t_fillI r0 1 (K := 2) (n := 36) hr0 (fun _ => rfl) (fun _ _ => rfl) (by decide) hA1) ?_
  refine k_runB (pc' := 9) (loc' := [(0, .ref (r0 * 1024))]) (st' := [.ref (r0 * 1024)]) 1 rfl ?_
  refine k_gf r0 0 (K := 2) hr0 rfl rfl rfl rfl ?_
  refine k_runB (pc' := 13) (loc' := [(0, .ref (r0 * 1024))]) (st' := [.int 0, .ref (r0 * 1024 + 2)]) 1 rfl ?_
  obtain ⟨A2, hA2, hD⟩ := Option.bind_eq_some_iff.mp hD
  refine k_runC rfl rfl rfl rfl (t_fillI r0 2 (K := 2) (n := 6) hr0 (fun _ => rfl) (fun _ _ => rfl) (by decide) hA2) ?_
  refine k_runB (pc' := 17) (loc' := [(0, .ref (r0 * 1024))]) (st' := [.ref (r0 * 1024)]) 1 rfl ?_
  refine k_gf r0 0 (K := 2) hr0 rfl rfl rfl rfl ?_
  refine k_runB (pc' := 21) (loc' := [(0, .ref (r0 * 1024))]) (st' := [.int ((-1)), .ref (r0 * 1024 + 3)]) 1 rfl ?_
  obtain ⟨A3, hA3, hD⟩ := Option.bind_eq_some_iff.mp hD
  refine k_runC rfl rfl rfl rfl (t_fillI r0 3 (K := 2) (n := 6) hr0 (fun _ => rfl) (fun _ _ => rfl) (by decide) hA3) ?_
  refine k_runB (pc' := 25) (loc' := [(0, .ref (r0 * 1024))]) (st' := [.ref (r0 * 1024)]) 1 rfl ?_
  refine k_gf r0 0 (K := 2) hr0 rfl rfl rfl rfl ?_
  refine k_runB (pc' := 29) (loc' := [(0, .ref (r0 * 1024))]) (st' := [.int 0, .ref (r0 * 1024 + 4)]) 1 rfl ?_
  obtain ⟨A4, hA4, hD⟩ := Option.bind_eq_some_iff.mp hD
  refine k_runC rfl rfl rfl rfl (t_fillI r0 4 (K := 2) (n := 6) hr0 (fun _ => rfl) (fun _ _ => rfl) (by decide) hA4) ?_
  refine k_runB (pc' := 33) (loc' := [(0, .ref (r0 * 1024))]) (st' := [.ref (r0 * 1024)]) 1 rfl ?_
  refine k_gf r0 0 (K := 2) hr0 rfl rfl rfl rfl ?_
  refine k_runB (pc' := 37) (loc' := [(0, .ref (r0 * 1024))]) (st' := [.int 0, .ref (r0 * 1024 + 5)]) 1 rfl ?_
  obtain ⟨A5, hA5, hD⟩ := Option.bind_eq_some_iff.mp hD
  refine k_runC rfl rfl rfl rfl (t_fillI r0 5 (K := 2) (n := 6) hr0 (fun _ => rfl) (fun _ _ => rfl) (by decide) hA5) ?_
  refine k_runB (pc' := 41) (loc' := [(0, .ref (r0 * 1024))]) (st' := [.ref (r0 * 1024)]) 1 rfl ?_
  refine k_gf r0 0 (K := 2) hr0 rfl rfl rfl rfl ?_
  refine k_runB (pc' := 45) (loc' := [(0, .ref (r0 * 1024))]) (st' := [.int 0, .ref (r0 * 1024 + 6)]) 1 rfl ?_
  obtain ⟨A6, hA6, hD⟩ := Option.bind_eq_some_iff.mp hD
  refine k_runC rfl rfl rfl rfl (t_fillI r0 6 (K := 2) (n := 6) hr0 (fun _ => rfl) (fun _ _ => rfl) (by decide) hA6) ?_
  refine k_runB (pc' := 49) (loc' := [(0, .ref (r0 * 1024))]) (st' := [.ref (r0 * 1024)]) 1 rfl ?_
  refine k_gf r0 0 (K := 2) hr0 rfl rfl rfl rfl ?_
  refine k_runB (pc' := 54) (loc' := [(0, .ref (r0 * 1024))]) (st' := [.int ((-2)), .ref (r0 * 1024 + 7)]) 1 rfl ?_
  obtain ⟨A7, hA7, hD⟩ := Option.bind_eq_some_iff.mp hD
  refine k_runC rfl rfl rfl rfl (t_fillI r0 7 (K := 2) (n := 6) hr0 (fun _ => rfl) (fun _ _ => rfl) (by decide) hA7) ?_
  refine k_runB (pc' := 59) (loc' := [(0, .ref (r0 * 1024))]) (st' := [.int 0, .ref (r0 * 1024)]) 2 rfl ?_
  obtain ⟨F8, hF8, hD⟩ := Option.bind_eq_some_iff.mp hD
  refine k_cpt r0 0 (K := 2) (key := 7) hr0 rfl (ht 7 7) rfl rfl rfl hF8 ?_
  refine k_runB (pc' := 64) (loc' := [(0, .ref (r0 * 1024))]) (st' := [.int 0, .ref (r0 * 1024)]) 2 rfl ?_
  obtain ⟨F9, hF9, hD⟩ := Option.bind_eq_some_iff.mp hD
  refine k_cpt r0 0 (K := 2) (key := 8) hr0 rfl (ht 7 8) rfl rfl rfl hF9 ?_
  cases hD
  exact k_vret rfl rfl
/-- SleepWork$Scanner.isBlank(I)Z  -/
def e_Scanner_isBlank (P : Nat → Nat → Nat) (F : Nat → Nat → Int32) (A : Nat → Nat → Nat → Int32) (J : Nat → Nat → Nat → Int64) (x0 : Int32) : Option (Int32) :=
  cond (g_cnd .eq x0 9)
  (some (1))
  (cond (g_cnd .eq x0 10)
  (some (1))
  (cond (g_cnd .eq x0 13)
  (some (1))
  (cond (g_cnd .ne x0 32)
  (some (0))
  (some (1)))))
set_option maxRecDepth 10000 in
theorem t_e_Scanner_isBlank {P : Nat → Nat → Nat} {F : Nat → Nat → Int32} {A : Nat → Nat → Nat → Int32} {J : Nat → Nat → Nat → Int64} {x0 : Int32}  {w : Int32} : e_Scanner_isBlank P F A J x0 = some w → k_run t lg (d) 71 0 [(0, .int x0)] [] (c_h c B P F A J) (some (.int w), c_h c B P F A J) := by
  intro hD
  unfold e_Scanner_isBlank at hD
  refine k_runB (pc' := 3) (loc' := [(0, .int x0)]) (st' := [.int 9, .int x0]) 2 rfl ?_
  refine k_ic rfl (fun c3_0 => ?_) (fun c3_0 => ?_)
  · rw [c3_0, cond_true] at hD
    refine k_runB (pc' := 29) (loc' := [(0, .int x0)]) (st' := [.int 1]) 2 rfl ?_
    cases hD
    exact k_zret rfl rfl (Or.inr rfl)
  · rw [c3_0, cond_false] at hD
    refine k_runB (pc' := 9) (loc' := [(0, .int x0)]) (st' := [.int 10, .int x0]) 2 rfl ?_
    refine k_ic rfl (fun c9_1 => ?_) (fun c9_1 => ?_)
    · rw [c9_1, cond_true] at hD
      refine k_runB (pc' := 29) (loc' := [(0, .int x0)]) (st' := [.int 1]) 2 rfl ?_
      cases hD
      exact k_zret rfl rfl (Or.inr rfl)
    · rw [c9_1, cond_false] at hD
      refine k_runB (pc' := 15) (loc' := [(0, .int x0)]) (st' := [.int 13, .int x0]) 2 rfl ?_
      refine k_ic rfl (fun c15_2 => ?_) (fun c15_2 => ?_)
      · rw [c15_2, cond_true] at hD
        refine k_runB (pc' := 29) (loc' := [(0, .int x0)]) (st' := [.int 1]) 2 rfl ?_
        cases hD
        exact k_zret rfl rfl (Or.inr rfl)
      · rw [c15_2, cond_false] at hD
        refine k_runB (pc' := 21) (loc' := [(0, .int x0)]) (st' := [.int 32, .int x0]) 2 rfl ?_
        refine k_ic rfl (fun c21_3 => ?_) (fun c21_3 => ?_)
        · rw [c21_3, cond_true] at hD
          refine k_runB (pc' := 29) (loc' := [(0, .int x0)]) (st' := [.int 0]) 1 rfl ?_
          cases hD
          exact k_zret rfl rfl (Or.inl rfl)
        · rw [c21_3, cond_false] at hD
          refine k_runB (pc' := 29) (loc' := [(0, .int x0)]) (st' := [.int 1]) 2 rfl ?_
          cases hD
          exact k_zret rfl rfl (Or.inr rfl)
/-- SleepWork$Scanner.isLetter(I)Z  -/
def e_Scanner_isLetter (P : Nat → Nat → Nat) (F : Nat → Nat → Int32) (A : Nat → Nat → Nat → Int32) (J : Nat → Nat → Nat → Int64) (x0 : Int32) : Option (Int32) :=
  cond (g_cnd .lt x0 97)
  (some (0))
  (cond (g_cnd .gt x0 122)
  (some (0))
  (some (1)))
set_option maxRecDepth 10000 in
theorem t_e_Scanner_isLetter {P : Nat → Nat → Nat} {F : Nat → Nat → Int32} {A : Nat → Nat → Nat → Int32} {J : Nat → Nat → Nat → Int64} {x0 : Int32}  {w : Int32} : e_Scanner_isLetter P F A J x0 = some w → k_run t lg (d) 72 0 [(0, .int x0)] [] (c_h c B P F A J) (some (.int w), c_h c B P F A J) := by
  intro hD
  unfold e_Scanner_isLetter at hD
  refine k_runB (pc' := 3) (loc' := [(0, .int x0)]) (st' := [.int 97, .int x0]) 2 rfl ?_
  refine k_ic rfl (fun c3_0 => ?_) (fun c3_0 => ?_)
  · rw [c3_0, cond_true] at hD
    refine k_runB (pc' := 17) (loc' := [(0, .int x0)]) (st' := [.int 0]) 1 rfl ?_
    cases hD
    exact k_zret rfl rfl (Or.inl rfl)
  · rw [c3_0, cond_false] at hD
    refine k_runB (pc' := 9) (loc' := [(0, .int x0)]) (st' := [.int 122, .int x0]) 2 rfl ?_
    refine k_ic rfl (fun c9_1 => ?_) (fun c9_1 => ?_)
    · rw [c9_1, cond_true] at hD
      refine k_runB (pc' := 17) (loc' := [(0, .int x0)]) (st' := [.int 0]) 1 rfl ?_
      cases hD
      exact k_zret rfl rfl (Or.inl rfl)
    · rw [c9_1, cond_false] at hD
      refine k_runB (pc' := 17) (loc' := [(0, .int x0)]) (st' := [.int 1]) 2 rfl ?_
      cases hD
      exact k_zret rfl rfl (Or.inr rfl)
/-- SleepWork$Scanner.isDigit(I)Z  -/
def e_Scanner_isDigit (P : Nat → Nat → Nat) (F : Nat → Nat → Int32) (A : Nat → Nat → Nat → Int32) (J : Nat → Nat → Nat → Int64) (x0 : Int32) : Option (Int32) :=
  cond (g_cnd .lt x0 48)
  (some (0))
  (cond (g_cnd .gt x0 57)
  (some (0))
  (some (1)))
set_option maxRecDepth 10000 in
theorem t_e_Scanner_isDigit {P : Nat → Nat → Nat} {F : Nat → Nat → Int32} {A : Nat → Nat → Nat → Int32} {J : Nat → Nat → Nat → Int64} {x0 : Int32}  {w : Int32} : e_Scanner_isDigit P F A J x0 = some w → k_run t lg (d) 73 0 [(0, .int x0)] [] (c_h c B P F A J) (some (.int w), c_h c B P F A J) := by
  intro hD
  unfold e_Scanner_isDigit at hD
  refine k_runB (pc' := 3) (loc' := [(0, .int x0)]) (st' := [.int 48, .int x0]) 2 rfl ?_
  refine k_ic rfl (fun c3_0 => ?_) (fun c3_0 => ?_)
  · rw [c3_0, cond_true] at hD
    refine k_runB (pc' := 17) (loc' := [(0, .int x0)]) (st' := [.int 0]) 1 rfl ?_
    cases hD
    exact k_zret rfl rfl (Or.inl rfl)
  · rw [c3_0, cond_false] at hD
    refine k_runB (pc' := 9) (loc' := [(0, .int x0)]) (st' := [.int 57, .int x0]) 2 rfl ?_
    refine k_ic rfl (fun c9_1 => ?_) (fun c9_1 => ?_)
    · rw [c9_1, cond_true] at hD
      refine k_runB (pc' := 17) (loc' := [(0, .int x0)]) (st' := [.int 0]) 1 rfl ?_
      cases hD
      exact k_zret rfl rfl (Or.inl rfl)
    · rw [c9_1, cond_false] at hD
      refine k_runB (pc' := 17) (loc' := [(0, .int x0)]) (st' := [.int 1]) 2 rfl ?_
      cases hD
      exact k_zret rfl rfl (Or.inr rfl)
/-- java/lang/String.isLatin1()Z  -/
def e_String_isLatin1 (P : Nat → Nat → Nat) (F : Nat → Nat → Int32) (A : Nat → Nat → Nat → Int32) (J : Nat → Nat → Nat → Int64) : Option (Int32) :=
  some (1)
set_option maxRecDepth 10000 in
theorem t_e_String_isLatin1 {P : Nat → Nat → Nat} {F : Nat → Nat → Int32} {A : Nat → Nat → Nat → Int32} {J : Nat → Nat → Nat → Int64}   {w : Int32} : e_String_isLatin1 P F A J = some w → k_run t lg (d) 251 0 [(0, .float 2)] [] (c_h c B P F A J) (some (.int w), c_h c B P F A J) := by
  intro hD
  unfold e_String_isLatin1 at hD
  refine k_runB (pc' := 3) (loc' := [(0, .float 2)]) (st' := [.int 1]) 1 rfl ?_
  refine k_if rfl (fun c9 => absurd c9 (by decide)) (fun _ => ?_)
  refine k_runB (pc' := 10) (loc' := [(0, .float 2)]) (st' := [.int 0]) 2 rfl ?_
  refine k_if rfl (fun c9 => absurd c9 (by decide)) (fun _ => ?_)
  refine k_runB (pc' := 18) (loc' := [(0, .float 2)]) (st' := [.int 1]) 2 rfl ?_
  cases hD
  exact k_zret rfl rfl (Or.inr rfl)
/-- java/lang/String.coder()B  -/
def e_String_coder (P : Nat → Nat → Nat) (F : Nat → Nat → Int32) (A : Nat → Nat → Nat → Int32) (J : Nat → Nat → Nat → Int64) : Option (Int32) :=
  some (0)
set_option maxRecDepth 10000 in
theorem t_e_String_coder {P : Nat → Nat → Nat} {F : Nat → Nat → Int32} {A : Nat → Nat → Nat → Int32} {J : Nat → Nat → Nat → Int64}   {w : Int32} : e_String_coder P F A J = some w → k_run t lg (d) 250 0 [(0, .float 2)] [] (c_h c B P F A J) (some (.int w), c_h c B P F A J) := by
  intro hD
  unfold e_String_coder at hD
  refine k_runB (pc' := 3) (loc' := [(0, .float 2)]) (st' := [.int 1]) 1 rfl ?_
  refine k_if rfl (fun c9 => absurd c9 (by decide)) (fun _ => ?_)
  refine k_runB (pc' := 14) (loc' := [(0, .float 2)]) (st' := [.int 0]) 3 rfl ?_
  cases hD
  exact k_nret rfl rfl (by decide)
/-- java/lang/String.length()I  -/
def e_String_length (P : Nat → Nat → Nat) (F : Nat → Nat → Int32) (A : Nat → Nat → Nat → Int32) (J : Nat → Nat → Nat → Int64) : Option (Int32) :=
  some ((9 : Int32) >>> ((0 : Int32) &&& 31))
set_option maxRecDepth 10000 in
theorem t_e_String_length {P : Nat → Nat → Nat} {F : Nat → Nat → Int32} {A : Nat → Nat → Nat → Int32} {J : Nat → Nat → Nat → Int64}   {w : Int32} : e_String_length P F A J = some w → k_run t lg (d + 1) 246 0 [(0, .float 2)] [] (c_h c B P F A J) (some (.int w), c_h c B P F A J) := by
  intro hD
  unfold e_String_length at hD
  refine k_runB (pc' := 6) (loc' := [(0, .float 2)]) (st' := [.float 2, .int 9]) 4 rfl ?_
  refine k_runC rfl rfl rfl rfl (t_e_String_coder (d := d) (P := P) (F := F) (A := A) (J := J) (w := 0) rfl) ?_
  refine k_runB (pc' := 10) (loc' := [(0, .float 2)]) (st' := [.int ((9 : Int32) >>> ((0 : Int32) &&& 31))]) 1 rfl ?_
  cases hD
  exact k_iret rfl rfl
/-- java/lang/StringLatin1.canEncode(I)Z  -/
def e_StringLatin1_canEncode (P : Nat → Nat → Nat) (F : Nat → Nat → Int32) (A : Nat → Nat → Nat → Int32) (J : Nat → Nat → Nat → Int64) (x0 : Int32) : Option (Int32) :=
  cond (g_cnd .lt x0 0)
  (some (0))
  (cond (g_cnd .gt x0 255)
  (some (0))
  (some (1)))
set_option maxRecDepth 10000 in
theorem t_e_StringLatin1_canEncode {P : Nat → Nat → Nat} {F : Nat → Nat → Int32} {A : Nat → Nat → Nat → Int32} {J : Nat → Nat → Nat → Int64} {x0 : Int32}  {w : Int32} : e_StringLatin1_canEncode P F A J x0 = some w → k_run t lg (d) 255 0 [(0, .int x0)] [] (c_h c B P F A J) (some (.int w), c_h c B P F A J) := by
  intro hD
  unfold e_StringLatin1_canEncode at hD
  refine k_runB (pc' := 1) (loc' := [(0, .int x0)]) (st' := [.int x0]) 1 rfl ?_
  refine k_if rfl (fun c1_0 => ?_) (fun c1_0 => ?_)
  · rw [c1_0, cond_true] at hD
    refine k_runB (pc' := 16) (loc' := [(0, .int x0)]) (st' := [.int 0]) 1 rfl ?_
    cases hD
    exact k_zret rfl rfl (Or.inl rfl)
  · rw [c1_0, cond_false] at hD
    refine k_runB (pc' := 8) (loc' := [(0, .int x0)]) (st' := [.int 255, .int x0]) 2 rfl ?_
    refine k_ic rfl (fun c8_1 => ?_) (fun c8_1 => ?_)
    · rw [c8_1, cond_true] at hD
      refine k_runB (pc' := 16) (loc' := [(0, .int x0)]) (st' := [.int 0]) 1 rfl ?_
      cases hD
      exact k_zret rfl rfl (Or.inl rfl)
    · rw [c8_1, cond_false] at hD
      refine k_runB (pc' := 16) (loc' := [(0, .int x0)]) (st' := [.int 1]) 2 rfl ?_
      cases hD
      exact k_zret rfl rfl (Or.inr rfl)
def e_StringLatin1_indexOfChar_7 : Nat → (Nat → Nat → Nat) → (Nat → Nat → Int32) → (Nat → Nat → Nat → Int32) → (Nat → Nat → Nat → Int64) → Int32 → Int32 → Int32 → Option (Int32)
  | 0, _, _, _, _, _, _, _ => none
  | n + 1, P, F, A, J, x3, x4, x5 => cond (g_cnd .ge x5 x3)
    (some ((-1)))
    ((m_ld (c_tx 1) 9 x5).bind fun v2 =>
    cond (g_cnd .ne v2 x4)
    ((e_StringLatin1_indexOfChar_7 n) P F A J x3 x4 (x5 + 1))
    (some (x5)))
set_option maxRecDepth 10000 in
theorem t_e_StringLatin1_indexOfChar_7 {n : Nat}  {P : Nat → Nat → Nat} {F : Nat → Nat → Int32} {A : Nat → Nat → Nat → Int32} {J : Nat → Nat → Nat → Int64} {x3 : Int32} {x4 : Int32} {x5 : Int32}  {w : Int32} : e_StringLatin1_indexOfChar_7 n P F A J x3 x4 x5 = some w → k_run t lg (d) 257 7 [(0, .float 4), (3, .int x3), (4, .int x4), (5, .int x5)] [] (c_h c B P F A J) (some (.int w), c_h c B P F A J) := by
  induction n generalizing P F A J x3 x4 x5 w with
  | zero => intro hD; cases hD
  | succ n ih =>
    intro hD
    have hK7 : ∀ (P : Nat → Nat → Nat) (F : Nat → Nat → Int32) (A : Nat → Nat → Nat → Int32) (J : Nat → Nat → Nat → Int64) (x3 : Int32) (x4 : Int32) (x5 : Int32) (w : Int32), e_StringLatin1_indexOfChar_7 n P F A J x3 x4 x5 = some w → k_run t lg (d) 257 7 [(0, .float 4), (3, .int x3), (4, .int x4), (5, .int x5)] [] (c_h c B P F A J) (some (.int w), c_h c B P F A J) := fun _ _ _ _ _ _ _ _  h => ih  h
    unfold e_StringLatin1_indexOfChar_7 at hD
    refine k_runB (pc' := 10) (loc' := [(0, .float 4), (3, .int x3), (4, .int x4), (5, .int x5)]) (st' := [.int x3, .int x5]) 2 rfl ?_
    refine k_ic rfl (fun c10_0 => ?_) (fun c10_0 => ?_)
    · rw [c10_0, cond_true] at hD
      refine k_runB (pc' := 32) (loc' := [(0, .float 4), (3, .int x3), (4, .int x4), (5, .int x5)]) (st' := [.int ((-1))]) 1 rfl ?_
      cases hD
      exact k_iret rfl rfl
    · rw [c10_0, cond_false] at hD
      refine k_runB (pc' := 16) (loc' := [(0, .float 4), (3, .int x3), (4, .int x4), (5, .int x5)]) (st' := [.int x5, .float 4]) 2 rfl ?_
      obtain ⟨v2, hv2, hD⟩ := Option.bind_eq_some_iff.mp hD
      refine k_tbl 1 rfl rfl hv2 ?_
      refine k_runB (pc' := 19) (loc' := [(0, .float 4), (3, .int x3), (4, .int x4), (5, .int x5)]) (st' := [.int x4, .int v2]) 1 rfl ?_
      refine k_ic rfl (fun c19_2 => ?_) (fun c19_2 => ?_)
      · rw [c19_2, cond_true] at hD
        refine k_runB (pc' := 7) (loc' := [(0, .float 4), (3, .int x3), (4, .int x4), (5, .int (x5 + 1))]) (st' := []) 2 rfl ?_
        refine k_wk [0, 3, 4, 5] (loc' := [(0, .float 4), (3, .int x3), (4, .int x4), (5, .int (x5 + 1))]) rfl rfl ?_
        exact hK7 _ _ _ _ _ _ _ _  hD
      · rw [c19_2, cond_false] at hD
        refine k_runB (pc' := 24) (loc' := [(0, .float 4), (3, .int x3), (4, .int x4), (5, .int x5)]) (st' := [.int x5]) 1 rfl ?_
        cases hD
        exact k_iret rfl rfl
/-- java/lang/StringLatin1.indexOfChar([BIII)I  -/
def e_StringLatin1_indexOfChar (n : Nat) (P : Nat → Nat → Nat) (F : Nat → Nat → Int32) (A : Nat → Nat → Nat → Int32) (J : Nat → Nat → Nat → Int64) (x1 : Int32) (x2 : Int32) (x3 : Int32) : Option (Int32) :=
  e_StringLatin1_indexOfChar_7 n P F A J x3 x1.toInt8.toInt32 x2
set_option maxRecDepth 10000 in
theorem t_e_StringLatin1_indexOfChar {n : Nat} {P : Nat → Nat → Nat} {F : Nat → Nat → Int32} {A : Nat → Nat → Nat → Int32} {J : Nat → Nat → Nat → Int64} {x1 : Int32} {x2 : Int32} {x3 : Int32}  {w : Int32} : e_StringLatin1_indexOfChar n P F A J x1 x2 x3 = some w → k_run t lg (d) 257 0 [(0, .float 4), (1, .int x1), (2, .int x2), (3, .int x3)] [] (c_h c B P F A J) (some (.int w), c_h c B P F A J) := by
  intro hD
  unfold e_StringLatin1_indexOfChar at hD
  refine k_runB (pc' := 7) (loc' := [(0, .float 4), (1, .int x1), (2, .int x2), (3, .int x3), (4, .int (x1.toInt8.toInt32)), (5, .int x2)]) (st' := []) 5 rfl ?_
  refine k_wk [0, 3, 4, 5] (loc' := [(0, .float 4), (3, .int x3), (4, .int (x1.toInt8.toInt32)), (5, .int x2)]) rfl rfl ?_
  exact t_e_StringLatin1_indexOfChar_7   hD
/-- java/lang/StringLatin1.indexOf([BIII)I  -/
def e_StringLatin1_indexOf (n : Nat) (P : Nat → Nat → Nat) (F : Nat → Nat → Int32) (A : Nat → Nat → Nat → Int32) (J : Nat → Nat → Nat → Int64) (x1 : Int32) (x2 : Int32) (x3 : Int32) : Option (Int32) :=
  (e_StringLatin1_canEncode P F A J x1).bind fun v1 =>
  cond (g_cnd .ne v1 0)
  (cond (g_cnd .lt (if x2 < 0 then 0 else x2) (if 9 < x3 then 9 else x3))
  ((e_StringLatin1_indexOfChar n P F A J x1 (if x2 < 0 then 0 else x2) (if 9 < x3 then 9 else x3)).bind fun v4 =>
  some (v4))
  (some ((-1))))
  (some ((-1)))
set_option maxRecDepth 10000 in
theorem t_e_StringLatin1_indexOf {n : Nat} {P : Nat → Nat → Nat} {F : Nat → Nat → Int32} {A : Nat → Nat → Nat → Int32} {J : Nat → Nat → Nat → Int64} {x1 : Int32} {x2 : Int32} {x3 : Int32}  {w : Int32} : e_StringLatin1_indexOf n P F A J x1 x2 x3 = some w → k_run t lg (d + 1) 256 0 [(0, .float 4), (1, .int x1), (2, .int x2), (3, .int x3)] [] (c_h c B P F A J) (some (.int w), c_h c B P F A J) := by
  intro hD
  unfold e_StringLatin1_indexOf at hD
  refine k_runB (pc' := 1) (loc' := [(0, .float 4), (1, .int x1), (2, .int x2), (3, .int x3)]) (st' := [.int x1]) 1 rfl ?_
  obtain ⟨v1, hv1, hD⟩ := Option.bind_eq_some_iff.mp hD
  refine k_runC rfl rfl rfl rfl (t_e_StringLatin1_canEncode (d := d) hv1) ?_
  refine k_if rfl (fun c4_1 => ?_) (fun c4_1 => ?_)
  · rw [c4_1, cond_true] at hD
    refine k_runB (pc' := 24) (loc' := [(0, .float 4), (1, .int x1), (2, .int (if x2 < 0 then 0 else x2)), (3, .int (if 9 < x3 then 9 else x3))]) (st' := [.int (if 9 < x3 then 9 else x3), .int (if x2 < 0 then 0 else x2)]) 11 rfl ?_
    refine k_ic rfl (fun c24_2 => ?_) (fun c24_2 => ?_)
    · rw [c24_2, cond_true] at hD
      refine k_runB (pc' := 33) (loc' := [(0, .float 4), (1, .int x1), (2, .int (if x2 < 0 then 0 else x2)), (3, .int (if 9 < x3 then 9 else x3))]) (st' := [.int (if 9 < x3 then 9 else x3), .int (if x2 < 0 then 0 else x2), .int x1, .float 4]) 4 rfl ?_
      obtain ⟨v4, hv4, hD⟩ := Option.bind_eq_some_iff.mp hD
      refine k_runC rfl rfl rfl rfl (t_e_StringLatin1_indexOfChar (d := d) hv4) ?_
      cases hD
      exact k_iret rfl rfl
    · rw [c24_2, cond_false] at hD
      refine k_runB (pc' := 28) (loc' := [(0, .float 4), (1, .int x1), (2, .int (if x2 < 0 then 0 else x2)), (3, .int (if 9 < x3 then 9 else x3))]) (st' := [.int ((-1))]) 1 rfl ?_
      cases hD
      exact k_iret rfl rfl
  · rw [c4_1, cond_false] at hD
    refine k_runB (pc' := 8) (loc' := [(0, .float 4), (1, .int x1), (2, .int x2), (3, .int x3)]) (st' := [.int ((-1))]) 1 rfl ?_
    cases hD
    exact k_iret rfl rfl
/-- java/lang/String.indexOf(II)I  -/
def e_String_indexOf_v1 (n : Nat) (P : Nat → Nat → Nat) (F : Nat → Nat → Int32) (A : Nat → Nat → Nat → Int32) (J : Nat → Nat → Nat → Int64) (x1 : Int32) (x2 : Int32) : Option (Int32) :=
  (e_String_length P F A J).bind fun v2 =>
  (e_StringLatin1_indexOf n P F A J x1 x2 v2).bind fun v3 =>
  some (v3)
set_option maxRecDepth 10000 in
theorem t_e_String_indexOf_v1 {n : Nat} {P : Nat → Nat → Nat} {F : Nat → Nat → Int32} {A : Nat → Nat → Nat → Int32} {J : Nat → Nat → Nat → Int64} {x1 : Int32} {x2 : Int32}  {w : Int32} : e_String_indexOf_v1 n P F A J x1 x2 = some w → k_run t lg (d + 2) 249 0 [(0, .float 2), (1, .int x1), (2, .int x2)] [] (c_h c B P F A J) (some (.int w), c_h c B P F A J) := by
  intro hD
  unfold e_String_indexOf_v1 at hD
  refine k_runB (pc' := 1) (loc' := [(0, .float 2), (1, .int x1), (2, .int x2)]) (st' := [.float 2]) 1 rfl ?_
  refine k_runC rfl rfl rfl rfl (t_e_String_isLatin1 (d := d + 1) (P := P) (F := F) (A := A) (J := J) (w := 1) rfl) ?_
  refine k_if rfl (fun c9 => absurd c9 (by decide)) (fun _ => ?_)
  refine k_runB (pc' := 14) (loc' := [(0, .float 2), (1, .int x1), (2, .int x2)]) (st' := [.float 2, .int x2, .int x1, .float 4]) 5 rfl ?_
  obtain ⟨v2, hv2, hD⟩ := Option.bind_eq_some_iff.mp hD
  refine k_runC rfl rfl rfl rfl (t_e_String_length (d := d) hv2) ?_
  obtain ⟨v3, hv3, hD⟩ := Option.bind_eq_some_iff.mp hD
  refine k_runC rfl rfl rfl rfl (t_e_StringLatin1_indexOf (d := d) hv3) ?_
  refine k_runB (pc' := 36) (loc' := [(0, .float 2), (1, .int x1), (2, .int x2)]) (st' := [.int v3]) 1 rfl ?_
  cases hD
  exact k_iret rfl rfl
/-- java/lang/String.indexOf(I)I  -/
def e_String_indexOf (n : Nat) (P : Nat → Nat → Nat) (F : Nat → Nat → Int32) (A : Nat → Nat → Nat → Int32) (J : Nat → Nat → Nat → Int64) (x1 : Int32) : Option (Int32) :=
  (e_String_indexOf_v1 n P F A J x1 0).bind fun v1 =>
  some (v1)
set_option maxRecDepth 10000 in
theorem t_e_String_indexOf {n : Nat} {P : Nat → Nat → Nat} {F : Nat → Nat → Int32} {A : Nat → Nat → Nat → Int32} {J : Nat → Nat → Nat → Int64} {x1 : Int32}  {w : Int32} : e_String_indexOf n P F A J x1 = some w → k_run t lg (d + 3) 248 0 [(0, .float 2), (1, .int x1)] [] (c_h c B P F A J) (some (.int w), c_h c B P F A J) := by
  intro hD
  unfold e_String_indexOf at hD
  refine k_runB (pc' := 3) (loc' := [(0, .float 2), (1, .int x1)]) (st' := [.int 0, .int x1, .float 2]) 3 rfl ?_
  obtain ⟨v1, hv1, hD⟩ := Option.bind_eq_some_iff.mp hD
  refine k_runC rfl rfl rfl rfl (t_e_String_indexOf_v1 (d := d) hv1) ?_
  cases hD
  exact k_iret rfl rfl
def e_Scanner_scanDigits_93 (n : Nat) (P : Nat → Nat → Nat) (F : Nat → Nat → Int32) (A : Nat → Nat → Nat → Int32) (J : Nat → Nat → Nat → Int64) (s1 : Int32) (s2 : Int32) : Option (Unit × (Nat → Nat → Nat) × (Nat → Nat → Int32) × (Nat → Nat → Nat → Int32) × (Nat → Nat → Nat → Int64)) :=
    (c_st A 37 2 401 s1 s2).bind fun A10 =>
    some ((), P, F, A10, J)
set_option maxRecDepth 10000 in
theorem t_e_Scanner_scanDigits_93 (ht : ∀ ci k, t.1 ci k = k_ty ci k) {n : Nat}  {P : Nat → Nat → Nat} {F : Nat → Nat → Int32} {A : Nat → Nat → Nat → Int32} {J : Nat → Nat → Nat → Int64} {s1 : Int32} {s2 : Int32}  {w : Unit × (Nat → Nat → Nat) × (Nat → Nat → Int32) × (Nat → Nat → Nat → Int32) × (Nat → Nat → Nat → Int64)} : e_Scanner_scanDigits_93 n P F A J s1 s2 = some w → k_run t lg (d + 1) 70 93 [(0, .ref (37 * 1024 + 1))] [.int s2, .int s1, .ref (37 * 1024 + 2)] (c_h c B P F A J) (none, c_h c B w.2.1 w.2.2.1 w.2.2.2.1 w.2.2.2.2) := by
  intro hD
  unfold e_Scanner_scanDigits_93 at hD
  obtain ⟨A10, hA10, hD⟩ := Option.bind_eq_some_iff.mp hD
  refine k_cstI 37 2 (K := 11) rfl rfl rfl rfl (fun _ => rfl) hA10 ?_
  cases hD
  exact k_vret rfl rfl
def e_Scanner_scanDigits_59 (n : Nat) (P : Nat → Nat → Nat) (F : Nat → Nat → Int32) (A : Nat → Nat → Nat → Int32) (J : Nat → Nat → Nat → Int64) (x1 : Int32) (x3 : Int32) : Option (Unit × (Nat → Nat → Nat) × (Nat → Nat → Int32) × (Nat → Nat → Nat → Int32) × (Nat → Nat → Nat → Int64)) :=
    (c_st A 37 4 401 x1 x3).bind fun A7 =>
    (m_ld (A7 37 3) 401 x1).bind fun v8 =>
    cond (g_cnd .le ((F 37 105) - v8) 4)
    (e_Scanner_scanDigits_93 n P F A7 J x1 101)
    (e_Scanner_scanDigits_93 n P F A7 J x1 103)
set_option maxRecDepth 10000 in
theorem t_e_Scanner_scanDigits_59 (ht : ∀ ci k, t.1 ci k = k_ty ci k) {n : Nat}  {P : Nat → Nat → Nat} {F : Nat → Nat → Int32} {A : Nat → Nat → Nat → Int32} {J : Nat → Nat → Nat → Int64} {x1 : Int32} {x3 : Int32}  {w : Unit × (Nat → Nat → Nat) × (Nat → Nat → Int32) × (Nat → Nat → Nat → Int32) × (Nat → Nat → Nat → Int64)} : e_Scanner_scanDigits_59 n P F A J x1 x3 = some w → k_run t lg (d + 1) 70 59 [(0, .ref (37 * 1024 + 1)), (1, .int x1), (3, .int x3)] [] (c_h c B P F A J) (none, c_h c B w.2.1 w.2.2.1 w.2.2.2.1 w.2.2.2.2) := by
  intro hD
  unfold e_Scanner_scanDigits_59 at hD
  refine k_runB (pc' := 60) (loc' := [(0, .ref (37 * 1024 + 1)), (1, .int x1), (3, .int x3)]) (st' := [.ref (37 * 1024 + 1)]) 1 rfl ?_
  refine k_gf 37 1 (K := 11) rfl rfl rfl rfl rfl ?_
  refine k_runB (pc' := 65) (loc' := [(0, .ref (37 * 1024 + 1)), (1, .int x1), (3, .int x3)]) (st' := [.int x3, .int x1, .ref (37 * 1024 + 4)]) 2 rfl ?_
  obtain ⟨A7, hA7, hD⟩ := Option.bind_eq_some_iff.mp hD
  refine k_cstI 37 4 (K := 11) rfl rfl rfl rfl (fun _ => rfl) hA7 ?_
  refine k_runB (pc' := 67) (loc' := [(0, .ref (37 * 1024 + 1)), (1, .int x1), (3, .int x3)]) (st' := [.ref (37 * 1024 + 1)]) 1 rfl ?_
  refine k_gf 37 1 (K := 11) rfl rfl rfl rfl rfl ?_
  refine k_runB (pc' := 72) (loc' := [(0, .ref (37 * 1024 + 1)), (1, .int x1), (3, .int x3)]) (st' := [.ref (37 * 1024 + 1), .int x1, .ref (37 * 1024 + 2)]) 2 rfl ?_
  refine k_gf 37 1 (K := 11) rfl rfl rfl rfl rfl ?_
  refine k_runB (pc' := 76) (loc' := [(0, .ref (37 * 1024 + 1)), (1, .int x1), (3, .int x3)]) (st' := [.ref (37 * 1024 + 1), .int (F 37 105), .int x1, .ref (37 * 1024 + 2)]) 1 rfl ?_
  refine k_gf 37 1 (K := 11) rfl rfl rfl rfl rfl ?_
  refine k_runB (pc' := 80) (loc' := [(0, .ref (37 * 1024 + 1)), (1, .int x1), (3, .int x3)]) (st' := [.int x1, .ref (37 * 1024 + 3), .int (F 37 105), .int x1, .ref (37 * 1024 + 2)]) 1 rfl ?_
  obtain ⟨v8, hv8, hD⟩ := Option.bind_eq_some_iff.mp hD
  refine k_ldI rfl (c_get (r := 37) (o := 3) (K := 11) rfl (by decide)) hv8 ?_
  refine k_runB (pc' := 83) (loc' := [(0, .ref (37 * 1024 + 1)), (1, .int x1), (3, .int x3)]) (st' := [.int 4, .int ((F 37 105) - v8), .int x1, .ref (37 * 1024 + 2)]) 2 rfl ?_
  refine k_ic rfl (fun c83_8 => ?_) (fun c83_8 => ?_)
  · rw [c83_8, cond_true] at hD
    refine k_runB (pc' := 93) (loc' := [(0, .ref (37 * 1024 + 1)), (1, .int x1), (3, .int x3)]) (st' := [.int 101, .int x1, .ref (37 * 1024 + 2)]) 1 rfl ?_
    refine k_wk [0] (loc' := [(0, .ref (37 * 1024 + 1))]) rfl rfl ?_
    exact t_e_Scanner_scanDigits_93 ht   hD
  · rw [c83_8, cond_false] at hD
    refine k_runB (pc' := 93) (loc' := [(0, .ref (37 * 1024 + 1)), (1, .int x1), (3, .int x3)]) (st' := [.int 103, .int x1, .ref (37 * 1024 + 2)]) 2 rfl ?_
    refine k_wk [0] (loc' := [(0, .ref (37 * 1024 + 1))]) rfl rfl ?_
    exact t_e_Scanner_scanDigits_93 ht   hD
def e_Scanner_scanDigits_2 : Nat → (Nat → Nat → Nat) → (Nat → Nat → Int32) → (Nat → Nat → Nat → Int32) → (Nat → Nat → Nat → Int64) → Int32 → Int32 → Option (Unit × (Nat → Nat → Nat) × (Nat → Nat → Int32) × (Nat → Nat → Nat → Int32) × (Nat → Nat → Nat → Int64))
  | 0, _, _, _, _, _, _ => none
  | n + 1, P, F, A, J, x1, x3 => cond (g_cnd .ge (F 37 105) (F 1 1))
    (e_Scanner_scanDigits_59 n P F A J x1 x3)
    ((m_ld (A 1 1) 2000 (F 37 105)).bind fun v2 =>
    (e_Scanner_isDigit P F A J v2).bind fun v3 =>
    cond (g_cnd .eq v3 0)
    (e_Scanner_scanDigits_59 n P F A J x1 x3)
    ((m_ld (A 1 1) 2000 (F 37 105)).bind fun v5 =>
    (c_pf F 37 105 ((F 37 105) + 1)).bind fun F6 =>
    (e_Scanner_scanDigits_2 n) P F6 A J x1 (((x3 * 10) + v5) - 48)))
set_option maxRecDepth 10000 in
theorem t_e_Scanner_scanDigits_2 (ht : ∀ ci k, t.1 ci k = k_ty ci k) {n : Nat}  {P : Nat → Nat → Nat} {F : Nat → Nat → Int32} {A : Nat → Nat → Nat → Int32} {J : Nat → Nat → Nat → Int64} {x1 : Int32} {x3 : Int32}  {w : Unit × (Nat → Nat → Nat) × (Nat → Nat → Int32) × (Nat → Nat → Nat → Int32) × (Nat → Nat → Nat → Int64)} : e_Scanner_scanDigits_2 n P F A J x1 x3 = some w → k_run t lg (d + 1) 70 2 [(0, .ref (37 * 1024 + 1)), (1, .int x1), (2, .ref (1 * 1024)), (3, .int x3)] [] (c_h c B P F A J) (none, c_h c B w.2.1 w.2.2.1 w.2.2.2.1 w.2.2.2.2) := by
  induction n generalizing P F A J x1 x3 w with
  | zero => intro hD; cases hD
  | succ n ih =>
    intro hD
    have hK2 : ∀ (P : Nat → Nat → Nat) (F : Nat → Nat → Int32) (A : Nat → Nat → Nat → Int32) (J : Nat → Nat → Nat → Int64) (x1 : Int32) (x3 : Int32) (w : Unit × (Nat → Nat → Nat) × (Nat → Nat → Int32) × (Nat → Nat → Nat → Int32) × (Nat → Nat → Nat → Int64)), e_Scanner_scanDigits_2 n P F A J x1 x3 = some w → k_run t lg (d + 1) 70 2 [(0, .ref (37 * 1024 + 1)), (1, .int x1), (2, .ref (1 * 1024)), (3, .int x3)] [] (c_h c B P F A J) (none, c_h c B w.2.1 w.2.2.1 w.2.2.2.1 w.2.2.2.2) := fun _ _ _ _ _ _ _  h => ih  h
    unfold e_Scanner_scanDigits_2 at hD
    refine k_runB (pc' := 3) (loc' := [(0, .ref (37 * 1024 + 1)), (1, .int x1), (2, .ref (1 * 1024)), (3, .int x3)]) (st' := [.ref (37 * 1024 + 1)]) 1 rfl ?_
    refine k_gf 37 1 (K := 11) rfl rfl rfl rfl rfl ?_
    refine k_runB (pc' := 7) (loc' := [(0, .ref (37 * 1024 + 1)), (1, .int x1), (2, .ref (1 * 1024)), (3, .int x3)]) (st' := [.ref (1 * 1024), .int (F 37 105)]) 1 rfl ?_
    refine k_gf 1 0 (K := 1) rfl rfl rfl rfl rfl ?_
    refine k_ic rfl (fun c10_0 => ?_) (fun c10_0 => ?_)
    · rw [c10_0, cond_true] at hD
      refine k_wk [0, 1, 3] (loc' := [(0, .ref (37 * 1024 + 1)), (1, .int x1), (3, .int x3)]) rfl rfl ?_
      exact t_e_Scanner_scanDigits_59 ht   hD
    · rw [c10_0, cond_false] at hD
      refine k_runB (pc' := 14) (loc' := [(0, .ref (37 * 1024 + 1)), (1, .int x1), (2, .ref (1 * 1024)), (3, .int x3)]) (st' := [.ref (1 * 1024)]) 1 rfl ?_
      refine k_gf 1 0 (K := 1) rfl rfl rfl rfl rfl ?_
      refine k_runB (pc' := 18) (loc' := [(0, .ref (37 * 1024 + 1)), (1, .int x1), (2, .ref (1 * 1024)), (3, .int x3)]) (st' := [.ref (37 * 1024 + 1), .ref (1 * 1024 + 1)]) 1 rfl ?_
      refine k_gf 37 1 (K := 11) rfl rfl rfl rfl rfl ?_
      obtain ⟨v2, hv2, hD⟩ := Option.bind_eq_some_iff.mp hD
      refine k_ldB rfl (c_get (r := 1) (o := 1) (K := 1) rfl (by decide)) hv2 ?_
      obtain ⟨v3, hv3, hD⟩ := Option.bind_eq_some_iff.mp hD
      refine k_runC rfl rfl rfl rfl (t_e_Scanner_isDigit (d := d) hv3) ?_
      refine k_if rfl (fun c25_3 => ?_) (fun c25_3 => ?_)
      · rw [c25_3, cond_true] at hD
        refine k_wk [0, 1, 3] (loc' := [(0, .ref (37 * 1024 + 1)), (1, .int x1), (3, .int x3)]) rfl rfl ?_
        exact t_e_Scanner_scanDigits_59 ht   hD
      · rw [c25_3, cond_false] at hD
        refine k_runB (pc' := 33) (loc' := [(0, .ref (37 * 1024 + 1)), (1, .int x1), (2, .ref (1 * 1024)), (3, .int x3)]) (st' := [.ref (1 * 1024), .int (x3 * 10)]) 4 rfl ?_
        refine k_gf 1 0 (K := 1) rfl rfl rfl rfl rfl ?_
        refine k_runB (pc' := 37) (loc' := [(0, .ref (37 * 1024 + 1)), (1, .int x1), (2, .ref (1 * 1024)), (3, .int x3)]) (st' := [.ref (37 * 1024 + 1), .ref (1 * 1024 + 1), .int (x3 * 10)]) 1 rfl ?_
        refine k_gf 37 1 (K := 11) rfl rfl rfl rfl rfl ?_
        obtain ⟨v5, hv5, hD⟩ := Option.bind_eq_some_iff.mp hD
        refine k_ldB rfl (c_get (r := 1) (o := 1) (K := 1) rfl (by decide)) hv5 ?_
        refine k_runB (pc' := 48) (loc' := [(0, .ref (37 * 1024 + 1)), (1, .int x1), (2, .ref (1 * 1024)), (3, .int (((x3 * 10) + v5) - 48))]) (st' := [.ref (37 * 1024 + 1), .ref (37 * 1024 + 1)]) 6 rfl ?_
        refine k_gf 37 1 (K := 11) rfl rfl rfl rfl rfl ?_
        refine k_runB (pc' := 53) (loc' := [(0, .ref (37 * 1024 + 1)), (1, .int x1), (2, .ref (1 * 1024)), (3, .int (((x3 * 10) + v5) - 48))]) (st' := [.int ((F 37 105) + 1), .ref (37 * 1024 + 1)]) 2 rfl ?_
        obtain ⟨F6, hF6, hD⟩ := Option.bind_eq_some_iff.mp hD
        refine k_cpt 37 1 (K := 11) (key := 105) rfl rfl (ht 5 5) rfl rfl rfl hF6 ?_
        refine k_runB (pc' := 2) (loc' := [(0, .ref (37 * 1024 + 1)), (1, .int x1), (2, .ref (1 * 1024)), (3, .int (((x3 * 10) + v5) - 48))]) (st' := []) 1 rfl ?_
        refine k_wk [0, 1, 2, 3] (loc' := [(0, .ref (37 * 1024 + 1)), (1, .int x1), (2, .ref (1 * 1024)), (3, .int (((x3 * 10) + v5) - 48))]) rfl rfl ?_
        exact hK2 _ _ _ _ _ _ _  hD
/-- SleepWork$Scanner.scanDigits(ILSleepWork$Tape;)V  -/
def e_Scanner_scanDigits (n : Nat) (P : Nat → Nat → Nat) (F : Nat → Nat → Int32) (A : Nat → Nat → Nat → Int32) (J : Nat → Nat → Nat → Int64) (x1 : Int32) : Option (Unit × (Nat → Nat → Nat) × (Nat → Nat → Int32) × (Nat → Nat → Nat → Int32) × (Nat → Nat → Nat → Int64)) :=
  e_Scanner_scanDigits_2 n P F A J x1 0
set_option maxRecDepth 10000 in
theorem t_e_Scanner_scanDigits (ht : ∀ ci k, t.1 ci k = k_ty ci k) {n : Nat} {P : Nat → Nat → Nat} {F : Nat → Nat → Int32} {A : Nat → Nat → Nat → Int32} {J : Nat → Nat → Nat → Int64} {x1 : Int32}  {w : Unit × (Nat → Nat → Nat) × (Nat → Nat → Int32) × (Nat → Nat → Nat → Int32) × (Nat → Nat → Nat → Int64)} : e_Scanner_scanDigits n P F A J x1 = some w → k_run t lg (d + 1) 70 0 [(0, .ref (37 * 1024 + 1)), (1, .int x1), (2, .ref (1 * 1024))] [] (c_h c B P F A J) (none, c_h c B w.2.1 w.2.2.1 w.2.2.2.1 w.2.2.2.2) := by
  intro hD
  unfold e_Scanner_scanDigits at hD
  refine k_runB (pc' := 2) (loc' := [(0, .ref (37 * 1024 + 1)), (1, .int x1), (2, .ref (1 * 1024)), (3, .int 0)]) (st' := []) 2 rfl ?_
  refine k_wk [0, 1, 2, 3] (loc' := [(0, .ref (37 * 1024 + 1)), (1, .int x1), (2, .ref (1 * 1024)), (3, .int 0)]) rfl rfl ?_
  exact t_e_Scanner_scanDigits_2 ht   hD
end MC
end Qz23
section Qz24
/-! the class's methods as functions (printed by wip/dec2.py) -/
section MC
variable {t : gT} {lg : Nat → Nat} {d : Nat} {c : Nat × Nat} {B : Nat → List gE}
def e_Scanner_scanLetters_121 (n : Nat) (P : Nat → Nat → Nat) (F : Nat → Nat → Int32) (A : Nat → Nat → Nat → Int32) (J : Nat → Nat → Nat → Int64) (x1 : Int32) (x3 : Int64) (x5 : Int32) : Option (Unit × (Nat → Nat → Nat) × (Nat → Nat → Int32) × (Nat → Nat → Nat → Int32) × (Nat → Nat → Nat → Int64)) :=
    (c_stJ J 37 5 401 x1 x3).bind fun J13 =>
    (c_st A 37 2 401 x1 x5).bind fun A14 =>
    some ((), P, F, A14, J13)
set_option maxRecDepth 10000 in
theorem t_e_Scanner_scanLetters_121 (ht : ∀ ci k, t.1 ci k = k_ty ci k) {n : Nat}  {P : Nat → Nat → Nat} {F : Nat → Nat → Int32} {A : Nat → Nat → Nat → Int32} {J : Nat → Nat → Nat → Int64} {x1 : Int32} {x3 : Int64} {x5 : Int32}  {w : Unit × (Nat → Nat → Nat) × (Nat → Nat → Int32) × (Nat → Nat → Nat → Int32) × (Nat → Nat → Nat → Int64)} : e_Scanner_scanLetters_121 n P F A J x1 x3 x5 = some w → k_run t lg (d + 1) 69 121 [(0, .ref (37 * 1024 + 1)), (1, .int x1), (3, .long (x3)), (5, .int x5)] [] (c_h c B P F A J) (none, c_h c B w.2.1 w.2.2.1 w.2.2.2.1 w.2.2.2.2) := by
  intro hD
  unfold e_Scanner_scanLetters_121 at hD
  refine k_runB (pc' := 122) (loc' := [(0, .ref (37 * 1024 + 1)), (1, .int x1), (3, .long (x3)), (5, .int x5)]) (st' := [.ref (37 * 1024 + 1)]) 1 rfl ?_
  refine k_gf 37 1 (K := 11) rfl rfl rfl rfl rfl ?_
  refine k_runB (pc' := 127) (loc' := [(0, .ref (37 * 1024 + 1)), (1, .int x1), (3, .long (x3)), (5, .int x5)]) (st' := [.long (x3), .int x1, .ref (37 * 1024 + 5)]) 2 rfl ?_
  obtain ⟨J13, hJ13, hD⟩ := Option.bind_eq_some_iff.mp hD
  refine k_cstL 37 5 (K := 11) rfl rfl rfl rfl (fun _ => rfl) hJ13 ?_
  refine k_runB (pc' := 129) (loc' := [(0, .ref (37 * 1024 + 1)), (1, .int x1), (3, .long (x3)), (5, .int x5)]) (st' := [.ref (37 * 1024 + 1)]) 1 rfl ?_
  refine k_gf 37 1 (K := 11) rfl rfl rfl rfl rfl ?_
  refine k_runB (pc' := 135) (loc' := [(0, .ref (37 * 1024 + 1)), (1, .int x1), (3, .long (x3)), (5, .int x5)]) (st' := [.int x5, .int x1, .ref (37 * 1024 + 2)]) 2 rfl ?_
  obtain ⟨A14, hA14, hD⟩ := Option.bind_eq_some_iff.mp hD
  refine k_cstI 37 2 (K := 11) rfl rfl rfl rfl (fun _ => rfl) hA14 ?_
  cases hD
  exact k_vret rfl rfl
def e_Scanner_scanLetters_115 (K85 : (Nat → Nat → Nat) → (Nat → Nat → Int32) → (Nat → Nat → Nat → Int32) → (Nat → Nat → Nat → Int64) → Int32 → Int64 → Int32 → Int32 → Option (Unit × (Nat → Nat → Nat) × (Nat → Nat → Int32) × (Nat → Nat → Nat → Int32) × (Nat → Nat → Nat → Int64))) (n : Nat) (P : Nat → Nat → Nat) (F : Nat → Nat → Int32) (A : Nat → Nat → Nat → Int32) (J : Nat → Nat → Nat → Int64) (x1 : Int32) (x3 : Int64) (x5 : Int32) (x6 : Int32) : Option (Unit × (Nat → Nat → Nat) × (Nat → Nat → Int32) × (Nat → Nat → Nat → Int32) × (Nat → Nat → Nat → Int64)) :=
    K85 P F A J x1 x3 x5 (x6 + 1)
set_option maxRecDepth 10000 in
theorem t_e_Scanner_scanLetters_115 (ht : ∀ ci k, t.1 ci k = k_ty ci k) {n : Nat} {K85 : (Nat → Nat → Nat) → (Nat → Nat → Int32) → (Nat → Nat → Nat → Int32) → (Nat → Nat → Nat → Int64) → Int32 → Int64 → Int32 → Int32 → Option (Unit × (Nat → Nat → Nat) × (Nat → Nat → Int32) × (Nat → Nat → Nat → Int32) × (Nat → Nat → Nat → Int64))} (hK85 : ∀ (P : Nat → Nat → Nat) (F : Nat → Nat → Int32) (A : Nat → Nat → Nat → Int32) (J : Nat → Nat → Nat → Int64) (x1 : Int32) (x3 : Int64) (x5 : Int32) (x6 : Int32) (w : Unit × (Nat → Nat → Nat) × (Nat → Nat → Int32) × (Nat → Nat → Nat → Int32) × (Nat → Nat → Nat → Int64)), K85 P F A J x1 x3 x5 x6 = some w → k_run t lg (d + 1) 69 85 [(0, .ref (37 * 1024 + 1)), (1, .int x1), (3, .long (x3)), (5, .int x5), (6, .int x6)] [] (c_h c B P F A J) (none, c_h c B w.2.1 w.2.2.1 w.2.2.2.1 w.2.2.2.2)) {P : Nat → Nat → Nat} {F : Nat → Nat → Int32} {A : Nat → Nat → Nat → Int32} {J : Nat → Nat → Nat → Int64} {x1 : Int32} {x3 : Int64} {x5 : Int32} {x6 : Int32}  {w : Unit × (Nat → Nat → Nat) × (Nat → Nat → Int32) × (Nat → Nat → Nat → Int32) × (Nat → Nat → Nat → Int64)} : e_Scanner_scanLetters_115 K85 n P F A J x1 x3 x5 x6 = some w → k_run t lg (d + 1) 69 115 [(0, .ref (37 * 1024 + 1)), (1, .int x1), (3, .long (x3)), (5, .int x5), (6, .int x6)] [] (c_h c B P F A J) (none, c_h c B w.2.1 w.2.2.1 w.2.2.2.1 w.2.2.2.2) := by
  intro hD
  unfold e_Scanner_scanLetters_115 at hD
  refine k_runB (pc' := 85) (loc' := [(0, .ref (37 * 1024 + 1)), (1, .int x1), (3, .long (x3)), (5, .int x5), (6, .int (x6 + 1))]) (st' := []) 2 rfl ?_
  refine k_wk [0, 1, 3, 5, 6] (loc' := [(0, .ref (37 * 1024 + 1)), (1, .int x1), (3, .long (x3)), (5, .int x5), (6, .int (x6 + 1))]) rfl rfl ?_
  exact hK85 _ _ _ _ _ _ _ _ _  hD
def e_Scanner_scanLetters_85 : Nat → (Nat → Nat → Nat) → (Nat → Nat → Int32) → (Nat → Nat → Nat → Int32) → (Nat → Nat → Nat → Int64) → Int32 → Int64 → Int32 → Int32 → Option (Unit × (Nat → Nat → Nat) × (Nat → Nat → Int32) × (Nat → Nat → Nat → Int32) × (Nat → Nat → Nat → Int64))
  | 0, _, _, _, _, _, _, _, _ => none
  | n + 1, P, F, A, J, x1, x3, x5, x6 => cond (g_cnd .ge x6 21)
    (e_Scanner_scanLetters_121 n P F A J x1 x3 x5)
    (cond (g_cnd .ne x5 100)
    (e_Scanner_scanLetters_121 n P F A J x1 x3 x5)
    ((m_ldJ (J 37 6) 21 x6).bind fun v11 =>
    cond (g_cnd .ne (lg_cmp v11 x3) 0)
    (e_Scanner_scanLetters_115 (e_Scanner_scanLetters_85 n) n P F A J x1 x3 x5 x6)
    (e_Scanner_scanLetters_115 (e_Scanner_scanLetters_85 n) n P F A J x1 x3 x6 x6)))
set_option maxRecDepth 10000 in
theorem t_e_Scanner_scanLetters_85 (ht : ∀ ci k, t.1 ci k = k_ty ci k) {n : Nat}  {P : Nat → Nat → Nat} {F : Nat → Nat → Int32} {A : Nat → Nat → Nat → Int32} {J : Nat → Nat → Nat → Int64} {x1 : Int32} {x3 : Int64} {x5 : Int32} {x6 : Int32}  {w : Unit × (Nat → Nat → Nat) × (Nat → Nat → Int32) × (Nat → Nat → Nat → Int32) × (Nat → Nat → Nat → Int64)} : e_Scanner_scanLetters_85 n P F A J x1 x3 x5 x6 = some w → k_run t lg (d + 1) 69 85 [(0, .ref (37 * 1024 + 1)), (1, .int x1), (3, .long (x3)), (5, .int x5), (6, .int x6)] [] (c_h c B P F A J) (none, c_h c B w.2.1 w.2.2.1 w.2.2.2.1 w.2.2.2.2) := by
  induction n generalizing P F A J x1 x3 x5 x6 w with
  | zero => intro hD; cases hD
  | succ n ih =>
    intro hD
    have hK85 : ∀ (P : Nat → Nat → Nat) (F : Nat → Nat → Int32) (A : Nat → Nat → Nat → Int32) (J : Nat → Nat → Nat → Int64) (x1 : Int32) (x3 : Int64) (x5 : Int32) (x6 : Int32) (w : Unit × (Nat → Nat → Nat) × (Nat → Nat → Int32) × (Nat → Nat → Nat → Int32) × (Nat → Nat → Nat → Int64)), e_Scanner_scanLetters_85 n P F A J x1 x3 x5 x6 = some w → k_run t lg (d + 1) 69 85 [(0, .ref (37 * 1024 + 1)), (1, .int x1), (3, .long (x3)), (5, .int x5), (6, .int x6)] [] (c_h c B P F A J) (none, c_h c B w.2.1 w.2.2.1 w.2.2.2.1 w.2.2.2.2) := fun _ _ _ _ _ _ _ _ _  h => ih  h
    unfold e_Scanner_scanLetters_85 at hD
    refine k_runB (pc' := 89) (loc' := [(0, .ref (37 * 1024 + 1)), (1, .int x1), (3, .long (x3)), (5, .int x5), (6, .int x6)]) (st' := [.int 21, .int x6]) 2 rfl ?_
    refine k_ic rfl (fun c89_8 => ?_) (fun c89_8 => ?_)
    · rw [c89_8, cond_true] at hD
      refine k_wk [0, 1, 3, 5] (loc' := [(0, .ref (37 * 1024 + 1)), (1, .int x1), (3, .long (x3)), (5, .int x5)]) rfl rfl ?_
      exact t_e_Scanner_scanLetters_121 ht   hD
    · rw [c89_8, cond_false] at hD
      refine k_runB (pc' := 96) (loc' := [(0, .ref (37 * 1024 + 1)), (1, .int x1), (3, .long (x3)), (5, .int x5), (6, .int x6)]) (st' := [.int 100, .int x5]) 2 rfl ?_
      refine k_ic rfl (fun c96_9 => ?_) (fun c96_9 => ?_)
      · rw [c96_9, cond_true] at hD
        refine k_wk [0, 1, 3, 5] (loc' := [(0, .ref (37 * 1024 + 1)), (1, .int x1), (3, .long (x3)), (5, .int x5)]) rfl rfl ?_
        exact t_e_Scanner_scanLetters_121 ht   hD
      · rw [c96_9, cond_false] at hD
        refine k_runB (pc' := 100) (loc' := [(0, .ref (37 * 1024 + 1)), (1, .int x1), (3, .long (x3)), (5, .int x5), (6, .int x6)]) (st' := [.ref (37 * 1024 + 1)]) 1 rfl ?_
        refine k_gf 37 1 (K := 11) rfl rfl rfl rfl rfl ?_
        refine k_runB (pc' := 105) (loc' := [(0, .ref (37 * 1024 + 1)), (1, .int x1), (3, .long (x3)), (5, .int x5), (6, .int x6)]) (st' := [.int x6, .ref (37 * 1024 + 6)]) 1 rfl ?_
        obtain ⟨v11, hv11, hD⟩ := Option.bind_eq_some_iff.mp hD
        refine k_ldL rfl (c_get (r := 37) (o := 6) (K := 11) rfl (by decide)) hv11 ?_
        refine k_runB (pc' := 108) (loc' := [(0, .ref (37 * 1024 + 1)), (1, .int x1), (3, .long (x3)), (5, .int x5), (6, .int x6)]) (st' := [.int (lg_cmp v11 x3)]) 2 rfl ?_
        refine k_if rfl (fun c108_11 => ?_) (fun c108_11 => ?_)
        · rw [c108_11, cond_true] at hD
          refine k_wk [0, 1, 3, 5, 6] (loc' := [(0, .ref (37 * 1024 + 1)), (1, .int x1), (3, .long (x3)), (5, .int x5), (6, .int x6)]) rfl rfl ?_
          exact t_e_Scanner_scanLetters_115 ht hK85  hD
        · rw [c108_11, cond_false] at hD
          refine k_runB (pc' := 115) (loc' := [(0, .ref (37 * 1024 + 1)), (1, .int x1), (3, .long (x3)), (5, .int x6), (6, .int x6)]) (st' := []) 2 rfl ?_
          refine k_wk [0, 1, 3, 5, 6] (loc' := [(0, .ref (37 * 1024 + 1)), (1, .int x1), (3, .long (x3)), (5, .int x6), (6, .int x6)]) rfl rfl ?_
          exact t_e_Scanner_scanLetters_115 ht hK85  hD
def e_Scanner_scanLetters_80 (n : Nat) (P : Nat → Nat → Nat) (F : Nat → Nat → Int32) (A : Nat → Nat → Nat → Int32) (J : Nat → Nat → Nat → Int64) (x1 : Int32) (x3 : Int64) (s0 : Int32) : Option (Unit × (Nat → Nat → Nat) × (Nat → Nat → Int32) × (Nat → Nat → Nat → Int32) × (Nat → Nat → Nat → Int64)) :=
    e_Scanner_scanLetters_85 n P F A J x1 x3 s0 0
set_option maxRecDepth 10000 in
theorem t_e_Scanner_scanLetters_80 (ht : ∀ ci k, t.1 ci k = k_ty ci k) {n : Nat}  {P : Nat → Nat → Nat} {F : Nat → Nat → Int32} {A : Nat → Nat → Nat → Int32} {J : Nat → Nat → Nat → Int64} {x1 : Int32} {x3 : Int64} {s0 : Int32}  {w : Unit × (Nat → Nat → Nat) × (Nat → Nat → Int32) × (Nat → Nat → Nat → Int32) × (Nat → Nat → Nat → Int64)} : e_Scanner_scanLetters_80 n P F A J x1 x3 s0 = some w → k_run t lg (d + 1) 69 80 [(0, .ref (37 * 1024 + 1)), (1, .int x1), (3, .long (x3))] [.int s0] (c_h c B P F A J) (none, c_h c B w.2.1 w.2.2.1 w.2.2.2.1 w.2.2.2.2) := by
  intro hD
  unfold e_Scanner_scanLetters_80 at hD
  refine k_runB (pc' := 85) (loc' := [(0, .ref (37 * 1024 + 1)), (1, .int x1), (3, .long (x3)), (5, .int s0), (6, .int 0)]) (st' := []) 3 rfl ?_
  refine k_wk [0, 1, 3, 5, 6] (loc' := [(0, .ref (37 * 1024 + 1)), (1, .int x1), (3, .long (x3)), (5, .int s0), (6, .int 0)]) rfl rfl ?_
  exact t_e_Scanner_scanLetters_85 ht   hD
def e_Scanner_scanLetters_57 (n : Nat) (P : Nat → Nat → Nat) (F : Nat → Nat → Int32) (A : Nat → Nat → Nat → Int32) (J : Nat → Nat → Nat → Int64) (x1 : Int32) (x3 : Int64) : Option (Unit × (Nat → Nat → Nat) × (Nat → Nat → Int32) × (Nat → Nat → Nat → Int32) × (Nat → Nat → Nat → Int64)) :=
    (m_ld (A 37 3) 401 x1).bind fun v7 =>
    cond (g_cnd .le ((F 37 105) - v7) 8)
    (e_Scanner_scanLetters_80 n P F A J x1 x3 100)
    (e_Scanner_scanLetters_80 n P F A J x1 x3 103)
set_option maxRecDepth 10000 in
theorem t_e_Scanner_scanLetters_57 (ht : ∀ ci k, t.1 ci k = k_ty ci k) {n : Nat}  {P : Nat → Nat → Nat} {F : Nat → Nat → Int32} {A : Nat → Nat → Nat → Int32} {J : Nat → Nat → Nat → Int64} {x1 : Int32} {x3 : Int64}  {w : Unit × (Nat → Nat → Nat) × (Nat → Nat → Int32) × (Nat → Nat → Nat → Int32) × (Nat → Nat → Nat → Int64)} : e_Scanner_scanLetters_57 n P F A J x1 x3 = some w → k_run t lg (d + 1) 69 57 [(0, .ref (37 * 1024 + 1)), (1, .int x1), (3, .long (x3))] [] (c_h c B P F A J) (none, c_h c B w.2.1 w.2.2.1 w.2.2.2.1 w.2.2.2.2) := by
  intro hD
  unfold e_Scanner_scanLetters_57 at hD
  refine k_runB (pc' := 58) (loc' := [(0, .ref (37 * 1024 + 1)), (1, .int x1), (3, .long (x3))]) (st' := [.ref (37 * 1024 + 1)]) 1 rfl ?_
  refine k_gf 37 1 (K := 11) rfl rfl rfl rfl rfl ?_
  refine k_runB (pc' := 62) (loc' := [(0, .ref (37 * 1024 + 1)), (1, .int x1), (3, .long (x3))]) (st' := [.ref (37 * 1024 + 1), .int (F 37 105)]) 1 rfl ?_
  refine k_gf 37 1 (K := 11) rfl rfl rfl rfl rfl ?_
  refine k_runB (pc' := 66) (loc' := [(0, .ref (37 * 1024 + 1)), (1, .int x1), (3, .long (x3))]) (st' := [.int x1, .ref (37 * 1024 + 3), .int (F 37 105)]) 1 rfl ?_
  obtain ⟨v7, hv7, hD⟩ := Option.bind_eq_some_iff.mp hD
  refine k_ldI rfl (c_get (r := 37) (o := 3) (K := 11) rfl (by decide)) hv7 ?_
  refine k_runB (pc' := 70) (loc' := [(0, .ref (37 * 1024 + 1)), (1, .int x1), (3, .long (x3))]) (st' := [.int 8, .int ((F 37 105) - v7)]) 2 rfl ?_
  refine k_ic rfl (fun c70_7 => ?_) (fun c70_7 => ?_)
  · rw [c70_7, cond_true] at hD
    refine k_runB (pc' := 80) (loc' := [(0, .ref (37 * 1024 + 1)), (1, .int x1), (3, .long (x3))]) (st' := [.int 100]) 1 rfl ?_
    refine k_wk [0, 1, 3] (loc' := [(0, .ref (37 * 1024 + 1)), (1, .int x1), (3, .long (x3))]) rfl rfl ?_
    exact t_e_Scanner_scanLetters_80 ht   hD
  · rw [c70_7, cond_false] at hD
    refine k_runB (pc' := 80) (loc' := [(0, .ref (37 * 1024 + 1)), (1, .int x1), (3, .long (x3))]) (st' := [.int 103]) 2 rfl ?_
    refine k_wk [0, 1, 3] (loc' := [(0, .ref (37 * 1024 + 1)), (1, .int x1), (3, .long (x3))]) rfl rfl ?_
    exact t_e_Scanner_scanLetters_80 ht   hD
def e_Scanner_scanLetters_2 : Nat → (Nat → Nat → Nat) → (Nat → Nat → Int32) → (Nat → Nat → Nat → Int32) → (Nat → Nat → Nat → Int64) → Int32 → Int64 → Option (Unit × (Nat → Nat → Nat) × (Nat → Nat → Int32) × (Nat → Nat → Nat → Int32) × (Nat → Nat → Nat → Int64))
  | 0, _, _, _, _, _, _ => none
  | n + 1, P, F, A, J, x1, x3 => cond (g_cnd .ge (F 37 105) (F 1 1))
    (e_Scanner_scanLetters_57 n P F A J x1 x3)
    ((m_ld (A 1 1) 2000 (F 37 105)).bind fun v2 =>
    (e_Scanner_isLetter P F A J v2).bind fun v3 =>
    cond (g_cnd .eq v3 0)
    (e_Scanner_scanLetters_57 n P F A J x1 x3)
    ((m_ld (A 1 1) 2000 (F 37 105)).bind fun v5 =>
    (c_pf F 37 105 ((F 37 105) + 1)).bind fun F6 =>
    (e_Scanner_scanLetters_2 n) P F6 A J x1 ((x3 <<< ((8 : Int32).toInt64 &&& 63)) ||| v5.toInt64)))
set_option maxRecDepth 10000 in
theorem t_e_Scanner_scanLetters_2 (ht : ∀ ci k, t.1 ci k = k_ty ci k) {n : Nat}  {P : Nat → Nat → Nat} {F : Nat → Nat → Int32} {A : Nat → Nat → Nat → Int32} {J : Nat → Nat → Nat → Int64} {x1 : Int32} {x3 : Int64}  {w : Unit × (Nat → Nat → Nat) × (Nat → Nat → Int32) × (Nat → Nat → Nat → Int32) × (Nat → Nat → Nat → Int64)} : e_Scanner_scanLetters_2 n P F A J x1 x3 = some w → k_run t lg (d + 1) 69 2 [(0, .ref (37 * 1024 + 1)), (1, .int x1), (2, .ref (1 * 1024)), (3, .long (x3))] [] (c_h c B P F A J) (none, c_h c B w.2.1 w.2.2.1 w.2.2.2.1 w.2.2.2.2) := by
  induction n generalizing P F A J x1 x3 w with
  | zero => intro hD; cases hD
  | succ n ih =>
    intro hD
    have hK2 : ∀ (P : Nat → Nat → Nat) (F : Nat → Nat → Int32) (A : Nat → Nat → Nat → Int32) (J : Nat → Nat → Nat → Int64) (x1 : Int32) (x3 : Int64) (w : Unit × (Nat → Nat → Nat) × (Nat → Nat → Int32) × (Nat → Nat → Nat → Int32) × (Nat → Nat → Nat → Int64)), e_Scanner_scanLetters_2 n P F A J x1 x3 = some w → k_run t lg (d + 1) 69 2 [(0, .ref (37 * 1024 + 1)), (1, .int x1), (2, .ref (1 * 1024)), (3, .long (x3))] [] (c_h c B P F A J) (none, c_h c B w.2.1 w.2.2.1 w.2.2.2.1 w.2.2.2.2) := fun _ _ _ _ _ _ _  h => ih  h
    unfold e_Scanner_scanLetters_2 at hD
    refine k_runB (pc' := 3) (loc' := [(0, .ref (37 * 1024 + 1)), (1, .int x1), (2, .ref (1 * 1024)), (3, .long (x3))]) (st' := [.ref (37 * 1024 + 1)]) 1 rfl ?_
    refine k_gf 37 1 (K := 11) rfl rfl rfl rfl rfl ?_
    refine k_runB (pc' := 7) (loc' := [(0, .ref (37 * 1024 + 1)), (1, .int x1), (2, .ref (1 * 1024)), (3, .long (x3))]) (st' := [.ref (1 * 1024), .int (F 37 105)]) 1 rfl ?_
    refine k_gf 1 0 (K := 1) rfl rfl rfl rfl rfl ?_
    refine k_ic rfl (fun c10_0 => ?_) (fun c10_0 => ?_)
    · rw [c10_0, cond_true] at hD
      refine k_wk [0, 1, 3] (loc' := [(0, .ref (37 * 1024 + 1)), (1, .int x1), (3, .long (x3))]) rfl rfl ?_
      exact t_e_Scanner_scanLetters_57 ht   hD
    · rw [c10_0, cond_false] at hD
      refine k_runB (pc' := 14) (loc' := [(0, .ref (37 * 1024 + 1)), (1, .int x1), (2, .ref (1 * 1024)), (3, .long (x3))]) (st' := [.ref (1 * 1024)]) 1 rfl ?_
      refine k_gf 1 0 (K := 1) rfl rfl rfl rfl rfl ?_
      refine k_runB (pc' := 18) (loc' := [(0, .ref (37 * 1024 + 1)), (1, .int x1), (2, .ref (1 * 1024)), (3, .long (x3))]) (st' := [.ref (37 * 1024 + 1), .ref (1 * 1024 + 1)]) 1 rfl ?_
      refine k_gf 37 1 (K := 11) rfl rfl rfl rfl rfl ?_
      obtain ⟨v2, hv2, hD⟩ := Option.bind_eq_some_iff.mp hD
      refine k_ldB rfl (c_get (r := 1) (o := 1) (K := 1) rfl (by decide)) hv2 ?_
      obtain ⟨v3, hv3, hD⟩ := Option.bind_eq_some_iff.mp hD
      refine k_runC rfl rfl rfl rfl (t_e_Scanner_isLetter (d := d) hv3) ?_
      refine k_if rfl (fun c25_3 => ?_) (fun c25_3 => ?_)
      · rw [c25_3, cond_true] at hD
        refine k_wk [0, 1, 3] (loc' := [(0, .ref (37 * 1024 + 1)), (1, .int x1), (3, .long (x3))]) rfl rfl ?_
        exact t_e_Scanner_scanLetters_57 ht   hD
      · rw [c25_3, cond_false] at hD
        refine k_runB (pc' := 33) (loc' := [(0, .ref (37 * 1024 + 1)), (1, .int x1), (2, .ref (1 * 1024)), (3, .long (x3))]) (st' := [.ref (1 * 1024), .long (x3 <<< ((8 : Int32).toInt64 &&& 63))]) 4 rfl ?_
        refine k_gf 1 0 (K := 1) rfl rfl rfl rfl rfl ?_
        refine k_runB (pc' := 37) (loc' := [(0, .ref (37 * 1024 + 1)), (1, .int x1), (2, .ref (1 * 1024)), (3, .long (x3))]) (st' := [.ref (37 * 1024 + 1), .ref (1 * 1024 + 1), .long (x3 <<< ((8 : Int32).toInt64 &&& 63))]) 1 rfl ?_
        refine k_gf 37 1 (K := 11) rfl rfl rfl rfl rfl ?_
        obtain ⟨v5, hv5, hD⟩ := Option.bind_eq_some_iff.mp hD
        refine k_ldB rfl (c_get (r := 1) (o := 1) (K := 1) rfl (by decide)) hv5 ?_
        refine k_runB (pc' := 46) (loc' := [(0, .ref (37 * 1024 + 1)), (1, .int x1), (2, .ref (1 * 1024)), (3, .long ((x3 <<< ((8 : Int32).toInt64 &&& 63)) ||| v5.toInt64))]) (st' := [.ref (37 * 1024 + 1), .ref (37 * 1024 + 1)]) 5 rfl ?_
        refine k_gf 37 1 (K := 11) rfl rfl rfl rfl rfl ?_
        refine k_runB (pc' := 51) (loc' := [(0, .ref (37 * 1024 + 1)), (1, .int x1), (2, .ref (1 * 1024)), (3, .long ((x3 <<< ((8 : Int32).toInt64 &&& 63)) ||| v5.toInt64))]) (st' := [.int ((F 37 105) + 1), .ref (37 * 1024 + 1)]) 2 rfl ?_
        obtain ⟨F6, hF6, hD⟩ := Option.bind_eq_some_iff.mp hD
        refine k_cpt 37 1 (K := 11) (key := 105) rfl rfl (ht 5 5) rfl rfl rfl hF6 ?_
        refine k_runB (pc' := 2) (loc' := [(0, .ref (37 * 1024 + 1)), (1, .int x1), (2, .ref (1 * 1024)), (3, .long ((x3 <<< ((8 : Int32).toInt64 &&& 63)) ||| v5.toInt64))]) (st' := []) 1 rfl ?_
        refine k_wk [0, 1, 2, 3] (loc' := [(0, .ref (37 * 1024 + 1)), (1, .int x1), (2, .ref (1 * 1024)), (3, .long ((x3 <<< ((8 : Int32).toInt64 &&& 63)) ||| v5.toInt64))]) rfl rfl ?_
        exact hK2 _ _ _ _ _ _ _  hD
/-- SleepWork$Scanner.scanLetters(ILSleepWork$Tape;)V  -/
def e_Scanner_scanLetters (n : Nat) (P : Nat → Nat → Nat) (F : Nat → Nat → Int32) (A : Nat → Nat → Nat → Int32) (J : Nat → Nat → Nat → Int64) (x1 : Int32) : Option (Unit × (Nat → Nat → Nat) × (Nat → Nat → Int32) × (Nat → Nat → Nat → Int32) × (Nat → Nat → Nat → Int64)) :=
  e_Scanner_scanLetters_2 n P F A J x1 0
set_option maxRecDepth 10000 in
theorem t_e_Scanner_scanLetters (ht : ∀ ci k, t.1 ci k = k_ty ci k) {n : Nat} {P : Nat → Nat → Nat} {F : Nat → Nat → Int32} {A : Nat → Nat → Nat → Int32} {J : Nat → Nat → Nat → Int64} {x1 : Int32}  {w : Unit × (Nat → Nat → Nat) × (Nat → Nat → Int32) × (Nat → Nat → Nat → Int32) × (Nat → Nat → Nat → Int64)} : e_Scanner_scanLetters n P F A J x1 = some w → k_run t lg (d + 1) 69 0 [(0, .ref (37 * 1024 + 1)), (1, .int x1), (2, .ref (1 * 1024))] [] (c_h c B P F A J) (none, c_h c B w.2.1 w.2.2.1 w.2.2.2.1 w.2.2.2.2) := by
  intro hD
  unfold e_Scanner_scanLetters at hD
  refine k_runB (pc' := 2) (loc' := [(0, .ref (37 * 1024 + 1)), (1, .int x1), (2, .ref (1 * 1024)), (3, .long (0))]) (st' := []) 2 rfl ?_
  refine k_wk [0, 1, 2, 3] (loc' := [(0, .ref (37 * 1024 + 1)), (1, .int x1), (2, .ref (1 * 1024)), (3, .long (0))]) rfl rfl ?_
  exact t_e_Scanner_scanLetters_2 ht   hD
def e_Scanner_scanNext_136 (n : Nat) (P : Nat → Nat → Nat) (F : Nat → Nat → Int32) (A : Nat → Nat → Nat → Int32) (J : Nat → Nat → Nat → Int64) (s1 : Int32) (s2 : Int32) : Option (Unit × (Nat → Nat → Nat) × (Nat → Nat → Int32) × (Nat → Nat → Nat → Int32) × (Nat → Nat → Nat → Int64)) :=
    (c_st A 37 2 401 s1 s2).bind fun A27 =>
    (c_pf F 37 105 ((F 37 105) + 1)).bind fun F28 =>
    some ((), P, F28, A27, J)
set_option maxRecDepth 10000 in
theorem t_e_Scanner_scanNext_136 (ht : ∀ ci k, t.1 ci k = k_ty ci k) {n : Nat}  {P : Nat → Nat → Nat} {F : Nat → Nat → Int32} {A : Nat → Nat → Nat → Int32} {J : Nat → Nat → Nat → Int64} {s1 : Int32} {s2 : Int32}  {w : Unit × (Nat → Nat → Nat) × (Nat → Nat → Int32) × (Nat → Nat → Nat → Int32) × (Nat → Nat → Nat → Int64)} : e_Scanner_scanNext_136 n P F A J s1 s2 = some w → k_run t lg (d + 4) 68 136 [(0, .ref (37 * 1024 + 1))] [.int s2, .int s1, .ref (37 * 1024 + 2)] (c_h c B P F A J) (none, c_h c B w.2.1 w.2.2.1 w.2.2.2.1 w.2.2.2.2) := by
  intro hD
  unfold e_Scanner_scanNext_136 at hD
  obtain ⟨A27, hA27, hD⟩ := Option.bind_eq_some_iff.mp hD
  refine k_cstI 37 2 (K := 11) rfl rfl rfl rfl (fun _ => rfl) hA27 ?_
  refine k_runB (pc' := 139) (loc' := [(0, .ref (37 * 1024 + 1))]) (st' := [.ref (37 * 1024 + 1), .ref (37 * 1024 + 1)]) 2 rfl ?_
  refine k_gf 37 1 (K := 11) rfl rfl rfl rfl rfl ?_
  refine k_runB (pc' := 144) (loc' := [(0, .ref (37 * 1024 + 1))]) (st' := [.int ((F 37 105) + 1), .ref (37 * 1024 + 1)]) 2 rfl ?_
  obtain ⟨F28, hF28, hD⟩ := Option.bind_eq_some_iff.mp hD
  refine k_cpt 37 1 (K := 11) (key := 105) rfl rfl (ht 5 5) rfl rfl rfl hF28 ?_
  cases hD
  exact k_vret rfl rfl
def e_Scanner_scanNext_134 (n : Nat) (P : Nat → Nat → Nat) (F : Nat → Nat → Int32) (A : Nat → Nat → Nat → Int32) (J : Nat → Nat → Nat → Int64) (s1 : Int32) : Option (Unit × (Nat → Nat → Nat) × (Nat → Nat → Int32) × (Nat → Nat → Nat → Int32) × (Nat → Nat → Nat → Int64)) :=
    e_Scanner_scanNext_136 n P F A J s1 103
set_option maxRecDepth 10000 in
theorem t_e_Scanner_scanNext_134 (ht : ∀ ci k, t.1 ci k = k_ty ci k) {n : Nat}  {P : Nat → Nat → Nat} {F : Nat → Nat → Int32} {A : Nat → Nat → Nat → Int32} {J : Nat → Nat → Nat → Int64} {s1 : Int32}  {w : Unit × (Nat → Nat → Nat) × (Nat → Nat → Int32) × (Nat → Nat → Nat → Int32) × (Nat → Nat → Nat → Int64)} : e_Scanner_scanNext_134 n P F A J s1 = some w → k_run t lg (d + 4) 68 134 [(0, .ref (37 * 1024 + 1))] [.int s1, .ref (37 * 1024 + 2)] (c_h c B P F A J) (none, c_h c B w.2.1 w.2.2.1 w.2.2.2.1 w.2.2.2.2) := by
  intro hD
  unfold e_Scanner_scanNext_134 at hD
  refine k_runB (pc' := 136) (loc' := [(0, .ref (37 * 1024 + 1))]) (st' := [.int 103, .int s1, .ref (37 * 1024 + 2)]) 1 rfl ?_
  refine k_wk [0] (loc' := [(0, .ref (37 * 1024 + 1))]) rfl rfl ?_
  exact t_e_Scanner_scanNext_136 ht   hD
def e_Scanner_scanNext_39 (n : Nat) (P : Nat → Nat → Nat) (F : Nat → Nat → Int32) (A : Nat → Nat → Nat → Int32) (J : Nat → Nat → Nat → Int64) (x1 : Int32) : Option (Unit × (Nat → Nat → Nat) × (Nat → Nat → Int32) × (Nat → Nat → Nat → Int32) × (Nat → Nat → Nat → Int64)) :=
    (c_st A 37 3 401 x1 (F 37 105)).bind fun A6 =>
    cond (g_cnd .lt (F 37 105) (F 1 1))
    ((m_ld (A6 1 1) 2000 (F 37 105)).bind fun v8 =>
    (e_Scanner_isLetter P F A6 J v8).bind fun v9 =>
    cond (g_cnd .eq v9 0)
    ((e_Scanner_isDigit P F A6 J v8).bind fun v11 =>
    cond (g_cnd .eq v11 0)
    (cond (g_cnd .le v8 0)
    (e_Scanner_scanNext_134 n P F A6 J x1)
    ((e_String_indexOf n P F A6 J ((v8.toUInt32 % 65536).toInt32)).bind fun v14 =>
    cond (g_cnd .lt v14 0)
    (e_Scanner_scanNext_134 n P F A6 J x1)
    (e_Scanner_scanNext_136 n P F A6 J x1 v8)))
    ((e_Scanner_scanDigits n P F A6 J x1).bind fun (_, P17, F18, A19, J20) =>
    some ((), P17, F18, A19, J20)))
    ((e_Scanner_scanLetters n P F A6 J x1).bind fun (_, P22, F23, A24, J25) =>
    some ((), P22, F23, A24, J25)))
    ((c_st A6 37 2 401 x1 102).bind fun A26 =>
    some ((), P, F, A26, J))
set_option maxRecDepth 10000 in
theorem t_e_Scanner_scanNext_39 (ht : ∀ ci k, t.1 ci k = k_ty ci k) {n : Nat}  {P : Nat → Nat → Nat} {F : Nat → Nat → Int32} {A : Nat → Nat → Nat → Int32} {J : Nat → Nat → Nat → Int64} {x1 : Int32}  {w : Unit × (Nat → Nat → Nat) × (Nat → Nat → Int32) × (Nat → Nat → Nat → Int32) × (Nat → Nat → Nat → Int64)} : e_Scanner_scanNext_39 n P F A J x1 = some w → k_run t lg (d + 4) 68 39 [(0, .ref (37 * 1024 + 1)), (1, .int x1), (2, .ref (1 * 1024))] [] (c_h c B P F A J) (none, c_h c B w.2.1 w.2.2.1 w.2.2.2.1 w.2.2.2.2) := by
  intro hD
  unfold e_Scanner_scanNext_39 at hD
  refine k_runB (pc' := 40) (loc' := [(0, .ref (37 * 1024 + 1)), (1, .int x1), (2, .ref (1 * 1024))]) (st' := [.ref (37 * 1024 + 1)]) 1 rfl ?_
  refine k_gf 37 1 (K := 11) rfl rfl rfl rfl rfl ?_
  refine k_runB (pc' := 45) (loc' := [(0, .ref (37 * 1024 + 1)), (1, .int x1), (2, .ref (1 * 1024))]) (st' := [.ref (37 * 1024 + 1), .int x1, .ref (37 * 1024 + 3)]) 2 rfl ?_
  refine k_gf 37 1 (K := 11) rfl rfl rfl rfl rfl ?_
  obtain ⟨A6, hA6, hD⟩ := Option.bind_eq_some_iff.mp hD
  refine k_cstI 37 3 (K := 11) rfl rfl rfl rfl (fun _ => rfl) hA6 ?_
  refine k_runB (pc' := 50) (loc' := [(0, .ref (37 * 1024 + 1)), (1, .int x1), (2, .ref (1 * 1024))]) (st' := [.ref (37 * 1024 + 1)]) 1 rfl ?_
  refine k_gf 37 1 (K := 11) rfl rfl rfl rfl rfl ?_
  refine k_runB (pc' := 54) (loc' := [(0, .ref (37 * 1024 + 1)), (1, .int x1), (2, .ref (1 * 1024))]) (st' := [.ref (1 * 1024), .int (F 37 105)]) 1 rfl ?_
  refine k_gf 1 0 (K := 1) rfl rfl rfl rfl rfl ?_
  refine k_ic rfl (fun c57_6 => ?_) (fun c57_6 => ?_)
  · rw [c57_6, cond_true] at hD
    refine k_runB (pc' := 70) (loc' := [(0, .ref (37 * 1024 + 1)), (1, .int x1), (2, .ref (1 * 1024))]) (st' := [.ref (1 * 1024)]) 1 rfl ?_
    refine k_gf 1 0 (K := 1) rfl rfl rfl rfl rfl ?_
    refine k_runB (pc' := 74) (loc' := [(0, .ref (37 * 1024 + 1)), (1, .int x1), (2, .ref (1 * 1024))]) (st' := [.ref (37 * 1024 + 1), .ref (1 * 1024 + 1)]) 1 rfl ?_
    refine k_gf 37 1 (K := 11) rfl rfl rfl rfl rfl ?_
    obtain ⟨v8, hv8, hD⟩ := Option.bind_eq_some_iff.mp hD
    refine k_ldB rfl (c_get (r := 1) (o := 1) (K := 1) rfl (by decide)) hv8 ?_
    refine k_runB (pc' := 80) (loc' := [(0, .ref (37 * 1024 + 1)), (1, .int x1), (2, .ref (1 * 1024)), (3, .int v8)]) (st' := [.int v8]) 2 rfl ?_
    obtain ⟨v9, hv9, hD⟩ := Option.bind_eq_some_iff.mp hD
    refine k_runC rfl rfl rfl rfl (t_e_Scanner_isLetter (d := d + 3) hv9) ?_
    refine k_if rfl (fun c83_9 => ?_) (fun c83_9 => ?_)
    · rw [c83_9, cond_true] at hD
      refine k_runB (pc' := 96) (loc' := [(0, .ref (37 * 1024 + 1)), (1, .int x1), (2, .ref (1 * 1024)), (3, .int v8)]) (st' := [.int v8]) 1 rfl ?_
      obtain ⟨v11, hv11, hD⟩ := Option.bind_eq_some_iff.mp hD
      refine k_runC rfl rfl rfl rfl (t_e_Scanner_isDigit (d := d + 3) hv11) ?_
      refine k_if rfl (fun c99_11 => ?_) (fun c99_11 => ?_)
      · rw [c99_11, cond_true] at hD
        refine k_runB (pc' := 112) (loc' := [(0, .ref (37 * 1024 + 1)), (1, .int x1), (2, .ref (1 * 1024)), (3, .int v8)]) (st' := [.ref (37 * 1024 + 1)]) 1 rfl ?_
        refine k_gf 37 1 (K := 11) rfl rfl rfl rfl rfl ?_
        refine k_runB (pc' := 117) (loc' := [(0, .ref (37 * 1024 + 1)), (1, .int x1), (2, .ref (1 * 1024)), (3, .int v8)]) (st' := [.int v8, .int x1, .ref (37 * 1024 + 2)]) 2 rfl ?_
        refine k_if rfl (fun c117_12 => ?_) (fun c117_12 => ?_)
        · rw [c117_12, cond_true] at hD
          refine k_wk [0] (loc' := [(0, .ref (37 * 1024 + 1))]) rfl rfl ?_
          exact t_e_Scanner_scanNext_134 ht   hD
        · rw [c117_12, cond_false] at hD
          refine k_runB (pc' := 124) (loc' := [(0, .ref (37 * 1024 + 1)), (1, .int x1), (2, .ref (1 * 1024)), (3, .int v8)]) (st' := [.int ((v8.toUInt32 % 65536).toInt32), .float 2, .int x1, .ref (37 * 1024 + 2)]) 3 rfl ?_
          obtain ⟨v14, hv14, hD⟩ := Option.bind_eq_some_iff.mp hD
          refine k_runC rfl rfl rfl rfl (t_e_String_indexOf (d := d) hv14) ?_
          refine k_if rfl (fun c127_14 => ?_) (fun c127_14 => ?_)
          · rw [c127_14, cond_true] at hD
            refine k_wk [0] (loc' := [(0, .ref (37 * 1024 + 1))]) rfl rfl ?_
            exact t_e_Scanner_scanNext_134 ht   hD
          · rw [c127_14, cond_false] at hD
            refine k_runB (pc' := 136) (loc' := [(0, .ref (37 * 1024 + 1)), (1, .int x1), (2, .ref (1 * 1024)), (3, .int v8)]) (st' := [.int v8, .int x1, .ref (37 * 1024 + 2)]) 2 rfl ?_
            refine k_wk [0] (loc' := [(0, .ref (37 * 1024 + 1))]) rfl rfl ?_
            exact t_e_Scanner_scanNext_136 ht   hD
      · rw [c99_11, cond_false] at hD
        refine k_runB (pc' := 105) (loc' := [(0, .ref (37 * 1024 + 1)), (1, .int x1), (2, .ref (1 * 1024)), (3, .int v8)]) (st' := [.ref (1 * 1024), .int x1, .ref (37 * 1024 + 1)]) 3 rfl ?_
        obtain ⟨⟨v16, P17, F18, A19, J20⟩, hv16, hD⟩ := Option.bind_eq_some_iff.mp hD
        dsimp only at hD
        refine k_runV rfl rfl rfl (c_get (r := 37) (o := 1) (K := 11) rfl (by decide)) rfl rfl (t_e_Scanner_scanDigits (d := d + 2) ht hv16) ?_
        refine k_runB (pc' := 147) (loc' := [(0, .ref (37 * 1024 + 1)), (1, .int x1), (2, .ref (1 * 1024)), (3, .int v8)]) (st' := []) 1 rfl ?_
        cases hD
        exact k_vret rfl rfl
    · rw [c83_9, cond_false] at hD
      refine k_runB (pc' := 89) (loc' := [(0, .ref (37 * 1024 + 1)), (1, .int x1), (2, .ref (1 * 1024)), (3, .int v8)]) (st' := [.ref (1 * 1024), .int x1, .ref (37 * 1024 + 1)]) 3 rfl ?_
      obtain ⟨⟨v21, P22, F23, A24, J25⟩, hv21, hD⟩ := Option.bind_eq_some_iff.mp hD
      dsimp only at hD
      refine k_runV rfl rfl rfl (c_get (r := 37) (o := 1) (K := 11) rfl (by decide)) rfl rfl (t_e_Scanner_scanLetters (d := d + 2) ht hv21) ?_
      refine k_runB (pc' := 147) (loc' := [(0, .ref (37 * 1024 + 1)), (1, .int x1), (2, .ref (1 * 1024)), (3, .int v8)]) (st' := []) 1 rfl ?_
      cases hD
      exact k_vret rfl rfl
  · rw [c57_6, cond_false] at hD
    refine k_runB (pc' := 61) (loc' := [(0, .ref (37 * 1024 + 1)), (1, .int x1), (2, .ref (1 * 1024))]) (st' := [.ref (37 * 1024 + 1)]) 1 rfl ?_
    refine k_gf 37 1 (K := 11) rfl rfl rfl rfl rfl ?_
    refine k_runB (pc' := 67) (loc' := [(0, .ref (37 * 1024 + 1)), (1, .int x1), (2, .ref (1 * 1024))]) (st' := [.int 102, .int x1, .ref (37 * 1024 + 2)]) 2 rfl ?_
    obtain ⟨A26, hA26, hD⟩ := Option.bind_eq_some_iff.mp hD
    refine k_cstI 37 2 (K := 11) rfl rfl rfl rfl (fun _ => rfl) hA26 ?_
    cases hD
    exact k_vret rfl rfl
def e_Scanner_scanNext_0 : Nat → (Nat → Nat → Nat) → (Nat → Nat → Int32) → (Nat → Nat → Nat → Int32) → (Nat → Nat → Nat → Int64) → Int32 → Option (Unit × (Nat → Nat → Nat) × (Nat → Nat → Int32) × (Nat → Nat → Nat → Int32) × (Nat → Nat → Nat → Int64))
  | 0, _, _, _, _, _ => none
  | n + 1, P, F, A, J, x1 => cond (g_cnd .ge (F 37 105) (F 1 1))
    (e_Scanner_scanNext_39 n P F A J x1)
    ((m_ld (A 1 1) 2000 (F 37 105)).bind fun v2 =>
    (e_Scanner_isBlank P F A J v2).bind fun v3 =>
    cond (g_cnd .eq v3 0)
    (e_Scanner_scanNext_39 n P F A J x1)
    ((c_pf F 37 105 ((F 37 105) + 1)).bind fun F5 =>
    (e_Scanner_scanNext_0 n) P F5 A J x1))
set_option maxRecDepth 10000 in
theorem t_e_Scanner_scanNext_0 (ht : ∀ ci k, t.1 ci k = k_ty ci k) {n : Nat}  {P : Nat → Nat → Nat} {F : Nat → Nat → Int32} {A : Nat → Nat → Nat → Int32} {J : Nat → Nat → Nat → Int64} {x1 : Int32}  {w : Unit × (Nat → Nat → Nat) × (Nat → Nat → Int32) × (Nat → Nat → Nat → Int32) × (Nat → Nat → Nat → Int64)} : e_Scanner_scanNext_0 n P F A J x1 = some w → k_run t lg (d + 4) 68 0 [(0, .ref (37 * 1024 + 1)), (1, .int x1), (2, .ref (1 * 1024))] [] (c_h c B P F A J) (none, c_h c B w.2.1 w.2.2.1 w.2.2.2.1 w.2.2.2.2) := by
  induction n generalizing P F A J x1 w with
  | zero => intro hD; cases hD
  | succ n ih =>
    intro hD
    have hK0 : ∀ (P : Nat → Nat → Nat) (F : Nat → Nat → Int32) (A : Nat → Nat → Nat → Int32) (J : Nat → Nat → Nat → Int64) (x1 : Int32) (w : Unit × (Nat → Nat → Nat) × (Nat → Nat → Int32) × (Nat → Nat → Nat → Int32) × (Nat → Nat → Nat → Int64)), e_Scanner_scanNext_0 n P F A J x1 = some w → k_run t lg (d + 4) 68 0 [(0, .ref (37 * 1024 + 1)), (1, .int x1), (2, .ref (1 * 1024))] [] (c_h c B P F A J) (none, c_h c B w.2.1 w.2.2.1 w.2.2.2.1 w.2.2.2.2) := fun _ _ _ _ _ _  h => ih  h
    unfold e_Scanner_scanNext_0 at hD
    refine k_runB (pc' := 1) (loc' := [(0, .ref (37 * 1024 + 1)), (1, .int x1), (2, .ref (1 * 1024))]) (st' := [.ref (37 * 1024 + 1)]) 1 rfl ?_
    refine k_gf 37 1 (K := 11) rfl rfl rfl rfl rfl ?_
    refine k_runB (pc' := 5) (loc' := [(0, .ref (37 * 1024 + 1)), (1, .int x1), (2, .ref (1 * 1024))]) (st' := [.ref (1 * 1024), .int (F 37 105)]) 1 rfl ?_
    refine k_gf 1 0 (K := 1) rfl rfl rfl rfl rfl ?_
    refine k_ic rfl (fun c8_0 => ?_) (fun c8_0 => ?_)
    · rw [c8_0, cond_true] at hD
      refine k_wk [0, 1, 2] (loc' := [(0, .ref (37 * 1024 + 1)), (1, .int x1), (2, .ref (1 * 1024))]) rfl rfl ?_
      exact t_e_Scanner_scanNext_39 ht   hD
    · rw [c8_0, cond_false] at hD
      refine k_runB (pc' := 12) (loc' := [(0, .ref (37 * 1024 + 1)), (1, .int x1), (2, .ref (1 * 1024))]) (st' := [.ref (1 * 1024)]) 1 rfl ?_
      refine k_gf 1 0 (K := 1) rfl rfl rfl rfl rfl ?_
      refine k_runB (pc' := 16) (loc' := [(0, .ref (37 * 1024 + 1)), (1, .int x1), (2, .ref (1 * 1024))]) (st' := [.ref (37 * 1024 + 1), .ref (1 * 1024 + 1)]) 1 rfl ?_
      refine k_gf 37 1 (K := 11) rfl rfl rfl rfl rfl ?_
      obtain ⟨v2, hv2, hD⟩ := Option.bind_eq_some_iff.mp hD
      refine k_ldB rfl (c_get (r := 1) (o := 1) (K := 1) rfl (by decide)) hv2 ?_
      obtain ⟨v3, hv3, hD⟩ := Option.bind_eq_some_iff.mp hD
      refine k_runC rfl rfl rfl rfl (t_e_Scanner_isBlank (d := d + 3) hv3) ?_
      refine k_if rfl (fun c23_3 => ?_) (fun c23_3 => ?_)
      · rw [c23_3, cond_true] at hD
        refine k_wk [0, 1, 2] (loc' := [(0, .ref (37 * 1024 + 1)), (1, .int x1), (2, .ref (1 * 1024))]) rfl rfl ?_
        exact t_e_Scanner_scanNext_39 ht   hD
      · rw [c23_3, cond_false] at hD
        refine k_runB (pc' := 28) (loc' := [(0, .ref (37 * 1024 + 1)), (1, .int x1), (2, .ref (1 * 1024))]) (st' := [.ref (37 * 1024 + 1), .ref (37 * 1024 + 1)]) 2 rfl ?_
        refine k_gf 37 1 (K := 11) rfl rfl rfl rfl rfl ?_
        refine k_runB (pc' := 33) (loc' := [(0, .ref (37 * 1024 + 1)), (1, .int x1), (2, .ref (1 * 1024))]) (st' := [.int ((F 37 105) + 1), .ref (37 * 1024 + 1)]) 2 rfl ?_
        obtain ⟨F5, hF5, hD⟩ := Option.bind_eq_some_iff.mp hD
        refine k_cpt 37 1 (K := 11) (key := 105) rfl rfl (ht 5 5) rfl rfl rfl hF5 ?_
        refine k_runB (pc' := 0) (loc' := [(0, .ref (37 * 1024 + 1)), (1, .int x1), (2, .ref (1 * 1024))]) (st' := []) 1 rfl ?_
        refine k_wk [0, 1, 2] (loc' := [(0, .ref (37 * 1024 + 1)), (1, .int x1), (2, .ref (1 * 1024))]) rfl rfl ?_
        exact hK0 _ _ _ _ _ _  hD
/-- SleepWork$Scanner.scanNext(ILSleepWork$Tape;)V  -/
def e_Scanner_scanNext (n : Nat) (P : Nat → Nat → Nat) (F : Nat → Nat → Int32) (A : Nat → Nat → Nat → Int32) (J : Nat → Nat → Nat → Int64) (x1 : Int32) : Option (Unit × (Nat → Nat → Nat) × (Nat → Nat → Int32) × (Nat → Nat → Nat → Int32) × (Nat → Nat → Nat → Int64)) :=
  e_Scanner_scanNext_0 n P F A J x1
set_option maxRecDepth 10000 in
theorem t_e_Scanner_scanNext (ht : ∀ ci k, t.1 ci k = k_ty ci k) {n : Nat} {P : Nat → Nat → Nat} {F : Nat → Nat → Int32} {A : Nat → Nat → Nat → Int32} {J : Nat → Nat → Nat → Int64} {x1 : Int32}  {w : Unit × (Nat → Nat → Nat) × (Nat → Nat → Int32) × (Nat → Nat → Nat → Int32) × (Nat → Nat → Nat → Int64)} : e_Scanner_scanNext n P F A J x1 = some w → k_run t lg (d + 4) 68 0 [(0, .ref (37 * 1024 + 1)), (1, .int x1), (2, .ref (1 * 1024))] [] (c_h c B P F A J) (none, c_h c B w.2.1 w.2.2.1 w.2.2.2.1 w.2.2.2.2) := by
  intro hD
  unfold e_Scanner_scanNext at hD
  refine k_wk [0, 1, 2] (loc' := [(0, .ref (37 * 1024 + 1)), (1, .int x1), (2, .ref (1 * 1024))]) rfl rfl ?_
  exact t_e_Scanner_scanNext_0 ht   hD
def e_Scanner_scanAll_53 (K9 : (Nat → Nat → Nat) → (Nat → Nat → Int32) → (Nat → Nat → Nat → Int32) → (Nat → Nat → Nat → Int64) → Int32 → Int32 → Option (Unit × (Nat → Nat → Nat) × (Nat → Nat → Int32) × (Nat → Nat → Nat → Int32) × (Nat → Nat → Nat → Int64))) (n : Nat) (P : Nat → Nat → Nat) (F : Nat → Nat → Int32) (A : Nat → Nat → Nat → Int32) (J : Nat → Nat → Nat → Int64) (x3 : Int32) (s0 : Int32) : Option (Unit × (Nat → Nat → Nat) × (Nat → Nat → Int32) × (Nat → Nat → Nat → Int32) × (Nat → Nat → Nat → Int64)) :=
    K9 P F A J s0 (x3 + 1)
set_option maxRecDepth 10000 in
theorem t_e_Scanner_scanAll_53 (ht : ∀ ci k, t.1 ci k = k_ty ci k) {n : Nat} {K9 : (Nat → Nat → Nat) → (Nat → Nat → Int32) → (Nat → Nat → Nat → Int32) → (Nat → Nat → Nat → Int64) → Int32 → Int32 → Option (Unit × (Nat → Nat → Nat) × (Nat → Nat → Int32) × (Nat → Nat → Nat → Int32) × (Nat → Nat → Nat → Int64))} (hK9 : ∀ (P : Nat → Nat → Nat) (F : Nat → Nat → Int32) (A : Nat → Nat → Nat → Int32) (J : Nat → Nat → Nat → Int64) (x2 : Int32) (x3 : Int32) (w : Unit × (Nat → Nat → Nat) × (Nat → Nat → Int32) × (Nat → Nat → Nat → Int32) × (Nat → Nat → Nat → Int64)), K9 P F A J x2 x3 = some w → k_run t lg (d + 5) 67 9 [(0, .ref (37 * 1024 + 1)), (1, .ref (1 * 1024)), (2, .int x2), (3, .int x3)] [] (c_h c B P F A J) (none, c_h c B w.2.1 w.2.2.1 w.2.2.2.1 w.2.2.2.2)) {P : Nat → Nat → Nat} {F : Nat → Nat → Int32} {A : Nat → Nat → Nat → Int32} {J : Nat → Nat → Nat → Int64} {x3 : Int32} {s0 : Int32}  {w : Unit × (Nat → Nat → Nat) × (Nat → Nat → Int32) × (Nat → Nat → Nat → Int32) × (Nat → Nat → Nat → Int64)} : e_Scanner_scanAll_53 K9 n P F A J x3 s0 = some w → k_run t lg (d + 5) 67 53 [(0, .ref (37 * 1024 + 1)), (1, .ref (1 * 1024)), (3, .int x3)] [.int s0] (c_h c B P F A J) (none, c_h c B w.2.1 w.2.2.1 w.2.2.2.1 w.2.2.2.2) := by
  intro hD
  unfold e_Scanner_scanAll_53 at hD
  refine k_runB (pc' := 9) (loc' := [(0, .ref (37 * 1024 + 1)), (1, .ref (1 * 1024)), (2, .int s0), (3, .int (x3 + 1))]) (st' := []) 3 rfl ?_
  refine k_wk [0, 1, 2, 3] (loc' := [(0, .ref (37 * 1024 + 1)), (1, .ref (1 * 1024)), (2, .int s0), (3, .int (x3 + 1))]) rfl rfl ?_
  exact hK9 _ _ _ _ _ _ _  hD
def e_Scanner_scanAll_52 (K9 : (Nat → Nat → Nat) → (Nat → Nat → Int32) → (Nat → Nat → Nat → Int32) → (Nat → Nat → Nat → Int64) → Int32 → Int32 → Option (Unit × (Nat → Nat → Nat) × (Nat → Nat → Int32) × (Nat → Nat → Nat → Int32) × (Nat → Nat → Nat → Int64))) (n : Nat) (P : Nat → Nat → Nat) (F : Nat → Nat → Int32) (A : Nat → Nat → Nat → Int32) (J : Nat → Nat → Nat → Int64) (x3 : Int32) : Option (Unit × (Nat → Nat → Nat) × (Nat → Nat → Int32) × (Nat → Nat → Nat → Int32) × (Nat → Nat → Nat → Int64)) :=
    e_Scanner_scanAll_53 K9 n P F A J x3 0
set_option maxRecDepth 10000 in
theorem t_e_Scanner_scanAll_52 (ht : ∀ ci k, t.1 ci k = k_ty ci k) {n : Nat} {K9 : (Nat → Nat → Nat) → (Nat → Nat → Int32) → (Nat → Nat → Nat → Int32) → (Nat → Nat → Nat → Int64) → Int32 → Int32 → Option (Unit × (Nat → Nat → Nat) × (Nat → Nat → Int32) × (Nat → Nat → Nat → Int32) × (Nat → Nat → Nat → Int64))} (hK9 : ∀ (P : Nat → Nat → Nat) (F : Nat → Nat → Int32) (A : Nat → Nat → Nat → Int32) (J : Nat → Nat → Nat → Int64) (x2 : Int32) (x3 : Int32) (w : Unit × (Nat → Nat → Nat) × (Nat → Nat → Int32) × (Nat → Nat → Nat → Int32) × (Nat → Nat → Nat → Int64)), K9 P F A J x2 x3 = some w → k_run t lg (d + 5) 67 9 [(0, .ref (37 * 1024 + 1)), (1, .ref (1 * 1024)), (2, .int x2), (3, .int x3)] [] (c_h c B P F A J) (none, c_h c B w.2.1 w.2.2.1 w.2.2.2.1 w.2.2.2.2)) {P : Nat → Nat → Nat} {F : Nat → Nat → Int32} {A : Nat → Nat → Nat → Int32} {J : Nat → Nat → Nat → Int64} {x3 : Int32}  {w : Unit × (Nat → Nat → Nat) × (Nat → Nat → Int32) × (Nat → Nat → Nat → Int32) × (Nat → Nat → Nat → Int64)} : e_Scanner_scanAll_52 K9 n P F A J x3 = some w → k_run t lg (d + 5) 67 52 [(0, .ref (37 * 1024 + 1)), (1, .ref (1 * 1024)), (3, .int x3)] [] (c_h c B P F A J) (none, c_h c B w.2.1 w.2.2.1 w.2.2.2.1 w.2.2.2.2) := by
  intro hD
  unfold e_Scanner_scanAll_52 at hD
  refine k_runB (pc' := 53) (loc' := [(0, .ref (37 * 1024 + 1)), (1, .ref (1 * 1024)), (3, .int x3)]) (st' := [.int 0]) 1 rfl ?_
  refine k_wk [0, 1, 3] (loc' := [(0, .ref (37 * 1024 + 1)), (1, .ref (1 * 1024)), (3, .int x3)]) rfl rfl ?_
  exact t_e_Scanner_scanAll_53 ht hK9  hD
def e_Scanner_scanAll_9 : Nat → (Nat → Nat → Nat) → (Nat → Nat → Int32) → (Nat → Nat → Nat → Int32) → (Nat → Nat → Nat → Int64) → Int32 → Int32 → Option (Unit × (Nat → Nat → Nat) × (Nat → Nat → Int32) × (Nat → Nat → Nat → Int32) × (Nat → Nat → Nat → Int64))
  | 0, _, _, _, _, _, _ => none
  | n + 1, P, F, A, J, x2, x3 => cond (g_cnd .gt x3 400)
    (some ((), P, F, A, J))
    (cond (g_cnd .eq x2 0)
    (some ((), P, F, A, J))
    ((e_Scanner_scanNext n P F A J x3).bind fun (_, P5, F6, A7, J8) =>
    (m_ld (A7 37 2) 401 x3).bind fun v9 =>
    cond (g_cnd .eq v9 102)
    (e_Scanner_scanAll_52 (e_Scanner_scanAll_9 n) n P5 F6 A7 J8 x3)
    ((m_ld (A7 37 2) 401 x3).bind fun v11 =>
    cond (g_cnd .eq v11 103)
    (e_Scanner_scanAll_52 (e_Scanner_scanAll_9 n) n P5 F6 A7 J8 x3)
    (e_Scanner_scanAll_53 (e_Scanner_scanAll_9 n) n P5 F6 A7 J8 x3 1))))
set_option maxRecDepth 10000 in
theorem t_e_Scanner_scanAll_9 (ht : ∀ ci k, t.1 ci k = k_ty ci k) {n : Nat}  {P : Nat → Nat → Nat} {F : Nat → Nat → Int32} {A : Nat → Nat → Nat → Int32} {J : Nat → Nat → Nat → Int64} {x2 : Int32} {x3 : Int32}  {w : Unit × (Nat → Nat → Nat) × (Nat → Nat → Int32) × (Nat → Nat → Nat → Int32) × (Nat → Nat → Nat → Int64)} : e_Scanner_scanAll_9 n P F A J x2 x3 = some w → k_run t lg (d + 5) 67 9 [(0, .ref (37 * 1024 + 1)), (1, .ref (1 * 1024)), (2, .int x2), (3, .int x3)] [] (c_h c B P F A J) (none, c_h c B w.2.1 w.2.2.1 w.2.2.2.1 w.2.2.2.2) := by
  induction n generalizing P F A J x2 x3 w with
  | zero => intro hD; cases hD
  | succ n ih =>
    intro hD
    have hK9 : ∀ (P : Nat → Nat → Nat) (F : Nat → Nat → Int32) (A : Nat → Nat → Nat → Int32) (J : Nat → Nat → Nat → Int64) (x2 : Int32) (x3 : Int32) (w : Unit × (Nat → Nat → Nat) × (Nat → Nat → Int32) × (Nat → Nat → Nat → Int32) × (Nat → Nat → Nat → Int64)), e_Scanner_scanAll_9 n P F A J x2 x3 = some w → k_run t lg (d + 5) 67 9 [(0, .ref (37 * 1024 + 1)), (1, .ref (1 * 1024)), (2, .int x2), (3, .int x3)] [] (c_h c B P F A J) (none, c_h c B w.2.1 w.2.2.1 w.2.2.2.1 w.2.2.2.2) := fun _ _ _ _ _ _ _  h => ih  h
    unfold e_Scanner_scanAll_9 at hD
    refine k_runB (pc' := 13) (loc' := [(0, .ref (37 * 1024 + 1)), (1, .ref (1 * 1024)), (2, .int x2), (3, .int x3)]) (st' := [.int 400, .int x3]) 2 rfl ?_
    refine k_ic rfl (fun c13_1 => ?_) (fun c13_1 => ?_)
    · rw [c13_1, cond_true] at hD
      cases hD
      exact k_vret rfl rfl
    · rw [c13_1, cond_false] at hD
      refine k_runB (pc' := 17) (loc' := [(0, .ref (37 * 1024 + 1)), (1, .ref (1 * 1024)), (2, .int x2), (3, .int x3)]) (st' := [.int x2]) 1 rfl ?_
      refine k_if rfl (fun c17_2 => ?_) (fun c17_2 => ?_)
      · rw [c17_2, cond_true] at hD
        cases hD
        exact k_vret rfl rfl
      · rw [c17_2, cond_false] at hD
        refine k_runB (pc' := 23) (loc' := [(0, .ref (37 * 1024 + 1)), (1, .ref (1 * 1024)), (2, .int x2), (3, .int x3)]) (st' := [.ref (1 * 1024), .int x3, .ref (37 * 1024 + 1)]) 3 rfl ?_
        obtain ⟨⟨v4, P5, F6, A7, J8⟩, hv4, hD⟩ := Option.bind_eq_some_iff.mp hD
        dsimp only at hD
        refine k_runV rfl rfl rfl (c_get (r := 37) (o := 1) (K := 11) rfl (by decide)) rfl rfl (t_e_Scanner_scanNext (d := d) ht hv4) ?_
        refine k_runB (pc' := 27) (loc' := [(0, .ref (37 * 1024 + 1)), (1, .ref (1 * 1024)), (2, .int x2), (3, .int x3)]) (st' := [.ref (37 * 1024 + 1)]) 1 rfl ?_
        refine k_gf 37 1 (K := 11) rfl rfl rfl rfl rfl ?_
        refine k_runB (pc' := 31) (loc' := [(0, .ref (37 * 1024 + 1)), (1, .ref (1 * 1024)), (2, .int x2), (3, .int x3)]) (st' := [.int x3, .ref (37 * 1024 + 2)]) 1 rfl ?_
        obtain ⟨v9, hv9, hD⟩ := Option.bind_eq_some_iff.mp hD
        refine k_ldI rfl (c_get (r := 37) (o := 2) (K := 11) rfl (by decide)) hv9 ?_
        refine k_runB (pc' := 34) (loc' := [(0, .ref (37 * 1024 + 1)), (1, .ref (1 * 1024)), (2, .int x2), (3, .int x3)]) (st' := [.int 102, .int v9]) 1 rfl ?_
        refine k_ic rfl (fun c34_9 => ?_) (fun c34_9 => ?_)
        · rw [c34_9, cond_true] at hD
          refine k_wk [0, 1, 3] (loc' := [(0, .ref (37 * 1024 + 1)), (1, .ref (1 * 1024)), (3, .int x3)]) rfl rfl ?_
          exact t_e_Scanner_scanAll_52 ht hK9  hD
        · rw [c34_9, cond_false] at hD
          refine k_runB (pc' := 38) (loc' := [(0, .ref (37 * 1024 + 1)), (1, .ref (1 * 1024)), (2, .int x2), (3, .int x3)]) (st' := [.ref (37 * 1024 + 1)]) 1 rfl ?_
          refine k_gf 37 1 (K := 11) rfl rfl rfl rfl rfl ?_
          refine k_runB (pc' := 42) (loc' := [(0, .ref (37 * 1024 + 1)), (1, .ref (1 * 1024)), (2, .int x2), (3, .int x3)]) (st' := [.int x3, .ref (37 * 1024 + 2)]) 1 rfl ?_
          obtain ⟨v11, hv11, hD⟩ := Option.bind_eq_some_iff.mp hD
          refine k_ldI rfl (c_get (r := 37) (o := 2) (K := 11) rfl (by decide)) hv11 ?_
          refine k_runB (pc' := 45) (loc' := [(0, .ref (37 * 1024 + 1)), (1, .ref (1 * 1024)), (2, .int x2), (3, .int x3)]) (st' := [.int 103, .int v11]) 1 rfl ?_
          refine k_ic rfl (fun c45_11 => ?_) (fun c45_11 => ?_)
          · rw [c45_11, cond_true] at hD
            refine k_wk [0, 1, 3] (loc' := [(0, .ref (37 * 1024 + 1)), (1, .ref (1 * 1024)), (3, .int x3)]) rfl rfl ?_
            exact t_e_Scanner_scanAll_52 ht hK9  hD
          · rw [c45_11, cond_false] at hD
            refine k_runB (pc' := 53) (loc' := [(0, .ref (37 * 1024 + 1)), (1, .ref (1 * 1024)), (2, .int x2), (3, .int x3)]) (st' := [.int 1]) 2 rfl ?_
            refine k_wk [0, 1, 3] (loc' := [(0, .ref (37 * 1024 + 1)), (1, .ref (1 * 1024)), (3, .int x3)]) rfl rfl ?_
            exact t_e_Scanner_scanAll_53 ht hK9  hD
/-- SleepWork$Scanner.scanAll(LSleepWork$Tape;)V  -/
def e_Scanner_scanAll (n : Nat) (P : Nat → Nat → Nat) (F : Nat → Nat → Int32) (A : Nat → Nat → Nat → Int32) (J : Nat → Nat → Nat → Int64) : Option (Unit × (Nat → Nat → Nat) × (Nat → Nat → Int32) × (Nat → Nat → Nat → Int32) × (Nat → Nat → Nat → Int64)) :=
  (c_pf F 37 105 0).bind fun F1 =>
  e_Scanner_scanAll_9 n P F1 A J 1 0
set_option maxRecDepth 10000 in
theorem t_e_Scanner_scanAll (ht : ∀ ci k, t.1 ci k = k_ty ci k) {n : Nat} {P : Nat → Nat → Nat} {F : Nat → Nat → Int32} {A : Nat → Nat → Nat → Int32} {J : Nat → Nat → Nat → Int64}   {w : Unit × (Nat → Nat → Nat) × (Nat → Nat → Int32) × (Nat → Nat → Nat → Int32) × (Nat → Nat → Nat → Int64)} : e_Scanner_scanAll n P F A J = some w → k_run t lg (d + 5) 67 0 [(0, .ref (37 * 1024 + 1)), (1, .ref (1 * 1024))] [] (c_h c B P F A J) (none, c_h c B w.2.1 w.2.2.1 w.2.2.2.1 w.2.2.2.2) := by
  intro hD
  unfold e_Scanner_scanAll at hD
  refine k_runB (pc' := 2) (loc' := [(0, .ref (37 * 1024 + 1)), (1, .ref (1 * 1024))]) (st' := [.int 0, .ref (37 * 1024 + 1)]) 2 rfl ?_
  obtain ⟨F1, hF1, hD⟩ := Option.bind_eq_some_iff.mp hD
  refine k_cpt 37 1 (K := 11) (key := 105) rfl rfl (ht 5 5) rfl rfl rfl hF1 ?_
  refine k_runB (pc' := 9) (loc' := [(0, .ref (37 * 1024 + 1)), (1, .ref (1 * 1024)), (2, .int 1), (3, .int 0)]) (st' := []) 4 rfl ?_
  refine k_wk [0, 1, 2, 3] (loc' := [(0, .ref (37 * 1024 + 1)), (1, .ref (1 * 1024)), (2, .int 1), (3, .int 0)]) rfl rfl ?_
  exact t_e_Scanner_scanAll_9 ht   hD
/-- SleepWork$Reader.open(LSleepWork$Tape;LSleepWork$House;LSleepWork$State;)V  -/
def e_Reader_open (n : Nat) (P : Nat → Nat → Nat) (F : Nat → Nat → Int32) (A : Nat → Nat → Nat → Int32) (J : Nat → Nat → Nat → Int64) (r2 : Nat) (r3 : Nat) : Option (Unit × (Nat → Nat → Nat) × (Nat → Nat → Int32) × (Nat → Nat → Nat → Int32) × (Nat → Nat → Nat → Int64)) :=
  (c_pp P 37 5 r2).bind fun P1 =>
  (c_pp P1 37 6 r3).bind fun P2 =>
  (c_chk 6 (P2 37 5)).bind fun q3 =>
  (e_House_clear P2 F A J q3).bind fun (_, P5, F6, A7, J8) =>
  (c_chk 2 (P5 37 6)).bind fun q9 =>
  (e_State_clear P5 F6 A7 J8 q9).bind fun (_, P11, F12, A13, J14) =>
  (c_pf F12 37 7 0).bind fun F15 =>
  (c_pf F15 37 8 0).bind fun F16 =>
  (c_pf F16 37 9 0).bind fun F17 =>
  (c_pf F17 37 10 0).bind fun F18 =>
  (c_pf F18 37 12 0).bind fun F19 =>
  (e_Scanner_scanAll n P11 F19 A13 J14).bind fun (_, P21, F22, A23, J24) =>
  some ((), P21, F22, A23, J24)
set_option maxRecDepth 10000 in
theorem t_e_Reader_open (ht : ∀ ci k, t.1 ci k = k_ty ci k) {n : Nat} {P : Nat → Nat → Nat} {F : Nat → Nat → Int32} {A : Nat → Nat → Nat → Int32} {J : Nat → Nat → Nat → Int64} {r2 : Nat} {r3 : Nat} (hr2 : c_kind r2 = 6) (hr3 : c_kind r3 = 2) {w : Unit × (Nat → Nat → Nat) × (Nat → Nat → Int32) × (Nat → Nat → Nat → Int32) × (Nat → Nat → Nat → Int64)} : e_Reader_open n P F A J r2 r3 = some w → k_run t lg (d + 6) 41 0 [(0, .ref (37 * 1024)), (1, .ref (1 * 1024)), (2, .ref (r2 * 1024)), (3, .ref (r3 * 1024))] [] (c_h c B P F A J) (none, c_h c B w.2.1 w.2.2.1 w.2.2.2.1 w.2.2.2.2) := by
  intro hD
  unfold e_Reader_open at hD
  refine k_runB (pc' := 2) (loc' := [(0, .ref (37 * 1024)), (1, .ref (1 * 1024)), (2, .ref (r2 * 1024)), (3, .ref (r3 * 1024))]) (st' := [.ref (r2 * 1024), .ref (37 * 1024)]) 2 rfl ?_
  obtain ⟨P1, hP1, hD⟩ := Option.bind_eq_some_iff.mp hD
  refine k_cpp 37 0 (K := 11) (key := 5) (C := "SleepWork$House") (q := r2) rfl rfl (ht 4 5) rfl rfl rfl hP1 ?_
  refine k_runB (pc' := 7) (loc' := [(0, .ref (37 * 1024)), (1, .ref (1 * 1024)), (2, .ref (r2 * 1024)), (3, .ref (r3 * 1024))]) (st' := [.ref (r3 * 1024), .ref (37 * 1024)]) 2 rfl ?_
  obtain ⟨P2, hP2, hD⟩ := Option.bind_eq_some_iff.mp hD
  refine k_cpp 37 0 (K := 11) (key := 6) (C := "SleepWork$State") (q := r3) rfl rfl (ht 4 6) rfl rfl rfl hP2 ?_
  refine k_runB (pc' := 11) (loc' := [(0, .ref (37 * 1024)), (1, .ref (1 * 1024)), (2, .ref (r2 * 1024)), (3, .ref (r3 * 1024))]) (st' := [.ref (37 * 1024)]) 1 rfl ?_
  obtain ⟨q3, hq3, hD⟩ := Option.bind_eq_some_iff.mp hD
  refine k_gq 37 0 (K := 11) (K2 := 6) (key := 5) rfl rfl rfl rfl rfl hq3 (fun kq3 => ?_)
  obtain ⟨⟨v4, P5, F6, A7, J8⟩, hv4, hD⟩ := Option.bind_eq_some_iff.mp hD
  dsimp only at hD
  refine k_runV rfl rfl rfl (c_get (r := q3) (o := 0) (K := 6) kq3 (by decide)) rfl rfl (t_e_House_clear (d := d + 3) ht kq3 hv4) ?_
  refine k_runB (pc' := 18) (loc' := [(0, .ref (37 * 1024)), (1, .ref (1 * 1024)), (2, .ref (r2 * 1024)), (3, .ref (r3 * 1024))]) (st' := [.ref (37 * 1024)]) 1 rfl ?_
  obtain ⟨q9, hq9, hD⟩ := Option.bind_eq_some_iff.mp hD
  refine k_gq 37 0 (K := 11) (K2 := 2) (key := 6) rfl rfl rfl rfl rfl hq9 (fun kq9 => ?_)
  obtain ⟨⟨v10, P11, F12, A13, J14⟩, hv10, hD⟩ := Option.bind_eq_some_iff.mp hD
  dsimp only at hD
  refine k_runV rfl rfl rfl (c_get (r := q9) (o := 0) (K := 2) kq9 (by decide)) rfl rfl (t_e_State_clear (d := d + 4) ht kq9 hv10) ?_
  refine k_runB (pc' := 26) (loc' := [(0, .ref (37 * 1024)), (1, .ref (1 * 1024)), (2, .ref (r2 * 1024)), (3, .ref (r3 * 1024))]) (st' := [.int 0, .ref (37 * 1024)]) 2 rfl ?_
  obtain ⟨F15, hF15, hD⟩ := Option.bind_eq_some_iff.mp hD
  refine k_cpt 37 0 (K := 11) (key := 7) rfl rfl (ht 4 7) rfl rfl rfl hF15 ?_
  refine k_runB (pc' := 31) (loc' := [(0, .ref (37 * 1024)), (1, .ref (1 * 1024)), (2, .ref (r2 * 1024)), (3, .ref (r3 * 1024))]) (st' := [.int 0, .ref (37 * 1024)]) 2 rfl ?_
  obtain ⟨F16, hF16, hD⟩ := Option.bind_eq_some_iff.mp hD
  refine k_cpt 37 0 (K := 11) (key := 8) rfl rfl (ht 4 8) rfl rfl rfl hF16 ?_
  refine k_runB (pc' := 36) (loc' := [(0, .ref (37 * 1024)), (1, .ref (1 * 1024)), (2, .ref (r2 * 1024)), (3, .ref (r3 * 1024))]) (st' := [.int 0, .ref (37 * 1024)]) 2 rfl ?_
  obtain ⟨F17, hF17, hD⟩ := Option.bind_eq_some_iff.mp hD
  refine k_cpt 37 0 (K := 11) (key := 9) rfl rfl (ht 4 9) rfl rfl rfl hF17 ?_
  refine k_runB (pc' := 41) (loc' := [(0, .ref (37 * 1024)), (1, .ref (1 * 1024)), (2, .ref (r2 * 1024)), (3, .ref (r3 * 1024))]) (st' := [.int 0, .ref (37 * 1024)]) 2 rfl ?_
  obtain ⟨F18, hF18, hD⟩ := Option.bind_eq_some_iff.mp hD
  refine k_cpt 37 0 (K := 11) (key := 10) rfl rfl (ht 4 10) rfl rfl rfl hF18 ?_
  refine k_runB (pc' := 46) (loc' := [(0, .ref (37 * 1024)), (1, .ref (1 * 1024)), (2, .ref (r2 * 1024)), (3, .ref (r3 * 1024))]) (st' := [.int 0, .ref (37 * 1024)]) 2 rfl ?_
  obtain ⟨F19, hF19, hD⟩ := Option.bind_eq_some_iff.mp hD
  refine k_cpt 37 0 (K := 11) (key := 12) rfl rfl (ht 4 12) rfl rfl rfl hF19 ?_
  refine k_runB (pc' := 50) (loc' := [(0, .ref (37 * 1024)), (1, .ref (1 * 1024)), (2, .ref (r2 * 1024)), (3, .ref (r3 * 1024))]) (st' := [.ref (37 * 1024)]) 1 rfl ?_
  refine k_gf 37 0 (K := 11) rfl rfl rfl rfl rfl ?_
  refine k_runB (pc' := 54) (loc' := [(0, .ref (37 * 1024)), (1, .ref (1 * 1024)), (2, .ref (r2 * 1024)), (3, .ref (r3 * 1024))]) (st' := [.ref (1 * 1024), .ref (37 * 1024 + 1)]) 1 rfl ?_
  obtain ⟨⟨v20, P21, F22, A23, J24⟩, hv20, hD⟩ := Option.bind_eq_some_iff.mp hD
  dsimp only at hD
  refine k_runV rfl rfl rfl (c_get (r := 37) (o := 1) (K := 11) rfl (by decide)) rfl rfl (t_e_Scanner_scanAll (d := d) ht hv20) ?_
  cases hD
  exact k_vret rfl rfl
end MC
end Qz24
section Qz25
/-! the class's methods as functions (printed by wip/dec2.py) -/
section MC
variable {t : gT} {lg : Nat → Nat} {d : Nat} {c : Nat × Nat} {B : Nat → List gE}
/-- SleepWork$Reader.isNext(I)Z  -/
def e_Reader_isNext (P : Nat → Nat → Nat) (F : Nat → Nat → Int32) (A : Nat → Nat → Nat → Int32) (J : Nat → Nat → Nat → Int64) (x1 : Int32) : Option (Int32) :=
  cond (g_cnd .ne (F 37 10) 0)
  (some (0))
  ((m_ld (A 37 2) 401 (F 37 7)).bind fun v2 =>
  cond (g_cnd .ne v2 x1)
  (some (0))
  (some (1)))
set_option maxRecDepth 10000 in
theorem t_e_Reader_isNext {P : Nat → Nat → Nat} {F : Nat → Nat → Int32} {A : Nat → Nat → Nat → Int32} {J : Nat → Nat → Nat → Int64} {x1 : Int32}  {w : Int32} : e_Reader_isNext P F A J x1 = some w → k_run t lg (d) 44 0 [(0, .ref (37 * 1024)), (1, .int x1)] [] (c_h c B P F A J) (some (.int w), c_h c B P F A J) := by
  intro hD
  unfold e_Reader_isNext at hD
  refine k_runB (pc' := 1) (loc' := [(0, .ref (37 * 1024)), (1, .int x1)]) (st' := [.ref (37 * 1024)]) 1 rfl ?_
  refine k_gf 37 0 (K := 11) rfl rfl rfl rfl rfl ?_
  refine k_if rfl (fun c4_0 => ?_) (fun c4_0 => ?_)
  · rw [c4_0, cond_true] at hD
    refine k_runB (pc' := 28) (loc' := [(0, .ref (37 * 1024)), (1, .int x1)]) (st' := [.int 0]) 1 rfl ?_
    cases hD
    exact k_zret rfl rfl (Or.inl rfl)
  · rw [c4_0, cond_false] at hD
    refine k_runB (pc' := 8) (loc' := [(0, .ref (37 * 1024)), (1, .int x1)]) (st' := [.ref (37 * 1024)]) 1 rfl ?_
    refine k_gf 37 0 (K := 11) rfl rfl rfl rfl rfl ?_
    refine k_gf 37 1 (K := 11) rfl rfl rfl rfl rfl ?_
    refine k_runB (pc' := 15) (loc' := [(0, .ref (37 * 1024)), (1, .int x1)]) (st' := [.ref (37 * 1024), .ref (37 * 1024 + 2)]) 1 rfl ?_
    refine k_gf 37 0 (K := 11) rfl rfl rfl rfl rfl ?_
    obtain ⟨v2, hv2, hD⟩ := Option.bind_eq_some_iff.mp hD
    refine k_ldI rfl (c_get (r := 37) (o := 2) (K := 11) rfl (by decide)) hv2 ?_
    refine k_runB (pc' := 20) (loc' := [(0, .ref (37 * 1024)), (1, .int x1)]) (st' := [.int x1, .int v2]) 1 rfl ?_
    refine k_ic rfl (fun c20_2 => ?_) (fun c20_2 => ?_)
    · rw [c20_2, cond_true] at hD
      refine k_runB (pc' := 28) (loc' := [(0, .ref (37 * 1024)), (1, .int x1)]) (st' := [.int 0]) 1 rfl ?_
      cases hD
      exact k_zret rfl rfl (Or.inl rfl)
    · rw [c20_2, cond_false] at hD
      refine k_runB (pc' := 28) (loc' := [(0, .ref (37 * 1024)), (1, .int x1)]) (st' := [.int 1]) 2 rfl ?_
      cases hD
      exact k_zret rfl rfl (Or.inr rfl)
def e_Reader_fail_15 (P : Nat → Nat → Nat) (F : Nat → Nat → Int32) (A : Nat → Nat → Nat → Int32) (J : Nat → Nat → Nat → Int64) (x1 : Int32) (x2 : Int32) : Option (Unit × (Nat → Nat → Nat) × (Nat → Nat → Int32) × (Nat → Nat → Nat → Int32) × (Nat → Nat → Nat → Int64)) :=
    (c_pf F 37 10 x1).bind fun F3 =>
    (c_pf F3 37 11 x2).bind fun F4 =>
    some ((), P, F4, A, J)
set_option maxRecDepth 10000 in
theorem t_e_Reader_fail_15 (ht : ∀ ci k, t.1 ci k = k_ty ci k)  {P : Nat → Nat → Nat} {F : Nat → Nat → Int32} {A : Nat → Nat → Nat → Int32} {J : Nat → Nat → Nat → Int64} {x1 : Int32} {x2 : Int32}  {w : Unit × (Nat → Nat → Nat) × (Nat → Nat → Int32) × (Nat → Nat → Nat → Int32) × (Nat → Nat → Nat → Int64)} : e_Reader_fail_15 P F A J x1 x2 = some w → k_run t lg (d) 42 15 [(0, .ref (37 * 1024)), (1, .int x1), (2, .int x2)] [] (c_h c B P F A J) (none, c_h c B w.2.1 w.2.2.1 w.2.2.2.1 w.2.2.2.2) := by
  intro hD
  unfold e_Reader_fail_15 at hD
  refine k_runB (pc' := 17) (loc' := [(0, .ref (37 * 1024)), (1, .int x1), (2, .int x2)]) (st' := [.int x1, .ref (37 * 1024)]) 2 rfl ?_
  obtain ⟨F3, hF3, hD⟩ := Option.bind_eq_some_iff.mp hD
  refine k_cpt 37 0 (K := 11) (key := 10) rfl rfl (ht 4 10) rfl rfl rfl hF3 ?_
  refine k_runB (pc' := 22) (loc' := [(0, .ref (37 * 1024)), (1, .int x1), (2, .int x2)]) (st' := [.int x2, .ref (37 * 1024)]) 2 rfl ?_
  obtain ⟨F4, hF4, hD⟩ := Option.bind_eq_some_iff.mp hD
  refine k_cpt 37 0 (K := 11) (key := 11) rfl rfl (ht 4 11) rfl rfl rfl hF4 ?_
  cases hD
  exact k_vret rfl rfl
/-- SleepWork$Reader.fail(II)V  -/
def e_Reader_fail (P : Nat → Nat → Nat) (F : Nat → Nat → Int32) (A : Nat → Nat → Nat → Int32) (J : Nat → Nat → Nat → Int64) (x1 : Int32) (x2 : Int32) : Option (Unit × (Nat → Nat → Nat) × (Nat → Nat → Int32) × (Nat → Nat → Nat → Int32) × (Nat → Nat → Nat → Int64)) :=
  cond (g_cnd .eq (F 37 10) 0)
  (e_Reader_fail_15 P F A J x1 x2)
  (cond (g_cnd .ge x2 (F 37 11))
  (some ((), P, F, A, J))
  (e_Reader_fail_15 P F A J x1 x2))
set_option maxRecDepth 10000 in
theorem t_e_Reader_fail (ht : ∀ ci k, t.1 ci k = k_ty ci k) {P : Nat → Nat → Nat} {F : Nat → Nat → Int32} {A : Nat → Nat → Nat → Int32} {J : Nat → Nat → Nat → Int64} {x1 : Int32} {x2 : Int32}  {w : Unit × (Nat → Nat → Nat) × (Nat → Nat → Int32) × (Nat → Nat → Nat → Int32) × (Nat → Nat → Nat → Int64)} : e_Reader_fail P F A J x1 x2 = some w → k_run t lg (d) 42 0 [(0, .ref (37 * 1024)), (1, .int x1), (2, .int x2)] [] (c_h c B P F A J) (none, c_h c B w.2.1 w.2.2.1 w.2.2.2.1 w.2.2.2.2) := by
  intro hD
  unfold e_Reader_fail at hD
  refine k_runB (pc' := 1) (loc' := [(0, .ref (37 * 1024)), (1, .int x1), (2, .int x2)]) (st' := [.ref (37 * 1024)]) 1 rfl ?_
  refine k_gf 37 0 (K := 11) rfl rfl rfl rfl rfl ?_
  refine k_if rfl (fun c4_0 => ?_) (fun c4_0 => ?_)
  · rw [c4_0, cond_true] at hD
    refine k_wk [0, 1, 2] (loc' := [(0, .ref (37 * 1024)), (1, .int x1), (2, .int x2)]) rfl rfl ?_
    exact t_e_Reader_fail_15 ht   hD
  · rw [c4_0, cond_false] at hD
    refine k_runB (pc' := 9) (loc' := [(0, .ref (37 * 1024)), (1, .int x1), (2, .int x2)]) (st' := [.ref (37 * 1024), .int x2]) 2 rfl ?_
    refine k_gf 37 0 (K := 11) rfl rfl rfl rfl rfl ?_
    refine k_ic rfl (fun c12_1 => ?_) (fun c12_1 => ?_)
    · rw [c12_1, cond_true] at hD
      cases hD
      exact k_vret rfl rfl
    · rw [c12_1, cond_false] at hD
      refine k_wk [0, 1, 2] (loc' := [(0, .ref (37 * 1024)), (1, .int x1), (2, .int x2)]) rfl rfl ?_
      exact t_e_Reader_fail_15 ht   hD
/-- SleepWork$Reader.take(I)Z  -/
def e_Reader_take (P : Nat → Nat → Nat) (F : Nat → Nat → Int32) (A : Nat → Nat → Nat → Int32) (J : Nat → Nat → Nat → Int64) (x1 : Int32) : Option (Int32 × (Nat → Nat → Nat) × (Nat → Nat → Int32) × (Nat → Nat → Nat → Int32) × (Nat → Nat → Nat → Int64)) :=
  cond (g_cnd .eq (F 37 10) 0)
  ((m_ld (A 37 2) 401 (F 37 7)).bind fun v2 =>
  cond (g_cnd .eq v2 x1)
  (cond (g_cnd .lt (F 37 7) 400)
  ((c_pf F 37 8 (F 37 7)).bind fun F5 =>
  (c_pf F5 37 7 ((F5 37 7) + 1)).bind fun F6 =>
  some (1, P, F6, A, J))
  ((m_ld (A 37 3) 401 (F 37 7)).bind fun v7 =>
  (e_Reader_fail P F A J 2 v7).bind fun (_, P9, F10, A11, J12) =>
  some (0, P9, F10, A11, J12)))
  ((m_ld (A 37 3) 401 (F 37 7)).bind fun v13 =>
  (e_Reader_fail P F A J 1 v13).bind fun (_, P15, F16, A17, J18) =>
  some (0, P15, F16, A17, J18)))
  (some (0, P, F, A, J))
set_option maxRecDepth 10000 in
theorem t_e_Reader_take (ht : ∀ ci k, t.1 ci k = k_ty ci k) {P : Nat → Nat → Nat} {F : Nat → Nat → Int32} {A : Nat → Nat → Nat → Int32} {J : Nat → Nat → Nat → Int64} {x1 : Int32}  {w : Int32 × (Nat → Nat → Nat) × (Nat → Nat → Int32) × (Nat → Nat → Nat → Int32) × (Nat → Nat → Nat → Int64)} : e_Reader_take P F A J x1 = some w → k_run t lg (d + 1) 45 0 [(0, .ref (37 * 1024)), (1, .int x1)] [] (c_h c B P F A J) (some (.int w.1), c_h c B w.2.1 w.2.2.1 w.2.2.2.1 w.2.2.2.2) := by
  intro hD
  unfold e_Reader_take at hD
  refine k_runB (pc' := 1) (loc' := [(0, .ref (37 * 1024)), (1, .int x1)]) (st' := [.ref (37 * 1024)]) 1 rfl ?_
  refine k_gf 37 0 (K := 11) rfl rfl rfl rfl rfl ?_
  refine k_if rfl (fun c4_0 => ?_) (fun c4_0 => ?_)
  · rw [c4_0, cond_true] at hD
    refine k_runB (pc' := 10) (loc' := [(0, .ref (37 * 1024)), (1, .int x1)]) (st' := [.ref (37 * 1024)]) 1 rfl ?_
    refine k_gf 37 0 (K := 11) rfl rfl rfl rfl rfl ?_
    refine k_gf 37 1 (K := 11) rfl rfl rfl rfl rfl ?_
    refine k_runB (pc' := 17) (loc' := [(0, .ref (37 * 1024)), (1, .int x1)]) (st' := [.ref (37 * 1024), .ref (37 * 1024 + 2)]) 1 rfl ?_
    refine k_gf 37 0 (K := 11) rfl rfl rfl rfl rfl ?_
    obtain ⟨v2, hv2, hD⟩ := Option.bind_eq_some_iff.mp hD
    refine k_ldI rfl (c_get (r := 37) (o := 2) (K := 11) rfl (by decide)) hv2 ?_
    refine k_runB (pc' := 22) (loc' := [(0, .ref (37 * 1024)), (1, .int x1)]) (st' := [.int x1, .int v2]) 1 rfl ?_
    refine k_ic rfl (fun c22_2 => ?_) (fun c22_2 => ?_)
    · rw [c22_2, cond_true] at hD
      refine k_runB (pc' := 45) (loc' := [(0, .ref (37 * 1024)), (1, .int x1)]) (st' := [.ref (37 * 1024)]) 1 rfl ?_
      refine k_gf 37 0 (K := 11) rfl rfl rfl rfl rfl ?_
      refine k_runB (pc' := 51) (loc' := [(0, .ref (37 * 1024)), (1, .int x1)]) (st' := [.int 400, .int (F 37 7)]) 1 rfl ?_
      refine k_ic rfl (fun c51_3 => ?_) (fun c51_3 => ?_)
      · rw [c51_3, cond_true] at hD
        refine k_runB (pc' := 75) (loc' := [(0, .ref (37 * 1024)), (1, .int x1)]) (st' := [.ref (37 * 1024), .ref (37 * 1024)]) 2 rfl ?_
        refine k_gf 37 0 (K := 11) rfl rfl rfl rfl rfl ?_
        obtain ⟨F5, hF5, hD⟩ := Option.bind_eq_some_iff.mp hD
        refine k_cpt 37 0 (K := 11) (key := 8) rfl rfl (ht 4 8) rfl rfl rfl hF5 ?_
        refine k_runB (pc' := 83) (loc' := [(0, .ref (37 * 1024)), (1, .int x1)]) (st' := [.ref (37 * 1024), .ref (37 * 1024)]) 2 rfl ?_
        refine k_gf 37 0 (K := 11) rfl rfl rfl rfl rfl ?_
        refine k_runB (pc' := 88) (loc' := [(0, .ref (37 * 1024)), (1, .int x1)]) (st' := [.int ((F5 37 7) + 1), .ref (37 * 1024)]) 2 rfl ?_
        obtain ⟨F6, hF6, hD⟩ := Option.bind_eq_some_iff.mp hD
        refine k_cpt 37 0 (K := 11) (key := 7) rfl rfl (ht 4 7) rfl rfl rfl hF6 ?_
        refine k_runB (pc' := 92) (loc' := [(0, .ref (37 * 1024)), (1, .int x1)]) (st' := [.int 1]) 1 rfl ?_
        cases hD
        exact k_zret rfl rfl (Or.inr rfl)
      · rw [c51_3, cond_false] at hD
        refine k_runB (pc' := 57) (loc' := [(0, .ref (37 * 1024)), (1, .int x1)]) (st' := [.ref (37 * 1024), .int 2, .ref (37 * 1024)]) 3 rfl ?_
        refine k_gf 37 0 (K := 11) rfl rfl rfl rfl rfl ?_
        refine k_gf 37 1 (K := 11) rfl rfl rfl rfl rfl ?_
        refine k_runB (pc' := 64) (loc' := [(0, .ref (37 * 1024)), (1, .int x1)]) (st' := [.ref (37 * 1024), .ref (37 * 1024 + 3), .int 2, .ref (37 * 1024)]) 1 rfl ?_
        refine k_gf 37 0 (K := 11) rfl rfl rfl rfl rfl ?_
        obtain ⟨v7, hv7, hD⟩ := Option.bind_eq_some_iff.mp hD
        refine k_ldI rfl (c_get (r := 37) (o := 3) (K := 11) rfl (by decide)) hv7 ?_
        obtain ⟨⟨v8, P9, F10, A11, J12⟩, hv8, hD⟩ := Option.bind_eq_some_iff.mp hD
        dsimp only at hD
        refine k_runV rfl rfl rfl (c_get (r := 37) (o := 0) (K := 11) rfl (by decide)) rfl rfl (t_e_Reader_fail (d := d) ht hv8) ?_
        refine k_runB (pc' := 72) (loc' := [(0, .ref (37 * 1024)), (1, .int x1)]) (st' := [.int 0]) 1 rfl ?_
        cases hD
        exact k_zret rfl rfl (Or.inl rfl)
    · rw [c22_2, cond_false] at hD
      refine k_runB (pc' := 28) (loc' := [(0, .ref (37 * 1024)), (1, .int x1)]) (st' := [.ref (37 * 1024), .int 1, .ref (37 * 1024)]) 3 rfl ?_
      refine k_gf 37 0 (K := 11) rfl rfl rfl rfl rfl ?_
      refine k_gf 37 1 (K := 11) rfl rfl rfl rfl rfl ?_
      refine k_runB (pc' := 35) (loc' := [(0, .ref (37 * 1024)), (1, .int x1)]) (st' := [.ref (37 * 1024), .ref (37 * 1024 + 3), .int 1, .ref (37 * 1024)]) 1 rfl ?_
      refine k_gf 37 0 (K := 11) rfl rfl rfl rfl rfl ?_
      obtain ⟨v13, hv13, hD⟩ := Option.bind_eq_some_iff.mp hD
      refine k_ldI rfl (c_get (r := 37) (o := 3) (K := 11) rfl (by decide)) hv13 ?_
      obtain ⟨⟨v14, P15, F16, A17, J18⟩, hv14, hD⟩ := Option.bind_eq_some_iff.mp hD
      dsimp only at hD
      refine k_runV rfl rfl rfl (c_get (r := 37) (o := 0) (K := 11) rfl (by decide)) rfl rfl (t_e_Reader_fail (d := d) ht hv14) ?_
      refine k_runB (pc' := 43) (loc' := [(0, .ref (37 * 1024)), (1, .int x1)]) (st' := [.int 0]) 1 rfl ?_
      cases hD
      exact k_zret rfl rfl (Or.inl rfl)
  · rw [c4_0, cond_false] at hD
    refine k_runB (pc' := 8) (loc' := [(0, .ref (37 * 1024)), (1, .int x1)]) (st' := [.int 0]) 1 rfl ?_
    cases hD
    exact k_zret rfl rfl (Or.inl rfl)
def e_Reader_takeFirst_22 (P : Nat → Nat → Nat) (F : Nat → Nat → Int32) (A : Nat → Nat → Nat → Int32) (J : Nat → Nat → Nat → Int64) (x1 : Int32) : Option (Unit × (Nat → Nat → Nat) × (Nat → Nat → Int32) × (Nat → Nat → Nat → Int32) × (Nat → Nat → Nat → Int64)) :=
    (e_Reader_take P F A J x1).bind fun (v13, P14, F15, A16, J17) =>
    some ((), P14, F15, A16, J17)
set_option maxRecDepth 10000 in
theorem t_e_Reader_takeFirst_22 (ht : ∀ ci k, t.1 ci k = k_ty ci k)  {P : Nat → Nat → Nat} {F : Nat → Nat → Int32} {A : Nat → Nat → Nat → Int32} {J : Nat → Nat → Nat → Int64} {x1 : Int32}  {w : Unit × (Nat → Nat → Nat) × (Nat → Nat → Int32) × (Nat → Nat → Nat → Int32) × (Nat → Nat → Nat → Int64)} : e_Reader_takeFirst_22 P F A J x1 = some w → k_run t lg (d + 2) 46 22 [(0, .ref (37 * 1024)), (1, .int x1)] [] (c_h c B P F A J) (none, c_h c B w.2.1 w.2.2.1 w.2.2.2.1 w.2.2.2.2) := by
  intro hD
  unfold e_Reader_takeFirst_22 at hD
  refine k_runB (pc' := 24) (loc' := [(0, .ref (37 * 1024)), (1, .int x1)]) (st' := [.int x1, .ref (37 * 1024)]) 2 rfl ?_
  obtain ⟨⟨v13, P14, F15, A16, J17⟩, hv13, hD⟩ := Option.bind_eq_some_iff.mp hD
  dsimp only at hD
  refine k_runV rfl rfl rfl (c_get (r := 37) (o := 0) (K := 11) rfl (by decide)) rfl rfl (t_e_Reader_take (d := d) ht hv13) ?_
  refine k_runB (pc' := 28) (loc' := [(0, .ref (37 * 1024)), (1, .int x1)]) (st' := []) 1 rfl ?_
  cases hD
  exact k_vret rfl rfl
/-- SleepWork$Reader.takeFirst(III)V  -/
def e_Reader_takeFirst (P : Nat → Nat → Nat) (F : Nat → Nat → Int32) (A : Nat → Nat → Nat → Int32) (J : Nat → Nat → Nat → Int64) (x1 : Int32) (x2 : Int32) (x3 : Int32) : Option (Unit × (Nat → Nat → Nat) × (Nat → Nat → Int32) × (Nat → Nat → Nat → Int32) × (Nat → Nat → Nat → Int64)) :=
  cond (g_cnd .lt x2 x3)
  (e_Reader_takeFirst_22 P F A J x1)
  ((m_ld (A 37 3) 401 (F 37 7)).bind fun v2 =>
  (e_Reader_fail P F A J 2 v2).bind fun (_, P4, F5, A6, J7) =>
  (e_Reader_take P4 F5 A6 J7 x1).bind fun (v8, P9, F10, A11, J12) =>
  some ((), P9, F10, A11, J12))
set_option maxRecDepth 10000 in
theorem t_e_Reader_takeFirst (ht : ∀ ci k, t.1 ci k = k_ty ci k) {P : Nat → Nat → Nat} {F : Nat → Nat → Int32} {A : Nat → Nat → Nat → Int32} {J : Nat → Nat → Nat → Int64} {x1 : Int32} {x2 : Int32} {x3 : Int32}  {w : Unit × (Nat → Nat → Nat) × (Nat → Nat → Int32) × (Nat → Nat → Nat → Int32) × (Nat → Nat → Nat → Int64)} : e_Reader_takeFirst P F A J x1 x2 x3 = some w → k_run t lg (d + 2) 46 0 [(0, .ref (37 * 1024)), (1, .int x1), (2, .int x2), (3, .int x3)] [] (c_h c B P F A J) (none, c_h c B w.2.1 w.2.2.1 w.2.2.2.1 w.2.2.2.2) := by
  intro hD
  unfold e_Reader_takeFirst at hD
  refine k_runB (pc' := 2) (loc' := [(0, .ref (37 * 1024)), (1, .int x1), (2, .int x2), (3, .int x3)]) (st' := [.int x3, .int x2]) 2 rfl ?_
  refine k_ic rfl (fun c2_0 => ?_) (fun c2_0 => ?_)
  · rw [c2_0, cond_true] at hD
    refine k_wk [0, 1] (loc' := [(0, .ref (37 * 1024)), (1, .int x1)]) rfl rfl ?_
    exact t_e_Reader_takeFirst_22 ht   hD
  · rw [c2_0, cond_false] at hD
    refine k_runB (pc' := 8) (loc' := [(0, .ref (37 * 1024)), (1, .int x1), (2, .int x2), (3, .int x3)]) (st' := [.ref (37 * 1024), .int 2, .ref (37 * 1024)]) 3 rfl ?_
    refine k_gf 37 0 (K := 11) rfl rfl rfl rfl rfl ?_
    refine k_gf 37 1 (K := 11) rfl rfl rfl rfl rfl ?_
    refine k_runB (pc' := 15) (loc' := [(0, .ref (37 * 1024)), (1, .int x1), (2, .int x2), (3, .int x3)]) (st' := [.ref (37 * 1024), .ref (37 * 1024 + 3), .int 2, .ref (37 * 1024)]) 1 rfl ?_
    refine k_gf 37 0 (K := 11) rfl rfl rfl rfl rfl ?_
    obtain ⟨v2, hv2, hD⟩ := Option.bind_eq_some_iff.mp hD
    refine k_ldI rfl (c_get (r := 37) (o := 3) (K := 11) rfl (by decide)) hv2 ?_
    obtain ⟨⟨v3, P4, F5, A6, J7⟩, hv3, hD⟩ := Option.bind_eq_some_iff.mp hD
    dsimp only at hD
    refine k_runV rfl rfl rfl (c_get (r := 37) (o := 0) (K := 11) rfl (by decide)) rfl rfl (t_e_Reader_fail (d := d + 1) ht hv3) ?_
    refine k_runB (pc' := 24) (loc' := [(0, .ref (37 * 1024)), (1, .int x1), (2, .int x2), (3, .int x3)]) (st' := [.int x1, .ref (37 * 1024)]) 2 rfl ?_
    obtain ⟨⟨v8, P9, F10, A11, J12⟩, hv8, hD⟩ := Option.bind_eq_some_iff.mp hD
    dsimp only at hD
    refine k_runV rfl rfl rfl (c_get (r := 37) (o := 0) (K := 11) rfl (by decide)) rfl rfl (t_e_Reader_take (d := d) ht hv8) ?_
    refine k_runB (pc' := 28) (loc' := [(0, .ref (37 * 1024)), (1, .int x1), (2, .int x2), (3, .int x3)]) (st' := []) 1 rfl ?_
    cases hD
    exact k_vret rfl rfl
def e_Reader_find_3 : Nat → (Nat → Nat → Nat) → (Nat → Nat → Int32) → (Nat → Nat → Nat → Int32) → (Nat → Nat → Nat → Int64) → Int64 → Int32 → Int32 → Option (Int32)
  | 0, _, _, _, _, _, _, _ => none
  | n + 1, P, F, A, J, x0, x3, x4 => cond (g_cnd .ge x4 x3)
    (some ((-1)))
    (cond (g_cnd .ge x4 (Int32.ofNat 8))
    (some ((-1)))
    ((m_ldJ (J 37 7) 8 x4).bind fun v3 =>
    cond (g_cnd .ne (lg_cmp v3 x0) 0)
    ((e_Reader_find_3 n) P F A J x0 x3 (x4 + 1))
    (some (x4))))
set_option maxRecDepth 10000 in
theorem t_e_Reader_find_3 {n : Nat}  {P : Nat → Nat → Nat} {F : Nat → Nat → Int32} {A : Nat → Nat → Nat → Int32} {J : Nat → Nat → Nat → Int64} {x0 : Int64} {x3 : Int32} {x4 : Int32}  {w : Int32} : e_Reader_find_3 n P F A J x0 x3 x4 = some w → k_run t lg (d) 49 3 [(0, .long (x0)), (2, .ref (37 * 1024 + 7)), (3, .int x3), (4, .int x4)] [] (c_h c B P F A J) (some (.int w), c_h c B P F A J) := by
  induction n generalizing P F A J x0 x3 x4 w with
  | zero => intro hD; cases hD
  | succ n ih =>
    intro hD
    have hK3 : ∀ (P : Nat → Nat → Nat) (F : Nat → Nat → Int32) (A : Nat → Nat → Nat → Int32) (J : Nat → Nat → Nat → Int64) (x0 : Int64) (x3 : Int32) (x4 : Int32) (w : Int32), e_Reader_find_3 n P F A J x0 x3 x4 = some w → k_run t lg (d) 49 3 [(0, .long (x0)), (2, .ref (37 * 1024 + 7)), (3, .int x3), (4, .int x4)] [] (c_h c B P F A J) (some (.int w), c_h c B P F A J) := fun _ _ _ _ _ _ _ _  h => ih  h
    unfold e_Reader_find_3 at hD
    refine k_runB (pc' := 6) (loc' := [(0, .long (x0)), (2, .ref (37 * 1024 + 7)), (3, .int x3), (4, .int x4)]) (st' := [.int x3, .int x4]) 2 rfl ?_
    refine k_ic rfl (fun c6_0 => ?_) (fun c6_0 => ?_)
    · rw [c6_0, cond_true] at hD
      refine k_runB (pc' := 35) (loc' := [(0, .long (x0)), (2, .ref (37 * 1024 + 7)), (3, .int x3), (4, .int x4)]) (st' := [.int ((-1))]) 1 rfl ?_
      cases hD
      exact k_iret rfl rfl
    · rw [c6_0, cond_false] at hD
      refine k_runB (pc' := 12) (loc' := [(0, .long (x0)), (2, .ref (37 * 1024 + 7)), (3, .int x3), (4, .int x4)]) (st' := [.ref (37 * 1024 + 7), .int x4]) 2 rfl ?_
      refine k_cln 37 7 (K := 11) rfl rfl rfl rfl ?_
      refine k_ic rfl (fun c13_1 => ?_) (fun c13_1 => ?_)
      · rw [c13_1, cond_true] at hD
        refine k_runB (pc' := 35) (loc' := [(0, .long (x0)), (2, .ref (37 * 1024 + 7)), (3, .int x3), (4, .int x4)]) (st' := [.int ((-1))]) 1 rfl ?_
        cases hD
        exact k_iret rfl rfl
      · rw [c13_1, cond_false] at hD
        refine k_runB (pc' := 19) (loc' := [(0, .long (x0)), (2, .ref (37 * 1024 + 7)), (3, .int x3), (4, .int x4)]) (st' := [.int x4, .ref (37 * 1024 + 7)]) 2 rfl ?_
        obtain ⟨v3, hv3, hD⟩ := Option.bind_eq_some_iff.mp hD
        refine k_ldL rfl (c_get (r := 37) (o := 7) (K := 11) rfl (by decide)) hv3 ?_
        refine k_runB (pc' := 22) (loc' := [(0, .long (x0)), (2, .ref (37 * 1024 + 7)), (3, .int x3), (4, .int x4)]) (st' := [.int (lg_cmp v3 x0)]) 2 rfl ?_
        refine k_if rfl (fun c22_3 => ?_) (fun c22_3 => ?_)
        · rw [c22_3, cond_true] at hD
          refine k_runB (pc' := 3) (loc' := [(0, .long (x0)), (2, .ref (37 * 1024 + 7)), (3, .int x3), (4, .int (x4 + 1))]) (st' := []) 2 rfl ?_
          refine k_wk [0, 2, 3, 4] (loc' := [(0, .long (x0)), (2, .ref (37 * 1024 + 7)), (3, .int x3), (4, .int (x4 + 1))]) rfl rfl ?_
          exact hK3 _ _ _ _ _ _ _ _  hD
        · rw [c22_3, cond_false] at hD
          refine k_runB (pc' := 27) (loc' := [(0, .long (x0)), (2, .ref (37 * 1024 + 7)), (3, .int x3), (4, .int x4)]) (st' := [.int x4]) 1 rfl ?_
          cases hD
          exact k_iret rfl rfl
/-- SleepWork$Reader.find(J[JI)I  -/
def e_Reader_find (n : Nat) (P : Nat → Nat → Nat) (F : Nat → Nat → Int32) (A : Nat → Nat → Nat → Int32) (J : Nat → Nat → Nat → Int64) (x0 : Int64) (x3 : Int32) : Option (Int32) :=
  e_Reader_find_3 n P F A J x0 x3 0
set_option maxRecDepth 10000 in
theorem t_e_Reader_find {n : Nat} {P : Nat → Nat → Nat} {F : Nat → Nat → Int32} {A : Nat → Nat → Nat → Int32} {J : Nat → Nat → Nat → Int64} {x0 : Int64} {x3 : Int32}  {w : Int32} : e_Reader_find n P F A J x0 x3 = some w → k_run t lg (d) 49 0 [(0, .long (x0)), (2, .ref (37 * 1024 + 7)), (3, .int x3)] [] (c_h c B P F A J) (some (.int w), c_h c B P F A J) := by
  intro hD
  unfold e_Reader_find at hD
  refine k_runB (pc' := 3) (loc' := [(0, .long (x0)), (2, .ref (37 * 1024 + 7)), (3, .int x3), (4, .int 0)]) (st' := []) 2 rfl ?_
  refine k_wk [0, 2, 3, 4] (loc' := [(0, .long (x0)), (2, .ref (37 * 1024 + 7)), (3, .int x3), (4, .int 0)]) rfl rfl ?_
  exact t_e_Reader_find_3   hD
def e_Reader_find_v1_3 : Nat → (Nat → Nat → Nat) → (Nat → Nat → Int32) → (Nat → Nat → Nat → Int32) → (Nat → Nat → Nat → Int64) → Int64 → Int32 → Int32 → Option (Int32)
  | 0, _, _, _, _, _, _, _ => none
  | n + 1, P, F, A, J, x0, x3, x4 => cond (g_cnd .ge x4 x3)
    (some ((-1)))
    (cond (g_cnd .ge x4 (Int32.ofNat 6))
    (some ((-1)))
    ((m_ldJ (J 37 8) 6 x4).bind fun v3 =>
    cond (g_cnd .ne (lg_cmp v3 x0) 0)
    ((e_Reader_find_v1_3 n) P F A J x0 x3 (x4 + 1))
    (some (x4))))
set_option maxRecDepth 10000 in
theorem t_e_Reader_find_v1_3 {n : Nat}  {P : Nat → Nat → Nat} {F : Nat → Nat → Int32} {A : Nat → Nat → Nat → Int32} {J : Nat → Nat → Nat → Int64} {x0 : Int64} {x3 : Int32} {x4 : Int32}  {w : Int32} : e_Reader_find_v1_3 n P F A J x0 x3 x4 = some w → k_run t lg (d) 49 3 [(0, .long (x0)), (2, .ref (37 * 1024 + 8)), (3, .int x3), (4, .int x4)] [] (c_h c B P F A J) (some (.int w), c_h c B P F A J) := by
  induction n generalizing P F A J x0 x3 x4 w with
  | zero => intro hD; cases hD
  | succ n ih =>
    intro hD
    have hK3 : ∀ (P : Nat → Nat → Nat) (F : Nat → Nat → Int32) (A : Nat → Nat → Nat → Int32) (J : Nat → Nat → Nat → Int64) (x0 : Int64) (x3 : Int32) (x4 : Int32) (w : Int32), e_Reader_find_v1_3 n P F A J x0 x3 x4 = some w → k_run t lg (d) 49 3 [(0, .long (x0)), (2, .ref (37 * 1024 + 8)), (3, .int x3), (4, .int x4)] [] (c_h c B P F A J) (some (.int w), c_h c B P F A J) := fun _ _ _ _ _ _ _ _  h => ih  h
    unfold e_Reader_find_v1_3 at hD
    refine k_runB (pc' := 6) (loc' := [(0, .long (x0)), (2, .ref (37 * 1024 + 8)), (3, .int x3), (4, .int x4)]) (st' := [.int x3, .int x4]) 2 rfl ?_
    refine k_ic rfl (fun c6_0 => ?_) (fun c6_0 => ?_)
    · rw [c6_0, cond_true] at hD
      refine k_runB (pc' := 35) (loc' := [(0, .long (x0)), (2, .ref (37 * 1024 + 8)), (3, .int x3), (4, .int x4)]) (st' := [.int ((-1))]) 1 rfl ?_
      cases hD
      exact k_iret rfl rfl
    · rw [c6_0, cond_false] at hD
      refine k_runB (pc' := 12) (loc' := [(0, .long (x0)), (2, .ref (37 * 1024 + 8)), (3, .int x3), (4, .int x4)]) (st' := [.ref (37 * 1024 + 8), .int x4]) 2 rfl ?_
      refine k_cln 37 8 (K := 11) rfl rfl rfl rfl ?_
      refine k_ic rfl (fun c13_1 => ?_) (fun c13_1 => ?_)
      · rw [c13_1, cond_true] at hD
        refine k_runB (pc' := 35) (loc' := [(0, .long (x0)), (2, .ref (37 * 1024 + 8)), (3, .int x3), (4, .int x4)]) (st' := [.int ((-1))]) 1 rfl ?_
        cases hD
        exact k_iret rfl rfl
      · rw [c13_1, cond_false] at hD
        refine k_runB (pc' := 19) (loc' := [(0, .long (x0)), (2, .ref (37 * 1024 + 8)), (3, .int x3), (4, .int x4)]) (st' := [.int x4, .ref (37 * 1024 + 8)]) 2 rfl ?_
        obtain ⟨v3, hv3, hD⟩ := Option.bind_eq_some_iff.mp hD
        refine k_ldL rfl (c_get (r := 37) (o := 8) (K := 11) rfl (by decide)) hv3 ?_
        refine k_runB (pc' := 22) (loc' := [(0, .long (x0)), (2, .ref (37 * 1024 + 8)), (3, .int x3), (4, .int x4)]) (st' := [.int (lg_cmp v3 x0)]) 2 rfl ?_
        refine k_if rfl (fun c22_3 => ?_) (fun c22_3 => ?_)
        · rw [c22_3, cond_true] at hD
          refine k_runB (pc' := 3) (loc' := [(0, .long (x0)), (2, .ref (37 * 1024 + 8)), (3, .int x3), (4, .int (x4 + 1))]) (st' := []) 2 rfl ?_
          refine k_wk [0, 2, 3, 4] (loc' := [(0, .long (x0)), (2, .ref (37 * 1024 + 8)), (3, .int x3), (4, .int (x4 + 1))]) rfl rfl ?_
          exact hK3 _ _ _ _ _ _ _ _  hD
        · rw [c22_3, cond_false] at hD
          refine k_runB (pc' := 27) (loc' := [(0, .long (x0)), (2, .ref (37 * 1024 + 8)), (3, .int x3), (4, .int x4)]) (st' := [.int x4]) 1 rfl ?_
          cases hD
          exact k_iret rfl rfl
/-- SleepWork$Reader.find(J[JI)I  -/
def e_Reader_find_v1 (n : Nat) (P : Nat → Nat → Nat) (F : Nat → Nat → Int32) (A : Nat → Nat → Nat → Int32) (J : Nat → Nat → Nat → Int64) (x0 : Int64) (x3 : Int32) : Option (Int32) :=
  e_Reader_find_v1_3 n P F A J x0 x3 0
set_option maxRecDepth 10000 in
theorem t_e_Reader_find_v1 {n : Nat} {P : Nat → Nat → Nat} {F : Nat → Nat → Int32} {A : Nat → Nat → Nat → Int32} {J : Nat → Nat → Nat → Int64} {x0 : Int64} {x3 : Int32}  {w : Int32} : e_Reader_find_v1 n P F A J x0 x3 = some w → k_run t lg (d) 49 0 [(0, .long (x0)), (2, .ref (37 * 1024 + 8)), (3, .int x3)] [] (c_h c B P F A J) (some (.int w), c_h c B P F A J) := by
  intro hD
  unfold e_Reader_find_v1 at hD
  refine k_runB (pc' := 3) (loc' := [(0, .long (x0)), (2, .ref (37 * 1024 + 8)), (3, .int x3), (4, .int 0)]) (st' := []) 2 rfl ?_
  refine k_wk [0, 2, 3, 4] (loc' := [(0, .long (x0)), (2, .ref (37 * 1024 + 8)), (3, .int x3), (4, .int 0)]) rfl rfl ?_
  exact t_e_Reader_find_v1_3   hD
def e_Reader_find_v2_3 : Nat → (Nat → Nat → Nat) → (Nat → Nat → Int32) → (Nat → Nat → Nat → Int32) → (Nat → Nat → Nat → Int64) → Int64 → Int32 → Int32 → Option (Int32)
  | 0, _, _, _, _, _, _, _ => none
  | n + 1, P, F, A, J, x0, x3, x4 => cond (g_cnd .ge x4 x3)
    (some ((-1)))
    (cond (g_cnd .ge x4 (Int32.ofNat 6))
    (some ((-1)))
    ((m_ldJ (J 37 9) 6 x4).bind fun v3 =>
    cond (g_cnd .ne (lg_cmp v3 x0) 0)
    ((e_Reader_find_v2_3 n) P F A J x0 x3 (x4 + 1))
    (some (x4))))
set_option maxRecDepth 10000 in
theorem t_e_Reader_find_v2_3 {n : Nat}  {P : Nat → Nat → Nat} {F : Nat → Nat → Int32} {A : Nat → Nat → Nat → Int32} {J : Nat → Nat → Nat → Int64} {x0 : Int64} {x3 : Int32} {x4 : Int32}  {w : Int32} : e_Reader_find_v2_3 n P F A J x0 x3 x4 = some w → k_run t lg (d) 49 3 [(0, .long (x0)), (2, .ref (37 * 1024 + 9)), (3, .int x3), (4, .int x4)] [] (c_h c B P F A J) (some (.int w), c_h c B P F A J) := by
  induction n generalizing P F A J x0 x3 x4 w with
  | zero => intro hD; cases hD
  | succ n ih =>
    intro hD
    have hK3 : ∀ (P : Nat → Nat → Nat) (F : Nat → Nat → Int32) (A : Nat → Nat → Nat → Int32) (J : Nat → Nat → Nat → Int64) (x0 : Int64) (x3 : Int32) (x4 : Int32) (w : Int32), e_Reader_find_v2_3 n P F A J x0 x3 x4 = some w → k_run t lg (d) 49 3 [(0, .long (x0)), (2, .ref (37 * 1024 + 9)), (3, .int x3), (4, .int x4)] [] (c_h c B P F A J) (some (.int w), c_h c B P F A J) := fun _ _ _ _ _ _ _ _  h => ih  h
    unfold e_Reader_find_v2_3 at hD
    refine k_runB (pc' := 6) (loc' := [(0, .long (x0)), (2, .ref (37 * 1024 + 9)), (3, .int x3), (4, .int x4)]) (st' := [.int x3, .int x4]) 2 rfl ?_
    refine k_ic rfl (fun c6_0 => ?_) (fun c6_0 => ?_)
    · rw [c6_0, cond_true] at hD
      refine k_runB (pc' := 35) (loc' := [(0, .long (x0)), (2, .ref (37 * 1024 + 9)), (3, .int x3), (4, .int x4)]) (st' := [.int ((-1))]) 1 rfl ?_
      cases hD
      exact k_iret rfl rfl
    · rw [c6_0, cond_false] at hD
      refine k_runB (pc' := 12) (loc' := [(0, .long (x0)), (2, .ref (37 * 1024 + 9)), (3, .int x3), (4, .int x4)]) (st' := [.ref (37 * 1024 + 9), .int x4]) 2 rfl ?_
      refine k_cln 37 9 (K := 11) rfl rfl rfl rfl ?_
      refine k_ic rfl (fun c13_1 => ?_) (fun c13_1 => ?_)
      · rw [c13_1, cond_true] at hD
        refine k_runB (pc' := 35) (loc' := [(0, .long (x0)), (2, .ref (37 * 1024 + 9)), (3, .int x3), (4, .int x4)]) (st' := [.int ((-1))]) 1 rfl ?_
        cases hD
        exact k_iret rfl rfl
      · rw [c13_1, cond_false] at hD
        refine k_runB (pc' := 19) (loc' := [(0, .long (x0)), (2, .ref (37 * 1024 + 9)), (3, .int x3), (4, .int x4)]) (st' := [.int x4, .ref (37 * 1024 + 9)]) 2 rfl ?_
        obtain ⟨v3, hv3, hD⟩ := Option.bind_eq_some_iff.mp hD
        refine k_ldL rfl (c_get (r := 37) (o := 9) (K := 11) rfl (by decide)) hv3 ?_
        refine k_runB (pc' := 22) (loc' := [(0, .long (x0)), (2, .ref (37 * 1024 + 9)), (3, .int x3), (4, .int x4)]) (st' := [.int (lg_cmp v3 x0)]) 2 rfl ?_
        refine k_if rfl (fun c22_3 => ?_) (fun c22_3 => ?_)
        · rw [c22_3, cond_true] at hD
          refine k_runB (pc' := 3) (loc' := [(0, .long (x0)), (2, .ref (37 * 1024 + 9)), (3, .int x3), (4, .int (x4 + 1))]) (st' := []) 2 rfl ?_
          refine k_wk [0, 2, 3, 4] (loc' := [(0, .long (x0)), (2, .ref (37 * 1024 + 9)), (3, .int x3), (4, .int (x4 + 1))]) rfl rfl ?_
          exact hK3 _ _ _ _ _ _ _ _  hD
        · rw [c22_3, cond_false] at hD
          refine k_runB (pc' := 27) (loc' := [(0, .long (x0)), (2, .ref (37 * 1024 + 9)), (3, .int x3), (4, .int x4)]) (st' := [.int x4]) 1 rfl ?_
          cases hD
          exact k_iret rfl rfl
/-- SleepWork$Reader.find(J[JI)I  -/
def e_Reader_find_v2 (n : Nat) (P : Nat → Nat → Nat) (F : Nat → Nat → Int32) (A : Nat → Nat → Nat → Int32) (J : Nat → Nat → Nat → Int64) (x0 : Int64) (x3 : Int32) : Option (Int32) :=
  e_Reader_find_v2_3 n P F A J x0 x3 0
set_option maxRecDepth 10000 in
theorem t_e_Reader_find_v2 {n : Nat} {P : Nat → Nat → Nat} {F : Nat → Nat → Int32} {A : Nat → Nat → Nat → Int32} {J : Nat → Nat → Nat → Int64} {x0 : Int64} {x3 : Int32}  {w : Int32} : e_Reader_find_v2 n P F A J x0 x3 = some w → k_run t lg (d) 49 0 [(0, .long (x0)), (2, .ref (37 * 1024 + 9)), (3, .int x3)] [] (c_h c B P F A J) (some (.int w), c_h c B P F A J) := by
  intro hD
  unfold e_Reader_find_v2 at hD
  refine k_runB (pc' := 3) (loc' := [(0, .long (x0)), (2, .ref (37 * 1024 + 9)), (3, .int x3), (4, .int 0)]) (st' := []) 2 rfl ?_
  refine k_wk [0, 2, 3, 4] (loc' := [(0, .long (x0)), (2, .ref (37 * 1024 + 9)), (3, .int x3), (4, .int 0)]) rfl rfl ?_
  exact t_e_Reader_find_v2_3   hD
def e_Reader_find_v3_3 : Nat → (Nat → Nat → Nat) → (Nat → Nat → Int32) → (Nat → Nat → Nat → Int32) → (Nat → Nat → Nat → Int64) → Int64 → Int32 → Int32 → Option (Int32)
  | 0, _, _, _, _, _, _, _ => none
  | n + 1, P, F, A, J, x0, x3, x4 => cond (g_cnd .ge x4 x3)
    (some ((-1)))
    (cond (g_cnd .ge x4 (Int32.ofNat 6))
    (some ((-1)))
    ((m_ldJ (J 37 10) 6 x4).bind fun v3 =>
    cond (g_cnd .ne (lg_cmp v3 x0) 0)
    ((e_Reader_find_v3_3 n) P F A J x0 x3 (x4 + 1))
    (some (x4))))
set_option maxRecDepth 10000 in
theorem t_e_Reader_find_v3_3 {n : Nat}  {P : Nat → Nat → Nat} {F : Nat → Nat → Int32} {A : Nat → Nat → Nat → Int32} {J : Nat → Nat → Nat → Int64} {x0 : Int64} {x3 : Int32} {x4 : Int32}  {w : Int32} : e_Reader_find_v3_3 n P F A J x0 x3 x4 = some w → k_run t lg (d) 49 3 [(0, .long (x0)), (2, .ref (37 * 1024 + 10)), (3, .int x3), (4, .int x4)] [] (c_h c B P F A J) (some (.int w), c_h c B P F A J) := by
  induction n generalizing P F A J x0 x3 x4 w with
  | zero => intro hD; cases hD
  | succ n ih =>
    intro hD
    have hK3 : ∀ (P : Nat → Nat → Nat) (F : Nat → Nat → Int32) (A : Nat → Nat → Nat → Int32) (J : Nat → Nat → Nat → Int64) (x0 : Int64) (x3 : Int32) (x4 : Int32) (w : Int32), e_Reader_find_v3_3 n P F A J x0 x3 x4 = some w → k_run t lg (d) 49 3 [(0, .long (x0)), (2, .ref (37 * 1024 + 10)), (3, .int x3), (4, .int x4)] [] (c_h c B P F A J) (some (.int w), c_h c B P F A J) := fun _ _ _ _ _ _ _ _  h => ih  h
    unfold e_Reader_find_v3_3 at hD
    refine k_runB (pc' := 6) (loc' := [(0, .long (x0)), (2, .ref (37 * 1024 + 10)), (3, .int x3), (4, .int x4)]) (st' := [.int x3, .int x4]) 2 rfl ?_
    refine k_ic rfl (fun c6_0 => ?_) (fun c6_0 => ?_)
    · rw [c6_0, cond_true] at hD
      refine k_runB (pc' := 35) (loc' := [(0, .long (x0)), (2, .ref (37 * 1024 + 10)), (3, .int x3), (4, .int x4)]) (st' := [.int ((-1))]) 1 rfl ?_
      cases hD
      exact k_iret rfl rfl
    · rw [c6_0, cond_false] at hD
      refine k_runB (pc' := 12) (loc' := [(0, .long (x0)), (2, .ref (37 * 1024 + 10)), (3, .int x3), (4, .int x4)]) (st' := [.ref (37 * 1024 + 10), .int x4]) 2 rfl ?_
      refine k_cln 37 10 (K := 11) rfl rfl rfl rfl ?_
      refine k_ic rfl (fun c13_1 => ?_) (fun c13_1 => ?_)
      · rw [c13_1, cond_true] at hD
        refine k_runB (pc' := 35) (loc' := [(0, .long (x0)), (2, .ref (37 * 1024 + 10)), (3, .int x3), (4, .int x4)]) (st' := [.int ((-1))]) 1 rfl ?_
        cases hD
        exact k_iret rfl rfl
      · rw [c13_1, cond_false] at hD
        refine k_runB (pc' := 19) (loc' := [(0, .long (x0)), (2, .ref (37 * 1024 + 10)), (3, .int x3), (4, .int x4)]) (st' := [.int x4, .ref (37 * 1024 + 10)]) 2 rfl ?_
        obtain ⟨v3, hv3, hD⟩ := Option.bind_eq_some_iff.mp hD
        refine k_ldL rfl (c_get (r := 37) (o := 10) (K := 11) rfl (by decide)) hv3 ?_
        refine k_runB (pc' := 22) (loc' := [(0, .long (x0)), (2, .ref (37 * 1024 + 10)), (3, .int x3), (4, .int x4)]) (st' := [.int (lg_cmp v3 x0)]) 2 rfl ?_
        refine k_if rfl (fun c22_3 => ?_) (fun c22_3 => ?_)
        · rw [c22_3, cond_true] at hD
          refine k_runB (pc' := 3) (loc' := [(0, .long (x0)), (2, .ref (37 * 1024 + 10)), (3, .int x3), (4, .int (x4 + 1))]) (st' := []) 2 rfl ?_
          refine k_wk [0, 2, 3, 4] (loc' := [(0, .long (x0)), (2, .ref (37 * 1024 + 10)), (3, .int x3), (4, .int (x4 + 1))]) rfl rfl ?_
          exact hK3 _ _ _ _ _ _ _ _  hD
        · rw [c22_3, cond_false] at hD
          refine k_runB (pc' := 27) (loc' := [(0, .long (x0)), (2, .ref (37 * 1024 + 10)), (3, .int x3), (4, .int x4)]) (st' := [.int x4]) 1 rfl ?_
          cases hD
          exact k_iret rfl rfl
/-- SleepWork$Reader.find(J[JI)I  -/
def e_Reader_find_v3 (n : Nat) (P : Nat → Nat → Nat) (F : Nat → Nat → Int32) (A : Nat → Nat → Nat → Int32) (J : Nat → Nat → Nat → Int64) (x0 : Int64) (x3 : Int32) : Option (Int32) :=
  e_Reader_find_v3_3 n P F A J x0 x3 0
set_option maxRecDepth 10000 in
theorem t_e_Reader_find_v3 {n : Nat} {P : Nat → Nat → Nat} {F : Nat → Nat → Int32} {A : Nat → Nat → Nat → Int32} {J : Nat → Nat → Nat → Int64} {x0 : Int64} {x3 : Int32}  {w : Int32} : e_Reader_find_v3 n P F A J x0 x3 = some w → k_run t lg (d) 49 0 [(0, .long (x0)), (2, .ref (37 * 1024 + 10)), (3, .int x3)] [] (c_h c B P F A J) (some (.int w), c_h c B P F A J) := by
  intro hD
  unfold e_Reader_find_v3 at hD
  refine k_runB (pc' := 3) (loc' := [(0, .long (x0)), (2, .ref (37 * 1024 + 10)), (3, .int x3), (4, .int 0)]) (st' := []) 2 rfl ?_
  refine k_wk [0, 2, 3, 4] (loc' := [(0, .long (x0)), (2, .ref (37 * 1024 + 10)), (3, .int x3), (4, .int 0)]) rfl rfl ?_
  exact t_e_Reader_find_v3_3   hD
/-- SleepWork$Reader.failLate(I)V  -/
def e_Reader_failLate (P : Nat → Nat → Nat) (F : Nat → Nat → Int32) (A : Nat → Nat → Nat → Int32) (J : Nat → Nat → Nat → Int64) (x1 : Int32) : Option (Unit × (Nat → Nat → Nat) × (Nat → Nat → Int32) × (Nat → Nat → Nat → Int32) × (Nat → Nat → Nat → Int64)) :=
  cond (g_cnd .ne (F 37 12) 0)
  (some ((), P, F, A, J))
  ((c_pf F 37 12 x1).bind fun F2 =>
  (m_ld (A 37 3) 401 (F2 37 8)).bind fun v3 =>
  (c_pf F2 37 13 v3).bind fun F4 =>
  some ((), P, F4, A, J))
set_option maxRecDepth 10000 in
theorem t_e_Reader_failLate (ht : ∀ ci k, t.1 ci k = k_ty ci k) {P : Nat → Nat → Nat} {F : Nat → Nat → Int32} {A : Nat → Nat → Nat → Int32} {J : Nat → Nat → Nat → Int64} {x1 : Int32}  {w : Unit × (Nat → Nat → Nat) × (Nat → Nat → Int32) × (Nat → Nat → Nat → Int32) × (Nat → Nat → Nat → Int64)} : e_Reader_failLate P F A J x1 = some w → k_run t lg (d) 43 0 [(0, .ref (37 * 1024)), (1, .int x1)] [] (c_h c B P F A J) (none, c_h c B w.2.1 w.2.2.1 w.2.2.2.1 w.2.2.2.2) := by
  intro hD
  unfold e_Reader_failLate at hD
  refine k_runB (pc' := 1) (loc' := [(0, .ref (37 * 1024)), (1, .int x1)]) (st' := [.ref (37 * 1024)]) 1 rfl ?_
  refine k_gf 37 0 (K := 11) rfl rfl rfl rfl rfl ?_
  refine k_if rfl (fun c4_0 => ?_) (fun c4_0 => ?_)
  · rw [c4_0, cond_true] at hD
    cases hD
    exact k_vret rfl rfl
  · rw [c4_0, cond_false] at hD
    refine k_runB (pc' := 9) (loc' := [(0, .ref (37 * 1024)), (1, .int x1)]) (st' := [.int x1, .ref (37 * 1024)]) 2 rfl ?_
    obtain ⟨F2, hF2, hD⟩ := Option.bind_eq_some_iff.mp hD
    refine k_cpt 37 0 (K := 11) (key := 12) rfl rfl (ht 4 12) rfl rfl rfl hF2 ?_
    refine k_runB (pc' := 14) (loc' := [(0, .ref (37 * 1024)), (1, .int x1)]) (st' := [.ref (37 * 1024), .ref (37 * 1024)]) 2 rfl ?_
    refine k_gf 37 0 (K := 11) rfl rfl rfl rfl rfl ?_
    refine k_gf 37 1 (K := 11) rfl rfl rfl rfl rfl ?_
    refine k_runB (pc' := 21) (loc' := [(0, .ref (37 * 1024)), (1, .int x1)]) (st' := [.ref (37 * 1024), .ref (37 * 1024 + 3), .ref (37 * 1024)]) 1 rfl ?_
    refine k_gf 37 0 (K := 11) rfl rfl rfl rfl rfl ?_
    obtain ⟨v3, hv3, hD⟩ := Option.bind_eq_some_iff.mp hD
    refine k_ldI rfl (c_get (r := 37) (o := 3) (K := 11) rfl (by decide)) hv3 ?_
    obtain ⟨F4, hF4, hD⟩ := Option.bind_eq_some_iff.mp hD
    refine k_cpt 37 0 (K := 11) (key := 13) rfl rfl (ht 4 13) rfl rfl rfl hF4 ?_
    cases hD
    exact k_vret rfl rfl
def e_Reader_takeNewName_106 (n : Nat) (P : Nat → Nat → Nat) (F : Nat → Nat → Int32) (A : Nat → Nat → Nat → Int32) (J : Nat → Nat → Nat → Int64) (x2 : Int32) (x3 : Int64) : Option (Unit × (Nat → Nat → Nat) × (Nat → Nat → Int32) × (Nat → Nat → Nat → Int32) × (Nat → Nat → Nat → Int64)) :=
    (c_stJ J 37 7 8 x2 x3).bind fun J27 =>
    some ((), P, F, A, J27)
set_option maxRecDepth 10000 in
theorem t_e_Reader_takeNewName_106 (ht : ∀ ci k, t.1 ci k = k_ty ci k) {n : Nat}  {P : Nat → Nat → Nat} {F : Nat → Nat → Int32} {A : Nat → Nat → Nat → Int32} {J : Nat → Nat → Nat → Int64} {x2 : Int32} {x3 : Int64}  {w : Unit × (Nat → Nat → Nat) × (Nat → Nat → Int32) × (Nat → Nat → Nat → Int32) × (Nat → Nat → Nat → Int64)} : e_Reader_takeNewName_106 n P F A J x2 x3 = some w → k_run t lg (d + 2) 47 106 [(0, .ref (37 * 1024)), (1, .ref (37 * 1024 + 7)), (2, .int x2), (3, .long (x3))] [] (c_h c B P F A J) (none, c_h c B w.2.1 w.2.2.1 w.2.2.2.1 w.2.2.2.2) := by
  intro hD
  unfold e_Reader_takeNewName_106 at hD
  refine k_runB (pc' := 109) (loc' := [(0, .ref (37 * 1024)), (1, .ref (37 * 1024 + 7)), (2, .int x2), (3, .long (x3))]) (st' := [.long (x3), .int x2, .ref (37 * 1024 + 7)]) 3 rfl ?_
  obtain ⟨J27, hJ27, hD⟩ := Option.bind_eq_some_iff.mp hD
  refine k_cstL 37 7 (K := 11) rfl rfl rfl rfl (fun _ => rfl) hJ27 ?_
  cases hD
  exact k_vret rfl rfl
def e_Reader_takeNewName_101 (n : Nat) (P : Nat → Nat → Nat) (F : Nat → Nat → Int32) (A : Nat → Nat → Nat → Int32) (J : Nat → Nat → Nat → Int64) (x2 : Int32) (x3 : Int64) : Option (Unit × (Nat → Nat → Nat) × (Nat → Nat → Int32) × (Nat → Nat → Nat → Int32) × (Nat → Nat → Nat → Int64)) :=
    (e_Reader_failLate P F A J 3).bind fun (_, P22, F23, A24, J25) =>
    (c_stJ J25 37 7 8 x2 x3).bind fun J26 =>
    some ((), P22, F23, A24, J26)
set_option maxRecDepth 10000 in
theorem t_e_Reader_takeNewName_101 (ht : ∀ ci k, t.1 ci k = k_ty ci k) {n : Nat}  {P : Nat → Nat → Nat} {F : Nat → Nat → Int32} {A : Nat → Nat → Nat → Int32} {J : Nat → Nat → Nat → Int64} {x2 : Int32} {x3 : Int64}  {w : Unit × (Nat → Nat → Nat) × (Nat → Nat → Int32) × (Nat → Nat → Nat → Int32) × (Nat → Nat → Nat → Int64)} : e_Reader_takeNewName_101 n P F A J x2 x3 = some w → k_run t lg (d + 2) 47 101 [(0, .ref (37 * 1024)), (1, .ref (37 * 1024 + 7)), (2, .int x2), (3, .long (x3))] [] (c_h c B P F A J) (none, c_h c B w.2.1 w.2.2.1 w.2.2.2.1 w.2.2.2.2) := by
  intro hD
  unfold e_Reader_takeNewName_101 at hD
  refine k_runB (pc' := 103) (loc' := [(0, .ref (37 * 1024)), (1, .ref (37 * 1024 + 7)), (2, .int x2), (3, .long (x3))]) (st' := [.int 3, .ref (37 * 1024)]) 2 rfl ?_
  obtain ⟨⟨v21, P22, F23, A24, J25⟩, hv21, hD⟩ := Option.bind_eq_some_iff.mp hD
  dsimp only at hD
  refine k_runV rfl rfl rfl (c_get (r := 37) (o := 0) (K := 11) rfl (by decide)) rfl rfl (t_e_Reader_failLate (d := d + 1) ht hv21) ?_
  refine k_runB (pc' := 109) (loc' := [(0, .ref (37 * 1024)), (1, .ref (37 * 1024 + 7)), (2, .int x2), (3, .long (x3))]) (st' := [.long (x3), .int x2, .ref (37 * 1024 + 7)]) 3 rfl ?_
  obtain ⟨J26, hJ26, hD⟩ := Option.bind_eq_some_iff.mp hD
  refine k_cstL 37 7 (K := 11) rfl rfl rfl rfl (fun _ => rfl) hJ26 ?_
  cases hD
  exact k_vret rfl rfl
/-- SleepWork$Reader.takeNewName([JI)V  -/
def e_Reader_takeNewName (n : Nat) (P : Nat → Nat → Nat) (F : Nat → Nat → Int32) (A : Nat → Nat → Nat → Int32) (J : Nat → Nat → Nat → Int64) (x2 : Int32) : Option (Unit × (Nat → Nat → Nat) × (Nat → Nat → Int32) × (Nat → Nat → Nat → Int32) × (Nat → Nat → Nat → Int64)) :=
  (e_Reader_take P F A J 100).bind fun (v1, P2, F3, A4, J5) =>
  cond (g_cnd .eq v1 0)
  (some ((), P2, F3, A4, J5))
  (cond (g_cnd .lt x2 (Int32.ofNat 8))
  ((m_ldJ (J5 37 5) 401 (F3 37 8)).bind fun v8 =>
  (c_chk 6 (P2 37 5)).bind fun q9 =>
  (e_Reader_find n P2 F3 A4 J5 v8 (F3 q9 13)).bind fun v10 =>
  cond (g_cnd .ge v10 0)
  (e_Reader_takeNewName_101 n P2 F3 A4 J5 x2 v8)
  ((c_chk 6 (P2 37 5)).bind fun q12 =>
  (e_Reader_find_v1 n P2 F3 A4 J5 v8 (F3 q12 15)).bind fun v13 =>
  cond (g_cnd .ge v13 0)
  (e_Reader_takeNewName_101 n P2 F3 A4 J5 x2 v8)
  ((c_chk 6 (P2 37 5)).bind fun q15 =>
  (e_Reader_find_v2 n P2 F3 A4 J5 v8 (F3 q15 16)).bind fun v16 =>
  cond (g_cnd .ge v16 0)
  (e_Reader_takeNewName_101 n P2 F3 A4 J5 x2 v8)
  ((c_chk 6 (P2 37 5)).bind fun q18 =>
  (e_Reader_find_v3 n P2 F3 A4 J5 v8 (F3 q18 17)).bind fun v19 =>
  cond (g_cnd .lt v19 0)
  (e_Reader_takeNewName_106 n P2 F3 A4 J5 x2 v8)
  (e_Reader_takeNewName_101 n P2 F3 A4 J5 x2 v8)))))
  (some ((), P2, F3, A4, J5)))
set_option maxRecDepth 10000 in
theorem t_e_Reader_takeNewName (ht : ∀ ci k, t.1 ci k = k_ty ci k) {n : Nat} {P : Nat → Nat → Nat} {F : Nat → Nat → Int32} {A : Nat → Nat → Nat → Int32} {J : Nat → Nat → Nat → Int64} {x2 : Int32}  {w : Unit × (Nat → Nat → Nat) × (Nat → Nat → Int32) × (Nat → Nat → Nat → Int32) × (Nat → Nat → Nat → Int64)} : e_Reader_takeNewName n P F A J x2 = some w → k_run t lg (d + 2) 47 0 [(0, .ref (37 * 1024)), (1, .ref (37 * 1024 + 7)), (2, .int x2)] [] (c_h c B P F A J) (none, c_h c B w.2.1 w.2.2.1 w.2.2.2.1 w.2.2.2.2) := by
  intro hD
  unfold e_Reader_takeNewName at hD
  refine k_runB (pc' := 3) (loc' := [(0, .ref (37 * 1024)), (1, .ref (37 * 1024 + 7)), (2, .int x2)]) (st' := [.int 100, .ref (37 * 1024)]) 2 rfl ?_
  obtain ⟨⟨v1, P2, F3, A4, J5⟩, hv1, hD⟩ := Option.bind_eq_some_iff.mp hD
  dsimp only at hD
  refine k_runV rfl rfl rfl (c_get (r := 37) (o := 0) (K := 11) rfl (by decide)) rfl rfl (t_e_Reader_take (d := d) ht hv1) ?_
  refine k_if rfl (fun c6_5 => ?_) (fun c6_5 => ?_)
  · rw [c6_5, cond_true] at hD
    cases hD
    exact k_vret rfl rfl
  · rw [c6_5, cond_false] at hD
    refine k_runB (pc' := 11) (loc' := [(0, .ref (37 * 1024)), (1, .ref (37 * 1024 + 7)), (2, .int x2)]) (st' := [.ref (37 * 1024 + 7), .int x2]) 2 rfl ?_
    refine k_cln 37 7 (K := 11) rfl rfl rfl rfl ?_
    refine k_ic rfl (fun c12_6 => ?_) (fun c12_6 => ?_)
    · rw [c12_6, cond_true] at hD
      refine k_runB (pc' := 17) (loc' := [(0, .ref (37 * 1024)), (1, .ref (37 * 1024 + 7)), (2, .int x2)]) (st' := [.ref (37 * 1024)]) 1 rfl ?_
      refine k_gf 37 0 (K := 11) rfl rfl rfl rfl rfl ?_
      refine k_gf 37 1 (K := 11) rfl rfl rfl rfl rfl ?_
      refine k_runB (pc' := 24) (loc' := [(0, .ref (37 * 1024)), (1, .ref (37 * 1024 + 7)), (2, .int x2)]) (st' := [.ref (37 * 1024), .ref (37 * 1024 + 5)]) 1 rfl ?_
      refine k_gf 37 0 (K := 11) rfl rfl rfl rfl rfl ?_
      obtain ⟨v8, hv8, hD⟩ := Option.bind_eq_some_iff.mp hD
      refine k_ldL rfl (c_get (r := 37) (o := 5) (K := 11) rfl (by decide)) hv8 ?_
      refine k_runB (pc' := 31) (loc' := [(0, .ref (37 * 1024)), (1, .ref (37 * 1024 + 7)), (2, .int x2), (3, .long (v8))]) (st' := [.ref (37 * 1024), .long (v8)]) 3 rfl ?_
      refine k_gf 37 0 (K := 11) rfl rfl rfl rfl rfl ?_
      refine k_runB (pc' := 35) (loc' := [(0, .ref (37 * 1024)), (1, .ref (37 * 1024 + 7)), (2, .int x2), (3, .long (v8))]) (st' := [.ref (37 * 1024), .ref (37 * 1024 + 7), .long (v8)]) 1 rfl ?_
      obtain ⟨q9, hq9, hD⟩ := Option.bind_eq_some_iff.mp hD
      refine k_gq 37 0 (K := 11) (K2 := 6) (key := 5) rfl rfl rfl rfl rfl hq9 (fun kq9 => ?_)
      refine k_gf q9 0 (K := 6) kq9 rfl rfl rfl rfl ?_
      obtain ⟨v10, hv10, hD⟩ := Option.bind_eq_some_iff.mp hD
      refine k_runC rfl rfl rfl rfl (t_e_Reader_find (d := d + 1) hv10) ?_
      refine k_if rfl (fun c44_10 => ?_) (fun c44_10 => ?_)
      · rw [c44_10, cond_true] at hD
        refine k_wk [0, 1, 2, 3] (loc' := [(0, .ref (37 * 1024)), (1, .ref (37 * 1024 + 7)), (2, .int x2), (3, .long (v8))]) rfl rfl ?_
        exact t_e_Reader_takeNewName_101 ht   hD
      · rw [c44_10, cond_false] at hD
        refine k_runB (pc' := 49) (loc' := [(0, .ref (37 * 1024)), (1, .ref (37 * 1024 + 7)), (2, .int x2), (3, .long (v8))]) (st' := [.ref (37 * 1024), .long (v8)]) 2 rfl ?_
        refine k_gf 37 0 (K := 11) rfl rfl rfl rfl rfl ?_
        refine k_runB (pc' := 53) (loc' := [(0, .ref (37 * 1024)), (1, .ref (37 * 1024 + 7)), (2, .int x2), (3, .long (v8))]) (st' := [.ref (37 * 1024), .ref (37 * 1024 + 8), .long (v8)]) 1 rfl ?_
        obtain ⟨q12, hq12, hD⟩ := Option.bind_eq_some_iff.mp hD
        refine k_gq 37 0 (K := 11) (K2 := 6) (key := 5) rfl rfl rfl rfl rfl hq12 (fun kq12 => ?_)
        refine k_gf q12 0 (K := 6) kq12 rfl rfl rfl rfl ?_
        obtain ⟨v13, hv13, hD⟩ := Option.bind_eq_some_iff.mp hD
        refine k_runC rfl rfl rfl rfl (t_e_Reader_find_v1 (d := d + 1) hv13) ?_
        refine k_if rfl (fun c62_13 => ?_) (fun c62_13 => ?_)
        · rw [c62_13, cond_true] at hD
          refine k_wk [0, 1, 2, 3] (loc' := [(0, .ref (37 * 1024)), (1, .ref (37 * 1024 + 7)), (2, .int x2), (3, .long (v8))]) rfl rfl ?_
          exact t_e_Reader_takeNewName_101 ht   hD
        · rw [c62_13, cond_false] at hD
          refine k_runB (pc' := 67) (loc' := [(0, .ref (37 * 1024)), (1, .ref (37 * 1024 + 7)), (2, .int x2), (3, .long (v8))]) (st' := [.ref (37 * 1024), .long (v8)]) 2 rfl ?_
          refine k_gf 37 0 (K := 11) rfl rfl rfl rfl rfl ?_
          refine k_runB (pc' := 71) (loc' := [(0, .ref (37 * 1024)), (1, .ref (37 * 1024 + 7)), (2, .int x2), (3, .long (v8))]) (st' := [.ref (37 * 1024), .ref (37 * 1024 + 9), .long (v8)]) 1 rfl ?_
          obtain ⟨q15, hq15, hD⟩ := Option.bind_eq_some_iff.mp hD
          refine k_gq 37 0 (K := 11) (K2 := 6) (key := 5) rfl rfl rfl rfl rfl hq15 (fun kq15 => ?_)
          refine k_gf q15 0 (K := 6) kq15 rfl rfl rfl rfl ?_
          obtain ⟨v16, hv16, hD⟩ := Option.bind_eq_some_iff.mp hD
          refine k_runC rfl rfl rfl rfl (t_e_Reader_find_v2 (d := d + 1) hv16) ?_
          refine k_if rfl (fun c80_16 => ?_) (fun c80_16 => ?_)
          · rw [c80_16, cond_true] at hD
            refine k_wk [0, 1, 2, 3] (loc' := [(0, .ref (37 * 1024)), (1, .ref (37 * 1024 + 7)), (2, .int x2), (3, .long (v8))]) rfl rfl ?_
            exact t_e_Reader_takeNewName_101 ht   hD
          · rw [c80_16, cond_false] at hD
            refine k_runB (pc' := 85) (loc' := [(0, .ref (37 * 1024)), (1, .ref (37 * 1024 + 7)), (2, .int x2), (3, .long (v8))]) (st' := [.ref (37 * 1024), .long (v8)]) 2 rfl ?_
            refine k_gf 37 0 (K := 11) rfl rfl rfl rfl rfl ?_
            refine k_runB (pc' := 89) (loc' := [(0, .ref (37 * 1024)), (1, .ref (37 * 1024 + 7)), (2, .int x2), (3, .long (v8))]) (st' := [.ref (37 * 1024), .ref (37 * 1024 + 10), .long (v8)]) 1 rfl ?_
            obtain ⟨q18, hq18, hD⟩ := Option.bind_eq_some_iff.mp hD
            refine k_gq 37 0 (K := 11) (K2 := 6) (key := 5) rfl rfl rfl rfl rfl hq18 (fun kq18 => ?_)
            refine k_gf q18 0 (K := 6) kq18 rfl rfl rfl rfl ?_
            obtain ⟨v19, hv19, hD⟩ := Option.bind_eq_some_iff.mp hD
            refine k_runC rfl rfl rfl rfl (t_e_Reader_find_v3 (d := d + 1) hv19) ?_
            refine k_if rfl (fun c98_19 => ?_) (fun c98_19 => ?_)
            · rw [c98_19, cond_true] at hD
              refine k_wk [0, 1, 2, 3] (loc' := [(0, .ref (37 * 1024)), (1, .ref (37 * 1024 + 7)), (2, .int x2), (3, .long (v8))]) rfl rfl ?_
              exact t_e_Reader_takeNewName_106 ht   hD
            · rw [c98_19, cond_false] at hD
              refine k_wk [0, 1, 2, 3] (loc' := [(0, .ref (37 * 1024)), (1, .ref (37 * 1024 + 7)), (2, .int x2), (3, .long (v8))]) rfl rfl ?_
              exact t_e_Reader_takeNewName_101 ht   hD
    · rw [c12_6, cond_false] at hD
      cases hD
      exact k_vret rfl rfl
/-- SleepWork$Reader.readRoom()V  -/
def e_Reader_readRoom (n : Nat) (P : Nat → Nat → Nat) (F : Nat → Nat → Int32) (A : Nat → Nat → Nat → Int32) (J : Nat → Nat → Nat → Int64) : Option (Unit × (Nat → Nat → Nat) × (Nat → Nat → Int32) × (Nat → Nat → Nat → Int32) × (Nat → Nat → Nat → Int64)) :=
  (c_chk 6 (P 37 5)).bind fun q1 =>
  (e_Reader_takeFirst P F A J 0 (F q1 13) 8).bind fun (_, P3, F4, A5, J6) =>
  (c_chk 6 (P3 37 5)).bind fun q7 =>
  (e_Reader_takeNewName n P3 F4 A5 J6 (F4 q7 13)).bind fun (_, P9, F10, A11, J12) =>
  (e_Reader_take P9 F10 A11 J12 59).bind fun (v13, P14, F15, A16, J17) =>
  cond (g_cnd .eq v13 0)
  (some ((), P14, F15, A16, J17))
  ((c_chk 6 (P14 37 5)).bind fun q19 =>
  (c_pf F15 q19 13 ((F15 q19 13) + 1)).bind fun F20 =>
  some ((), P14, F20, A16, J17))
set_option maxRecDepth 10000 in
theorem t_e_Reader_readRoom (ht : ∀ ci k, t.1 ci k = k_ty ci k) {n : Nat} {P : Nat → Nat → Nat} {F : Nat → Nat → Int32} {A : Nat → Nat → Nat → Int32} {J : Nat → Nat → Nat → Int64}   {w : Unit × (Nat → Nat → Nat) × (Nat → Nat → Int32) × (Nat → Nat → Nat → Int32) × (Nat → Nat → Nat → Int64)} : e_Reader_readRoom n P F A J = some w → k_run t lg (d + 3) 52 0 [(0, .ref (37 * 1024))] [] (c_h c B P F A J) (none, c_h c B w.2.1 w.2.2.1 w.2.2.2.1 w.2.2.2.2) := by
  intro hD
  unfold e_Reader_readRoom at hD
  refine k_runB (pc' := 3) (loc' := [(0, .ref (37 * 1024))]) (st' := [.ref (37 * 1024), .int 0, .ref (37 * 1024)]) 3 rfl ?_
  obtain ⟨q1, hq1, hD⟩ := Option.bind_eq_some_iff.mp hD
  refine k_gq 37 0 (K := 11) (K2 := 6) (key := 5) rfl rfl rfl rfl rfl hq1 (fun kq1 => ?_)
  refine k_gf q1 0 (K := 6) kq1 rfl rfl rfl rfl ?_
  refine k_runB (pc' := 11) (loc' := [(0, .ref (37 * 1024))]) (st' := [.int 8, .int (F q1 13), .int 0, .ref (37 * 1024)]) 1 rfl ?_
  obtain ⟨⟨v2, P3, F4, A5, J6⟩, hv2, hD⟩ := Option.bind_eq_some_iff.mp hD
  dsimp only at hD
  refine k_runV rfl rfl rfl (c_get (r := 37) (o := 0) (K := 11) rfl (by decide)) rfl rfl (t_e_Reader_takeFirst (d := d) ht hv2) ?_
  refine k_runB (pc' := 16) (loc' := [(0, .ref (37 * 1024))]) (st' := [.ref (37 * 1024), .ref (37 * 1024)]) 2 rfl ?_
  refine k_gf 37 0 (K := 11) rfl rfl rfl rfl rfl ?_
  refine k_runB (pc' := 20) (loc' := [(0, .ref (37 * 1024))]) (st' := [.ref (37 * 1024), .ref (37 * 1024 + 7), .ref (37 * 1024)]) 1 rfl ?_
  obtain ⟨q7, hq7, hD⟩ := Option.bind_eq_some_iff.mp hD
  refine k_gq 37 0 (K := 11) (K2 := 6) (key := 5) rfl rfl rfl rfl rfl hq7 (fun kq7 => ?_)
  refine k_gf q7 0 (K := 6) kq7 rfl rfl rfl rfl ?_
  obtain ⟨⟨v8, P9, F10, A11, J12⟩, hv8, hD⟩ := Option.bind_eq_some_iff.mp hD
  dsimp only at hD
  refine k_runV rfl rfl rfl (c_get (r := 37) (o := 0) (K := 11) rfl (by decide)) rfl rfl (t_e_Reader_takeNewName (d := d) ht hv8) ?_
  refine k_runB (pc' := 32) (loc' := [(0, .ref (37 * 1024))]) (st' := [.int 59, .ref (37 * 1024)]) 2 rfl ?_
  obtain ⟨⟨v13, P14, F15, A16, J17⟩, hv13, hD⟩ := Option.bind_eq_some_iff.mp hD
  dsimp only at hD
  refine k_runV rfl rfl rfl (c_get (r := 37) (o := 0) (K := 11) rfl (by decide)) rfl rfl (t_e_Reader_take (d := d + 1) ht hv13) ?_
  refine k_if rfl (fun c35_17 => ?_) (fun c35_17 => ?_)
  · rw [c35_17, cond_true] at hD
    cases hD
    exact k_vret rfl rfl
  · rw [c35_17, cond_false] at hD
    refine k_runB (pc' := 39) (loc' := [(0, .ref (37 * 1024))]) (st' := [.ref (37 * 1024)]) 1 rfl ?_
    obtain ⟨q19, hq19, hD⟩ := Option.bind_eq_some_iff.mp hD
    refine k_gq 37 0 (K := 11) (K2 := 6) (key := 5) rfl rfl rfl rfl rfl hq19 (fun kq19 => ?_)
    refine k_runB (pc' := 43) (loc' := [(0, .ref (37 * 1024))]) (st' := [.ref (q19 * 1024), .ref (q19 * 1024)]) 1 rfl ?_
    refine k_gf q19 0 (K := 6) kq19 rfl rfl rfl rfl ?_
    refine k_runB (pc' := 48) (loc' := [(0, .ref (37 * 1024))]) (st' := [.int ((F15 q19 13) + 1), .ref (q19 * 1024)]) 2 rfl ?_
    obtain ⟨F20, hF20, hD⟩ := Option.bind_eq_some_iff.mp hD
    refine k_cpt q19 0 (K := 6) (key := 13) kq19 rfl (ht 1 13) rfl rfl rfl hF20 ?_
    cases hD
    exact k_vret rfl rfl
end MC
end Qz25
section Qz26
/-! the class's methods as functions (printed by wip/dec2.py) -/
section MC
variable {t : gT} {lg : Nat → Nat} {d : Nat} {c : Nat × Nat} {B : Nat → List gE}
/-- SleepWork$Reader.takeKnownName([JI)I  -/
def e_Reader_takeKnownName (n : Nat) (P : Nat → Nat → Nat) (F : Nat → Nat → Int32) (A : Nat → Nat → Nat → Int32) (J : Nat → Nat → Nat → Int64) (x2 : Int32) : Option (Int32 × (Nat → Nat → Nat) × (Nat → Nat → Int32) × (Nat → Nat → Nat → Int32) × (Nat → Nat → Nat → Int64)) :=
  (e_Reader_take P F A J 100).bind fun (v1, P2, F3, A4, J5) =>
  cond (g_cnd .ne v1 0)
  ((m_ldJ (J5 37 5) 401 (F3 37 8)).bind fun v7 =>
  (e_Reader_find n P2 F3 A4 J5 v7 x2).bind fun v8 =>
  cond (g_cnd .ge v8 0)
  (some (v8, P2, F3, A4, J5))
  ((e_Reader_failLate P2 F3 A4 J5 4).bind fun (_, P11, F12, A13, J14) =>
  some (v8, P11, F12, A13, J14)))
  (some ((-1), P2, F3, A4, J5))
set_option maxRecDepth 10000 in
theorem t_e_Reader_takeKnownName (ht : ∀ ci k, t.1 ci k = k_ty ci k) {n : Nat} {P : Nat → Nat → Nat} {F : Nat → Nat → Int32} {A : Nat → Nat → Nat → Int32} {J : Nat → Nat → Nat → Int64} {x2 : Int32}  {w : Int32 × (Nat → Nat → Nat) × (Nat → Nat → Int32) × (Nat → Nat → Nat → Int32) × (Nat → Nat → Nat → Int64)} : e_Reader_takeKnownName n P F A J x2 = some w → k_run t lg (d + 2) 48 0 [(0, .ref (37 * 1024)), (1, .ref (37 * 1024 + 7)), (2, .int x2)] [] (c_h c B P F A J) (some (.int w.1), c_h c B w.2.1 w.2.2.1 w.2.2.2.1 w.2.2.2.2) := by
  intro hD
  unfold e_Reader_takeKnownName at hD
  refine k_runB (pc' := 3) (loc' := [(0, .ref (37 * 1024)), (1, .ref (37 * 1024 + 7)), (2, .int x2)]) (st' := [.int 100, .ref (37 * 1024)]) 2 rfl ?_
  obtain ⟨⟨v1, P2, F3, A4, J5⟩, hv1, hD⟩ := Option.bind_eq_some_iff.mp hD
  dsimp only at hD
  refine k_runV rfl rfl rfl (c_get (r := 37) (o := 0) (K := 11) rfl (by decide)) rfl rfl (t_e_Reader_take (d := d) ht hv1) ?_
  refine k_if rfl (fun c6_5 => ?_) (fun c6_5 => ?_)
  · rw [c6_5, cond_true] at hD
    refine k_runB (pc' := 12) (loc' := [(0, .ref (37 * 1024)), (1, .ref (37 * 1024 + 7)), (2, .int x2)]) (st' := [.ref (37 * 1024)]) 1 rfl ?_
    refine k_gf 37 0 (K := 11) rfl rfl rfl rfl rfl ?_
    refine k_gf 37 1 (K := 11) rfl rfl rfl rfl rfl ?_
    refine k_runB (pc' := 19) (loc' := [(0, .ref (37 * 1024)), (1, .ref (37 * 1024 + 7)), (2, .int x2)]) (st' := [.ref (37 * 1024), .ref (37 * 1024 + 5)]) 1 rfl ?_
    refine k_gf 37 0 (K := 11) rfl rfl rfl rfl rfl ?_
    obtain ⟨v7, hv7, hD⟩ := Option.bind_eq_some_iff.mp hD
    refine k_ldL rfl (c_get (r := 37) (o := 5) (K := 11) rfl (by decide)) hv7 ?_
    refine k_runB (pc' := 25) (loc' := [(0, .ref (37 * 1024)), (1, .ref (37 * 1024 + 7)), (2, .int x2)]) (st' := [.int x2, .ref (37 * 1024 + 7), .long (v7)]) 2 rfl ?_
    obtain ⟨v8, hv8, hD⟩ := Option.bind_eq_some_iff.mp hD
    refine k_runC rfl rfl rfl rfl (t_e_Reader_find (d := d + 1) hv8) ?_
    refine k_runB (pc' := 30) (loc' := [(0, .ref (37 * 1024)), (1, .ref (37 * 1024 + 7)), (2, .int x2), (3, .int v8)]) (st' := [.int v8]) 2 rfl ?_
    refine k_if rfl (fun c30_8 => ?_) (fun c30_8 => ?_)
    · rw [c30_8, cond_true] at hD
      refine k_runB (pc' := 39) (loc' := [(0, .ref (37 * 1024)), (1, .ref (37 * 1024 + 7)), (2, .int x2), (3, .int v8)]) (st' := [.int v8]) 1 rfl ?_
      cases hD
      exact k_iret rfl rfl
    · rw [c30_8, cond_false] at hD
      refine k_runB (pc' := 35) (loc' := [(0, .ref (37 * 1024)), (1, .ref (37 * 1024 + 7)), (2, .int x2), (3, .int v8)]) (st' := [.int 4, .ref (37 * 1024)]) 2 rfl ?_
      obtain ⟨⟨v10, P11, F12, A13, J14⟩, hv10, hD⟩ := Option.bind_eq_some_iff.mp hD
      dsimp only at hD
      refine k_runV rfl rfl rfl (c_get (r := 37) (o := 0) (K := 11) rfl (by decide)) rfl rfl (t_e_Reader_failLate (d := d + 1) ht hv10) ?_
      refine k_runB (pc' := 39) (loc' := [(0, .ref (37 * 1024)), (1, .ref (37 * 1024 + 7)), (2, .int x2), (3, .int v8)]) (st' := [.int v8]) 1 rfl ?_
      cases hD
      exact k_iret rfl rfl
  · rw [c6_5, cond_false] at hD
    refine k_runB (pc' := 10) (loc' := [(0, .ref (37 * 1024)), (1, .ref (37 * 1024 + 7)), (2, .int x2)]) (st' := [.int ((-1))]) 1 rfl ?_
    cases hD
    exact k_iret rfl rfl
def e_Reader_takeNumber_34 (P : Nat → Nat → Nat) (F : Nat → Nat → Int32) (A : Nat → Nat → Nat → Int32) (J : Nat → Nat → Nat → Int64) (x3 : Int32) : Option (Int32 × (Nat → Nat → Nat) × (Nat → Nat → Int32) × (Nat → Nat → Nat → Int32) × (Nat → Nat → Nat → Int64)) :=
    (e_Reader_failLate P F A J 5).bind fun (_, P11, F12, A13, J14) =>
    some (x3, P11, F12, A13, J14)
set_option maxRecDepth 10000 in
theorem t_e_Reader_takeNumber_34 (ht : ∀ ci k, t.1 ci k = k_ty ci k)  {P : Nat → Nat → Nat} {F : Nat → Nat → Int32} {A : Nat → Nat → Nat → Int32} {J : Nat → Nat → Nat → Int64} {x3 : Int32}  {w : Int32 × (Nat → Nat → Nat) × (Nat → Nat → Int32) × (Nat → Nat → Nat → Int32) × (Nat → Nat → Nat → Int64)} : e_Reader_takeNumber_34 P F A J x3 = some w → k_run t lg (d + 2) 50 34 [(0, .ref (37 * 1024)), (3, .int x3)] [] (c_h c B P F A J) (some (.int w.1), c_h c B w.2.1 w.2.2.1 w.2.2.2.1 w.2.2.2.2) := by
  intro hD
  unfold e_Reader_takeNumber_34 at hD
  refine k_runB (pc' := 36) (loc' := [(0, .ref (37 * 1024)), (3, .int x3)]) (st' := [.int 5, .ref (37 * 1024)]) 2 rfl ?_
  obtain ⟨⟨v10, P11, F12, A13, J14⟩, hv10, hD⟩ := Option.bind_eq_some_iff.mp hD
  dsimp only at hD
  refine k_runV rfl rfl rfl (c_get (r := 37) (o := 0) (K := 11) rfl (by decide)) rfl rfl (t_e_Reader_failLate (d := d + 1) ht hv10) ?_
  refine k_runB (pc' := 40) (loc' := [(0, .ref (37 * 1024)), (3, .int x3)]) (st' := [.int x3]) 1 rfl ?_
  cases hD
  exact k_iret rfl rfl
/-- SleepWork$Reader.takeNumber(II)I  -/
def e_Reader_takeNumber (P : Nat → Nat → Nat) (F : Nat → Nat → Int32) (A : Nat → Nat → Nat → Int32) (J : Nat → Nat → Nat → Int64) (x1 : Int32) (x2 : Int32) : Option (Int32 × (Nat → Nat → Nat) × (Nat → Nat → Int32) × (Nat → Nat → Nat → Int32) × (Nat → Nat → Nat → Int64)) :=
  (e_Reader_take P F A J 101).bind fun (v1, P2, F3, A4, J5) =>
  cond (g_cnd .ne v1 0)
  ((m_ld (A4 37 4) 401 (F3 37 8)).bind fun v7 =>
  cond (g_cnd .lt v7 x1)
  (e_Reader_takeNumber_34 P2 F3 A4 J5 v7)
  (cond (g_cnd .le v7 x2)
  (some (v7, P2, F3, A4, J5))
  (e_Reader_takeNumber_34 P2 F3 A4 J5 v7)))
  (some (x1, P2, F3, A4, J5))
set_option maxRecDepth 10000 in
theorem t_e_Reader_takeNumber (ht : ∀ ci k, t.1 ci k = k_ty ci k) {P : Nat → Nat → Nat} {F : Nat → Nat → Int32} {A : Nat → Nat → Nat → Int32} {J : Nat → Nat → Nat → Int64} {x1 : Int32} {x2 : Int32}  {w : Int32 × (Nat → Nat → Nat) × (Nat → Nat → Int32) × (Nat → Nat → Nat → Int32) × (Nat → Nat → Nat → Int64)} : e_Reader_takeNumber P F A J x1 x2 = some w → k_run t lg (d + 2) 50 0 [(0, .ref (37 * 1024)), (1, .int x1), (2, .int x2)] [] (c_h c B P F A J) (some (.int w.1), c_h c B w.2.1 w.2.2.1 w.2.2.2.1 w.2.2.2.2) := by
  intro hD
  unfold e_Reader_takeNumber at hD
  refine k_runB (pc' := 3) (loc' := [(0, .ref (37 * 1024)), (1, .int x1), (2, .int x2)]) (st' := [.int 101, .ref (37 * 1024)]) 2 rfl ?_
  obtain ⟨⟨v1, P2, F3, A4, J5⟩, hv1, hD⟩ := Option.bind_eq_some_iff.mp hD
  dsimp only at hD
  refine k_runV rfl rfl rfl (c_get (r := 37) (o := 0) (K := 11) rfl (by decide)) rfl rfl (t_e_Reader_take (d := d) ht hv1) ?_
  refine k_if rfl (fun c6_5 => ?_) (fun c6_5 => ?_)
  · rw [c6_5, cond_true] at hD
    refine k_runB (pc' := 12) (loc' := [(0, .ref (37 * 1024)), (1, .int x1), (2, .int x2)]) (st' := [.ref (37 * 1024)]) 1 rfl ?_
    refine k_gf 37 0 (K := 11) rfl rfl rfl rfl rfl ?_
    refine k_gf 37 1 (K := 11) rfl rfl rfl rfl rfl ?_
    refine k_runB (pc' := 19) (loc' := [(0, .ref (37 * 1024)), (1, .int x1), (2, .int x2)]) (st' := [.ref (37 * 1024), .ref (37 * 1024 + 4)]) 1 rfl ?_
    refine k_gf 37 0 (K := 11) rfl rfl rfl rfl rfl ?_
    obtain ⟨v7, hv7, hD⟩ := Option.bind_eq_some_iff.mp hD
    refine k_ldI rfl (c_get (r := 37) (o := 4) (K := 11) rfl (by decide)) hv7 ?_
    refine k_runB (pc' := 26) (loc' := [(0, .ref (37 * 1024)), (1, .int x1), (2, .int x2), (3, .int v7)]) (st' := [.int x1, .int v7]) 3 rfl ?_
    refine k_ic rfl (fun c26_7 => ?_) (fun c26_7 => ?_)
    · rw [c26_7, cond_true] at hD
      refine k_wk [0, 3] (loc' := [(0, .ref (37 * 1024)), (3, .int v7)]) rfl rfl ?_
      exact t_e_Reader_takeNumber_34 ht   hD
    · rw [c26_7, cond_false] at hD
      refine k_runB (pc' := 31) (loc' := [(0, .ref (37 * 1024)), (1, .int x1), (2, .int x2), (3, .int v7)]) (st' := [.int x2, .int v7]) 2 rfl ?_
      refine k_ic rfl (fun c31_8 => ?_) (fun c31_8 => ?_)
      · rw [c31_8, cond_true] at hD
        refine k_runB (pc' := 40) (loc' := [(0, .ref (37 * 1024)), (1, .int x1), (2, .int x2), (3, .int v7)]) (st' := [.int v7]) 1 rfl ?_
        cases hD
        exact k_iret rfl rfl
      · rw [c31_8, cond_false] at hD
        refine k_wk [0, 3] (loc' := [(0, .ref (37 * 1024)), (3, .int v7)]) rfl rfl ?_
        exact t_e_Reader_takeNumber_34 ht   hD
  · rw [c6_5, cond_false] at hD
    refine k_runB (pc' := 10) (loc' := [(0, .ref (37 * 1024)), (1, .int x1), (2, .int x2)]) (st' := [.int x1]) 1 rfl ?_
    cases hD
    exact k_iret rfl rfl
def e_Reader_readDoor_165 (n : Nat) (P : Nat → Nat → Nat) (F : Nat → Nat → Int32) (A : Nat → Nat → Nat → Int32) (J : Nat → Nat → Nat → Int64) (rs0 : Nat) (s1 : Int32) (s2 : Int32) : Option (Unit × (Nat → Nat → Nat) × (Nat → Nat → Int32) × (Nat → Nat → Nat → Int32) × (Nat → Nat → Nat → Int64)) :=
    (c_pf F rs0 7 (s1 ||| s2)).bind fun F67 =>
    (c_chk 6 (P 37 5)).bind fun q68 =>
    (c_pf F67 q68 14 ((F67 q68 14) + 1)).bind fun F69 =>
    some ((), P, F69, A, J)
set_option maxRecDepth 10000 in
theorem t_e_Reader_readDoor_165 (ht : ∀ ci k, t.1 ci k = k_ty ci k) {n : Nat}  {P : Nat → Nat → Nat} {F : Nat → Nat → Int32} {A : Nat → Nat → Nat → Int32} {J : Nat → Nat → Nat → Int64} {rs0 : Nat} {s1 : Int32} {s2 : Int32} (hrs0 : c_kind rs0 = 2) {w : Unit × (Nat → Nat → Nat) × (Nat → Nat → Int32) × (Nat → Nat → Nat → Int32) × (Nat → Nat → Nat → Int64)} : e_Reader_readDoor_165 n P F A J rs0 s1 s2 = some w → k_run t lg (d + 3) 53 165 [(0, .ref (37 * 1024))] [.int s2, .int s1, .ref (rs0 * 1024)] (c_h c B P F A J) (none, c_h c B w.2.1 w.2.2.1 w.2.2.2.1 w.2.2.2.2) := by
  intro hD
  unfold e_Reader_readDoor_165 at hD
  refine k_runB (pc' := 166) (loc' := [(0, .ref (37 * 1024))]) (st' := [.int (s1 ||| s2), .ref (rs0 * 1024)]) 1 rfl ?_
  obtain ⟨F67, hF67, hD⟩ := Option.bind_eq_some_iff.mp hD
  refine k_cpt rs0 0 (K := 2) (key := 7) hrs0 rfl (ht 7 7) rfl rfl rfl hF67 ?_
  refine k_runB (pc' := 170) (loc' := [(0, .ref (37 * 1024))]) (st' := [.ref (37 * 1024)]) 1 rfl ?_
  obtain ⟨q68, hq68, hD⟩ := Option.bind_eq_some_iff.mp hD
  refine k_gq 37 0 (K := 11) (K2 := 6) (key := 5) rfl rfl rfl rfl rfl hq68 (fun kq68 => ?_)
  refine k_runB (pc' := 174) (loc' := [(0, .ref (37 * 1024))]) (st' := [.ref (q68 * 1024), .ref (q68 * 1024)]) 1 rfl ?_
  refine k_gf q68 0 (K := 6) kq68 rfl rfl rfl rfl ?_
  refine k_runB (pc' := 179) (loc' := [(0, .ref (37 * 1024))]) (st' := [.int ((F67 q68 14) + 1), .ref (q68 * 1024)]) 2 rfl ?_
  obtain ⟨F69, hF69, hD⟩ := Option.bind_eq_some_iff.mp hD
  refine k_cpt q68 0 (K := 6) (key := 14) kq68 rfl (ht 1 14) rfl rfl rfl hF69 ?_
  cases hD
  exact k_vret rfl rfl
def e_Reader_readDoor_91 (n : Nat) (P : Nat → Nat → Nat) (F : Nat → Nat → Int32) (A : Nat → Nat → Nat → Int32) (J : Nat → Nat → Nat → Int64) (x1 : Int32) (x2 : Int32) (x3 : Int32) (s0 : Int32) : Option (Unit × (Nat → Nat → Nat) × (Nat → Nat → Int32) × (Nat → Nat → Nat → Int32) × (Nat → Nat → Nat → Int64)) :=
    (e_Reader_take P F A J 59).bind fun (v52, P53, F54, A55, J56) =>
    cond (g_cnd .eq v52 0)
    (some ((), P53, F54, A55, J56))
    ((c_chk 6 (P53 37 5)).bind fun q58 =>
    (c_chk 6 (P53 37 5)).bind fun q59 =>
    (c_st A55 q59 1 12 (F54 q58 14) x1).bind fun A60 =>
    (c_chk 6 (P53 37 5)).bind fun q61 =>
    (c_st A60 q61 2 12 (F54 q58 14) x2).bind fun A62 =>
    (c_chk 6 (P53 37 5)).bind fun q63 =>
    (c_st A62 q63 3 12 (F54 q58 14) x3).bind fun A64 =>
    (c_chk 2 (P53 37 6)).bind fun q65 =>
    cond (g_cnd .eq s0 0)
    (e_Reader_readDoor_165 n P53 F54 A64 J56 q65 (F54 q65 7) 0)
    (e_Reader_readDoor_165 n P53 F54 A64 J56 q65 (F54 q65 7) ((1 : Int32) <<< ((F54 q58 14) &&& 31))))
set_option maxRecDepth 10000 in
theorem t_e_Reader_readDoor_91 (ht : ∀ ci k, t.1 ci k = k_ty ci k) {n : Nat}  {P : Nat → Nat → Nat} {F : Nat → Nat → Int32} {A : Nat → Nat → Nat → Int32} {J : Nat → Nat → Nat → Int64} {x1 : Int32} {x2 : Int32} {x3 : Int32} {s0 : Int32}  {w : Unit × (Nat → Nat → Nat) × (Nat → Nat → Int32) × (Nat → Nat → Nat → Int32) × (Nat → Nat → Nat → Int64)} : e_Reader_readDoor_91 n P F A J x1 x2 x3 s0 = some w → k_run t lg (d + 3) 53 91 [(0, .ref (37 * 1024)), (1, .int x1), (2, .int x2), (3, .int x3)] [.int s0] (c_h c B P F A J) (none, c_h c B w.2.1 w.2.2.1 w.2.2.2.1 w.2.2.2.2) := by
  intro hD
  unfold e_Reader_readDoor_91 at hD
  refine k_runB (pc' := 96) (loc' := [(0, .ref (37 * 1024)), (1, .int x1), (2, .int x2), (3, .int x3), (4, .int s0)]) (st' := [.int 59, .ref (37 * 1024)]) 3 rfl ?_
  obtain ⟨⟨v52, P53, F54, A55, J56⟩, hv52, hD⟩ := Option.bind_eq_some_iff.mp hD
  dsimp only at hD
  refine k_runV rfl rfl rfl (c_get (r := 37) (o := 0) (K := 11) rfl (by decide)) rfl rfl (t_e_Reader_take (d := d + 1) ht hv52) ?_
  refine k_if rfl (fun c99_56 => ?_) (fun c99_56 => ?_)
  · rw [c99_56, cond_true] at hD
    cases hD
    exact k_vret rfl rfl
  · rw [c99_56, cond_false] at hD
    refine k_runB (pc' := 103) (loc' := [(0, .ref (37 * 1024)), (1, .int x1), (2, .int x2), (3, .int x3), (4, .int s0)]) (st' := [.ref (37 * 1024)]) 1 rfl ?_
    obtain ⟨q58, hq58, hD⟩ := Option.bind_eq_some_iff.mp hD
    refine k_gq 37 0 (K := 11) (K2 := 6) (key := 5) rfl rfl rfl rfl rfl hq58 (fun kq58 => ?_)
    refine k_gf q58 0 (K := 6) kq58 rfl rfl rfl rfl ?_
    refine k_runB (pc' := 112) (loc' := [(0, .ref (37 * 1024)), (1, .int x1), (2, .int x2), (3, .int x3), (4, .int s0), (5, .int (F54 q58 14))]) (st' := [.ref (37 * 1024)]) 2 rfl ?_
    obtain ⟨q59, hq59, hD⟩ := Option.bind_eq_some_iff.mp hD
    refine k_gq 37 0 (K := 11) (K2 := 6) (key := 5) rfl rfl rfl rfl rfl hq59 (fun kq59 => ?_)
    refine k_gf q59 0 (K := 6) kq59 rfl rfl rfl rfl ?_
    refine k_runB (pc' := 121) (loc' := [(0, .ref (37 * 1024)), (1, .int x1), (2, .int x2), (3, .int x3), (4, .int s0), (5, .int (F54 q58 14))]) (st' := [.int x1, .int (F54 q58 14), .ref (q59 * 1024 + 1)]) 2 rfl ?_
    obtain ⟨A60, hA60, hD⟩ := Option.bind_eq_some_iff.mp hD
    refine k_cstI q59 1 (K := 6) kq59 rfl rfl rfl (fun _ => rfl) hA60 ?_
    refine k_runB (pc' := 123) (loc' := [(0, .ref (37 * 1024)), (1, .int x1), (2, .int x2), (3, .int x3), (4, .int s0), (5, .int (F54 q58 14))]) (st' := [.ref (37 * 1024)]) 1 rfl ?_
    obtain ⟨q61, hq61, hD⟩ := Option.bind_eq_some_iff.mp hD
    refine k_gq 37 0 (K := 11) (K2 := 6) (key := 5) rfl rfl rfl rfl rfl hq61 (fun kq61 => ?_)
    refine k_gf q61 0 (K := 6) kq61 rfl rfl rfl rfl ?_
    refine k_runB (pc' := 132) (loc' := [(0, .ref (37 * 1024)), (1, .int x1), (2, .int x2), (3, .int x3), (4, .int s0), (5, .int (F54 q58 14))]) (st' := [.int x2, .int (F54 q58 14), .ref (q61 * 1024 + 2)]) 2 rfl ?_
    obtain ⟨A62, hA62, hD⟩ := Option.bind_eq_some_iff.mp hD
    refine k_cstI q61 2 (K := 6) kq61 rfl rfl rfl (fun _ => rfl) hA62 ?_
    refine k_runB (pc' := 134) (loc' := [(0, .ref (37 * 1024)), (1, .int x1), (2, .int x2), (3, .int x3), (4, .int s0), (5, .int (F54 q58 14))]) (st' := [.ref (37 * 1024)]) 1 rfl ?_
    obtain ⟨q63, hq63, hD⟩ := Option.bind_eq_some_iff.mp hD
    refine k_gq 37 0 (K := 11) (K2 := 6) (key := 5) rfl rfl rfl rfl rfl hq63 (fun kq63 => ?_)
    refine k_gf q63 0 (K := 6) kq63 rfl rfl rfl rfl ?_
    refine k_runB (pc' := 143) (loc' := [(0, .ref (37 * 1024)), (1, .int x1), (2, .int x2), (3, .int x3), (4, .int s0), (5, .int (F54 q58 14))]) (st' := [.int x3, .int (F54 q58 14), .ref (q63 * 1024 + 3)]) 2 rfl ?_
    obtain ⟨A64, hA64, hD⟩ := Option.bind_eq_some_iff.mp hD
    refine k_cstI q63 3 (K := 6) kq63 rfl rfl rfl (fun _ => rfl) hA64 ?_
    refine k_runB (pc' := 145) (loc' := [(0, .ref (37 * 1024)), (1, .int x1), (2, .int x2), (3, .int x3), (4, .int s0), (5, .int (F54 q58 14))]) (st' := [.ref (37 * 1024)]) 1 rfl ?_
    obtain ⟨q65, hq65, hD⟩ := Option.bind_eq_some_iff.mp hD
    refine k_gq 37 0 (K := 11) (K2 := 2) (key := 6) rfl rfl rfl rfl rfl hq65 (fun kq65 => ?_)
    refine k_runB (pc' := 149) (loc' := [(0, .ref (37 * 1024)), (1, .int x1), (2, .int x2), (3, .int x3), (4, .int s0), (5, .int (F54 q58 14))]) (st' := [.ref (q65 * 1024), .ref (q65 * 1024)]) 1 rfl ?_
    refine k_gf q65 0 (K := 2) kq65 rfl rfl rfl rfl ?_
    refine k_runB (pc' := 154) (loc' := [(0, .ref (37 * 1024)), (1, .int x1), (2, .int x2), (3, .int x3), (4, .int s0), (5, .int (F54 q58 14))]) (st' := [.int s0, .int (F54 q65 7), .ref (q65 * 1024)]) 1 rfl ?_
    refine k_if rfl (fun c154_65 => ?_) (fun c154_65 => ?_)
    · rw [c154_65, cond_true] at hD
      refine k_runB (pc' := 165) (loc' := [(0, .ref (37 * 1024)), (1, .int x1), (2, .int x2), (3, .int x3), (4, .int s0), (5, .int (F54 q58 14))]) (st' := [.int 0, .int (F54 q65 7), .ref (q65 * 1024)]) 1 rfl ?_
      refine k_wk [0] (loc' := [(0, .ref (37 * 1024))]) rfl rfl ?_
      exact t_e_Reader_readDoor_165 ht  kq65 hD
    · rw [c154_65, cond_false] at hD
      refine k_runB (pc' := 165) (loc' := [(0, .ref (37 * 1024)), (1, .int x1), (2, .int x2), (3, .int x3), (4, .int s0), (5, .int (F54 q58 14))]) (st' := [.int ((1 : Int32) <<< ((F54 q58 14) &&& 31)), .int (F54 q65 7), .ref (q65 * 1024)]) 4 rfl ?_
      refine k_wk [0] (loc' := [(0, .ref (37 * 1024))]) rfl rfl ?_
      exact t_e_Reader_readDoor_165 ht  kq65 hD
def e_Reader_readDoor_90 (n : Nat) (P : Nat → Nat → Nat) (F : Nat → Nat → Int32) (A : Nat → Nat → Nat → Int32) (J : Nat → Nat → Nat → Int64) (x1 : Int32) (x2 : Int32) (x3 : Int32) : Option (Unit × (Nat → Nat → Nat) × (Nat → Nat → Int32) × (Nat → Nat → Nat → Int32) × (Nat → Nat → Nat → Int64)) :=
    e_Reader_readDoor_91 n P F A J x1 x2 x3 0
set_option maxRecDepth 10000 in
theorem t_e_Reader_readDoor_90 (ht : ∀ ci k, t.1 ci k = k_ty ci k) {n : Nat}  {P : Nat → Nat → Nat} {F : Nat → Nat → Int32} {A : Nat → Nat → Nat → Int32} {J : Nat → Nat → Nat → Int64} {x1 : Int32} {x2 : Int32} {x3 : Int32}  {w : Unit × (Nat → Nat → Nat) × (Nat → Nat → Int32) × (Nat → Nat → Nat → Int32) × (Nat → Nat → Nat → Int64)} : e_Reader_readDoor_90 n P F A J x1 x2 x3 = some w → k_run t lg (d + 3) 53 90 [(0, .ref (37 * 1024)), (1, .int x1), (2, .int x2), (3, .int x3)] [] (c_h c B P F A J) (none, c_h c B w.2.1 w.2.2.1 w.2.2.2.1 w.2.2.2.2) := by
  intro hD
  unfold e_Reader_readDoor_90 at hD
  refine k_runB (pc' := 91) (loc' := [(0, .ref (37 * 1024)), (1, .int x1), (2, .int x2), (3, .int x3)]) (st' := [.int 0]) 1 rfl ?_
  refine k_wk [0, 1, 2, 3] (loc' := [(0, .ref (37 * 1024)), (1, .int x1), (2, .int x2), (3, .int x3)]) rfl rfl ?_
  exact t_e_Reader_readDoor_91 ht   hD
def e_Reader_readDoor_60 (n : Nat) (P : Nat → Nat → Nat) (F : Nat → Nat → Int32) (A : Nat → Nat → Nat → Int32) (J : Nat → Nat → Nat → Int64) (x1 : Int32) (x2 : Int32) : Option (Unit × (Nat → Nat → Nat) × (Nat → Nat → Int32) × (Nat → Nat → Nat → Int32) × (Nat → Nat → Nat → Int64)) :=
    (e_Reader_takeNumber P F A J 1 60).bind fun (v39, P40, F41, A42, J43) =>
    (e_Reader_isNext P40 F41 A42 J43 8).bind fun v44 =>
    cond (g_cnd .eq v44 0)
    (e_Reader_readDoor_90 n P40 F41 A42 J43 x1 x2 v39)
    ((e_Reader_take P40 F41 A42 J43 8).bind fun (v46, P47, F48, A49, J50) =>
    cond (g_cnd .eq v46 0)
    (e_Reader_readDoor_90 n P47 F48 A49 J50 x1 x2 v39)
    (e_Reader_readDoor_91 n P47 F48 A49 J50 x1 x2 v39 1))
set_option maxRecDepth 10000 in
theorem t_e_Reader_readDoor_60 (ht : ∀ ci k, t.1 ci k = k_ty ci k) {n : Nat}  {P : Nat → Nat → Nat} {F : Nat → Nat → Int32} {A : Nat → Nat → Nat → Int32} {J : Nat → Nat → Nat → Int64} {x1 : Int32} {x2 : Int32}  {w : Unit × (Nat → Nat → Nat) × (Nat → Nat → Int32) × (Nat → Nat → Nat → Int32) × (Nat → Nat → Nat → Int64)} : e_Reader_readDoor_60 n P F A J x1 x2 = some w → k_run t lg (d + 3) 53 60 [(0, .ref (37 * 1024)), (1, .int x1), (2, .int x2)] [] (c_h c B P F A J) (none, c_h c B w.2.1 w.2.2.1 w.2.2.2.1 w.2.2.2.2) := by
  intro hD
  unfold e_Reader_readDoor_60 at hD
  refine k_runB (pc' := 64) (loc' := [(0, .ref (37 * 1024)), (1, .int x1), (2, .int x2)]) (st' := [.int 60, .int 1, .ref (37 * 1024)]) 3 rfl ?_
  obtain ⟨⟨v39, P40, F41, A42, J43⟩, hv39, hD⟩ := Option.bind_eq_some_iff.mp hD
  dsimp only at hD
  refine k_runV rfl rfl rfl (c_get (r := 37) (o := 0) (K := 11) rfl (by decide)) rfl rfl (t_e_Reader_takeNumber (d := d) ht hv39) ?_
  refine k_runB (pc' := 71) (loc' := [(0, .ref (37 * 1024)), (1, .int x1), (2, .int x2), (3, .int v39)]) (st' := [.int 8, .ref (37 * 1024)]) 3 rfl ?_
  obtain ⟨v44, hv44, hD⟩ := Option.bind_eq_some_iff.mp hD
  refine k_runV rfl rfl rfl (c_get (r := 37) (o := 0) (K := 11) rfl (by decide)) rfl rfl (t_e_Reader_isNext (d := d + 2) hv44) ?_
  refine k_if rfl (fun c74_44 => ?_) (fun c74_44 => ?_)
  · rw [c74_44, cond_true] at hD
    refine k_wk [0, 1, 2, 3] (loc' := [(0, .ref (37 * 1024)), (1, .int x1), (2, .int x2), (3, .int v39)]) rfl rfl ?_
    exact t_e_Reader_readDoor_90 ht   hD
  · rw [c74_44, cond_false] at hD
    refine k_runB (pc' := 80) (loc' := [(0, .ref (37 * 1024)), (1, .int x1), (2, .int x2), (3, .int v39)]) (st' := [.int 8, .ref (37 * 1024)]) 2 rfl ?_
    obtain ⟨⟨v46, P47, F48, A49, J50⟩, hv46, hD⟩ := Option.bind_eq_some_iff.mp hD
    dsimp only at hD
    refine k_runV rfl rfl rfl (c_get (r := 37) (o := 0) (K := 11) rfl (by decide)) rfl rfl (t_e_Reader_take (d := d + 1) ht hv46) ?_
    refine k_if rfl (fun c83_50 => ?_) (fun c83_50 => ?_)
    · rw [c83_50, cond_true] at hD
      refine k_wk [0, 1, 2, 3] (loc' := [(0, .ref (37 * 1024)), (1, .int x1), (2, .int x2), (3, .int v39)]) rfl rfl ?_
      exact t_e_Reader_readDoor_90 ht   hD
    · rw [c83_50, cond_false] at hD
      refine k_runB (pc' := 91) (loc' := [(0, .ref (37 * 1024)), (1, .int x1), (2, .int x2), (3, .int v39)]) (st' := [.int 1]) 2 rfl ?_
      refine k_wk [0, 1, 2, 3] (loc' := [(0, .ref (37 * 1024)), (1, .int x1), (2, .int x2), (3, .int v39)]) rfl rfl ?_
      exact t_e_Reader_readDoor_91 ht   hD
/-- SleepWork$Reader.readDoor()V  -/
def e_Reader_readDoor (n : Nat) (P : Nat → Nat → Nat) (F : Nat → Nat → Int32) (A : Nat → Nat → Nat → Int32) (J : Nat → Nat → Nat → Int64) : Option (Unit × (Nat → Nat → Nat) × (Nat → Nat → Int32) × (Nat → Nat → Nat → Int32) × (Nat → Nat → Nat → Int64)) :=
  (c_chk 6 (P 37 5)).bind fun q1 =>
  (e_Reader_takeFirst P F A J 1 (F q1 14) 12).bind fun (_, P3, F4, A5, J6) =>
  (c_chk 6 (P3 37 5)).bind fun q7 =>
  (e_Reader_takeKnownName n P3 F4 A5 J6 (F4 q7 13)).bind fun (v8, P9, F10, A11, J12) =>
  (c_chk 6 (P9 37 5)).bind fun q13 =>
  (e_Reader_takeKnownName n P9 F10 A11 J12 (F10 q13 13)).bind fun (v14, P15, F16, A17, J18) =>
  cond (g_cnd .lt v8 0)
  (e_Reader_readDoor_60 n P15 F16 A17 J18 v8 v14)
  (cond (g_cnd .ne v8 v14)
  (e_Reader_readDoor_60 n P15 F16 A17 J18 v8 v14)
  ((e_Reader_failLate P15 F16 A17 J18 5).bind fun (_, P22, F23, A24, J25) =>
  (e_Reader_takeNumber P22 F23 A24 J25 1 60).bind fun (v26, P27, F28, A29, J30) =>
  (e_Reader_isNext P27 F28 A29 J30 8).bind fun v31 =>
  cond (g_cnd .eq v31 0)
  (e_Reader_readDoor_90 n P27 F28 A29 J30 v8 v14 v26)
  ((e_Reader_take P27 F28 A29 J30 8).bind fun (v33, P34, F35, A36, J37) =>
  cond (g_cnd .eq v33 0)
  (e_Reader_readDoor_90 n P34 F35 A36 J37 v8 v14 v26)
  (e_Reader_readDoor_91 n P34 F35 A36 J37 v8 v14 v26 1))))
set_option maxRecDepth 10000 in
theorem t_e_Reader_readDoor (ht : ∀ ci k, t.1 ci k = k_ty ci k) {n : Nat} {P : Nat → Nat → Nat} {F : Nat → Nat → Int32} {A : Nat → Nat → Nat → Int32} {J : Nat → Nat → Nat → Int64}   {w : Unit × (Nat → Nat → Nat) × (Nat → Nat → Int32) × (Nat → Nat → Nat → Int32) × (Nat → Nat → Nat → Int64)} : e_Reader_readDoor n P F A J = some w → k_run t lg (d + 3) 53 0 [(0, .ref (37 * 1024))] [] (c_h c B P F A J) (none, c_h c B w.2.1 w.2.2.1 w.2.2.2.1 w.2.2.2.2) := by
  intro hD
  unfold e_Reader_readDoor at hD
  refine k_runB (pc' := 3) (loc' := [(0, .ref (37 * 1024))]) (st' := [.ref (37 * 1024), .int 1, .ref (37 * 1024)]) 3 rfl ?_
  obtain ⟨q1, hq1, hD⟩ := Option.bind_eq_some_iff.mp hD
  refine k_gq 37 0 (K := 11) (K2 := 6) (key := 5) rfl rfl rfl rfl rfl hq1 (fun kq1 => ?_)
  refine k_gf q1 0 (K := 6) kq1 rfl rfl rfl rfl ?_
  refine k_runB (pc' := 11) (loc' := [(0, .ref (37 * 1024))]) (st' := [.int 12, .int (F q1 14), .int 1, .ref (37 * 1024)]) 1 rfl ?_
  obtain ⟨⟨v2, P3, F4, A5, J6⟩, hv2, hD⟩ := Option.bind_eq_some_iff.mp hD
  dsimp only at hD
  refine k_runV rfl rfl rfl (c_get (r := 37) (o := 0) (K := 11) rfl (by decide)) rfl rfl (t_e_Reader_takeFirst (d := d) ht hv2) ?_
  refine k_runB (pc' := 16) (loc' := [(0, .ref (37 * 1024))]) (st' := [.ref (37 * 1024), .ref (37 * 1024)]) 2 rfl ?_
  refine k_gf 37 0 (K := 11) rfl rfl rfl rfl rfl ?_
  refine k_runB (pc' := 20) (loc' := [(0, .ref (37 * 1024))]) (st' := [.ref (37 * 1024), .ref (37 * 1024 + 7), .ref (37 * 1024)]) 1 rfl ?_
  obtain ⟨q7, hq7, hD⟩ := Option.bind_eq_some_iff.mp hD
  refine k_gq 37 0 (K := 11) (K2 := 6) (key := 5) rfl rfl rfl rfl rfl hq7 (fun kq7 => ?_)
  refine k_gf q7 0 (K := 6) kq7 rfl rfl rfl rfl ?_
  obtain ⟨⟨v8, P9, F10, A11, J12⟩, hv8, hD⟩ := Option.bind_eq_some_iff.mp hD
  dsimp only at hD
  refine k_runV rfl rfl rfl (c_get (r := 37) (o := 0) (K := 11) rfl (by decide)) rfl rfl (t_e_Reader_takeKnownName (d := d) ht hv8) ?_
  refine k_runB (pc' := 32) (loc' := [(0, .ref (37 * 1024)), (1, .int v8)]) (st' := [.ref (37 * 1024), .ref (37 * 1024)]) 3 rfl ?_
  refine k_gf 37 0 (K := 11) rfl rfl rfl rfl rfl ?_
  refine k_runB (pc' := 36) (loc' := [(0, .ref (37 * 1024)), (1, .int v8)]) (st' := [.ref (37 * 1024), .ref (37 * 1024 + 7), .ref (37 * 1024)]) 1 rfl ?_
  obtain ⟨q13, hq13, hD⟩ := Option.bind_eq_some_iff.mp hD
  refine k_gq 37 0 (K := 11) (K2 := 6) (key := 5) rfl rfl rfl rfl rfl hq13 (fun kq13 => ?_)
  refine k_gf q13 0 (K := 6) kq13 rfl rfl rfl rfl ?_
  obtain ⟨⟨v14, P15, F16, A17, J18⟩, hv14, hD⟩ := Option.bind_eq_some_iff.mp hD
  dsimp only at hD
  refine k_runV rfl rfl rfl (c_get (r := 37) (o := 0) (K := 11) rfl (by decide)) rfl rfl (t_e_Reader_takeKnownName (d := d) ht hv14) ?_
  refine k_runB (pc' := 47) (loc' := [(0, .ref (37 * 1024)), (1, .int v8), (2, .int v14)]) (st' := [.int v8]) 2 rfl ?_
  refine k_if rfl (fun c47_18 => ?_) (fun c47_18 => ?_)
  · rw [c47_18, cond_true] at hD
    refine k_wk [0, 1, 2] (loc' := [(0, .ref (37 * 1024)), (1, .int v8), (2, .int v14)]) rfl rfl ?_
    exact t_e_Reader_readDoor_60 ht   hD
  · rw [c47_18, cond_false] at hD
    refine k_runB (pc' := 52) (loc' := [(0, .ref (37 * 1024)), (1, .int v8), (2, .int v14)]) (st' := [.int v14, .int v8]) 2 rfl ?_
    refine k_ic rfl (fun c52_19 => ?_) (fun c52_19 => ?_)
    · rw [c52_19, cond_true] at hD
      refine k_wk [0, 1, 2] (loc' := [(0, .ref (37 * 1024)), (1, .int v8), (2, .int v14)]) rfl rfl ?_
      exact t_e_Reader_readDoor_60 ht   hD
    · rw [c52_19, cond_false] at hD
      refine k_runB (pc' := 57) (loc' := [(0, .ref (37 * 1024)), (1, .int v8), (2, .int v14)]) (st' := [.int 5, .ref (37 * 1024)]) 2 rfl ?_
      obtain ⟨⟨v21, P22, F23, A24, J25⟩, hv21, hD⟩ := Option.bind_eq_some_iff.mp hD
      dsimp only at hD
      refine k_runV rfl rfl rfl (c_get (r := 37) (o := 0) (K := 11) rfl (by decide)) rfl rfl (t_e_Reader_failLate (d := d + 2) ht hv21) ?_
      refine k_runB (pc' := 64) (loc' := [(0, .ref (37 * 1024)), (1, .int v8), (2, .int v14)]) (st' := [.int 60, .int 1, .ref (37 * 1024)]) 3 rfl ?_
      obtain ⟨⟨v26, P27, F28, A29, J30⟩, hv26, hD⟩ := Option.bind_eq_some_iff.mp hD
      dsimp only at hD
      refine k_runV rfl rfl rfl (c_get (r := 37) (o := 0) (K := 11) rfl (by decide)) rfl rfl (t_e_Reader_takeNumber (d := d) ht hv26) ?_
      refine k_runB (pc' := 71) (loc' := [(0, .ref (37 * 1024)), (1, .int v8), (2, .int v14), (3, .int v26)]) (st' := [.int 8, .ref (37 * 1024)]) 3 rfl ?_
      obtain ⟨v31, hv31, hD⟩ := Option.bind_eq_some_iff.mp hD
      refine k_runV rfl rfl rfl (c_get (r := 37) (o := 0) (K := 11) rfl (by decide)) rfl rfl (t_e_Reader_isNext (d := d + 2) hv31) ?_
      refine k_if rfl (fun c74_31 => ?_) (fun c74_31 => ?_)
      · rw [c74_31, cond_true] at hD
        refine k_wk [0, 1, 2, 3] (loc' := [(0, .ref (37 * 1024)), (1, .int v8), (2, .int v14), (3, .int v26)]) rfl rfl ?_
        exact t_e_Reader_readDoor_90 ht   hD
      · rw [c74_31, cond_false] at hD
        refine k_runB (pc' := 80) (loc' := [(0, .ref (37 * 1024)), (1, .int v8), (2, .int v14), (3, .int v26)]) (st' := [.int 8, .ref (37 * 1024)]) 2 rfl ?_
        obtain ⟨⟨v33, P34, F35, A36, J37⟩, hv33, hD⟩ := Option.bind_eq_some_iff.mp hD
        dsimp only at hD
        refine k_runV rfl rfl rfl (c_get (r := 37) (o := 0) (K := 11) rfl (by decide)) rfl rfl (t_e_Reader_take (d := d + 1) ht hv33) ?_
        refine k_if rfl (fun c83_37 => ?_) (fun c83_37 => ?_)
        · rw [c83_37, cond_true] at hD
          refine k_wk [0, 1, 2, 3] (loc' := [(0, .ref (37 * 1024)), (1, .int v8), (2, .int v14), (3, .int v26)]) rfl rfl ?_
          exact t_e_Reader_readDoor_90 ht   hD
        · rw [c83_37, cond_false] at hD
          refine k_runB (pc' := 91) (loc' := [(0, .ref (37 * 1024)), (1, .int v8), (2, .int v14), (3, .int v26)]) (st' := [.int 1]) 2 rfl ?_
          refine k_wk [0, 1, 2, 3] (loc' := [(0, .ref (37 * 1024)), (1, .int v8), (2, .int v14), (3, .int v26)]) rfl rfl ?_
          exact t_e_Reader_readDoor_91 ht   hD
def e_Reader_takeNewName_v1_106 (n : Nat) (P : Nat → Nat → Nat) (F : Nat → Nat → Int32) (A : Nat → Nat → Nat → Int32) (J : Nat → Nat → Nat → Int64) (x2 : Int32) (x3 : Int64) : Option (Unit × (Nat → Nat → Nat) × (Nat → Nat → Int32) × (Nat → Nat → Nat → Int32) × (Nat → Nat → Nat → Int64)) :=
    (c_stJ J 37 8 6 x2 x3).bind fun J27 =>
    some ((), P, F, A, J27)
set_option maxRecDepth 10000 in
theorem t_e_Reader_takeNewName_v1_106 (ht : ∀ ci k, t.1 ci k = k_ty ci k) {n : Nat}  {P : Nat → Nat → Nat} {F : Nat → Nat → Int32} {A : Nat → Nat → Nat → Int32} {J : Nat → Nat → Nat → Int64} {x2 : Int32} {x3 : Int64}  {w : Unit × (Nat → Nat → Nat) × (Nat → Nat → Int32) × (Nat → Nat → Nat → Int32) × (Nat → Nat → Nat → Int64)} : e_Reader_takeNewName_v1_106 n P F A J x2 x3 = some w → k_run t lg (d + 2) 47 106 [(0, .ref (37 * 1024)), (1, .ref (37 * 1024 + 8)), (2, .int x2), (3, .long (x3))] [] (c_h c B P F A J) (none, c_h c B w.2.1 w.2.2.1 w.2.2.2.1 w.2.2.2.2) := by
  intro hD
  unfold e_Reader_takeNewName_v1_106 at hD
  refine k_runB (pc' := 109) (loc' := [(0, .ref (37 * 1024)), (1, .ref (37 * 1024 + 8)), (2, .int x2), (3, .long (x3))]) (st' := [.long (x3), .int x2, .ref (37 * 1024 + 8)]) 3 rfl ?_
  obtain ⟨J27, hJ27, hD⟩ := Option.bind_eq_some_iff.mp hD
  refine k_cstL 37 8 (K := 11) rfl rfl rfl rfl (fun _ => rfl) hJ27 ?_
  cases hD
  exact k_vret rfl rfl
def e_Reader_takeNewName_v1_101 (n : Nat) (P : Nat → Nat → Nat) (F : Nat → Nat → Int32) (A : Nat → Nat → Nat → Int32) (J : Nat → Nat → Nat → Int64) (x2 : Int32) (x3 : Int64) : Option (Unit × (Nat → Nat → Nat) × (Nat → Nat → Int32) × (Nat → Nat → Nat → Int32) × (Nat → Nat → Nat → Int64)) :=
    (e_Reader_failLate P F A J 3).bind fun (_, P22, F23, A24, J25) =>
    (c_stJ J25 37 8 6 x2 x3).bind fun J26 =>
    some ((), P22, F23, A24, J26)
set_option maxRecDepth 10000 in
theorem t_e_Reader_takeNewName_v1_101 (ht : ∀ ci k, t.1 ci k = k_ty ci k) {n : Nat}  {P : Nat → Nat → Nat} {F : Nat → Nat → Int32} {A : Nat → Nat → Nat → Int32} {J : Nat → Nat → Nat → Int64} {x2 : Int32} {x3 : Int64}  {w : Unit × (Nat → Nat → Nat) × (Nat → Nat → Int32) × (Nat → Nat → Nat → Int32) × (Nat → Nat → Nat → Int64)} : e_Reader_takeNewName_v1_101 n P F A J x2 x3 = some w → k_run t lg (d + 2) 47 101 [(0, .ref (37 * 1024)), (1, .ref (37 * 1024 + 8)), (2, .int x2), (3, .long (x3))] [] (c_h c B P F A J) (none, c_h c B w.2.1 w.2.2.1 w.2.2.2.1 w.2.2.2.2) := by
  intro hD
  unfold e_Reader_takeNewName_v1_101 at hD
  refine k_runB (pc' := 103) (loc' := [(0, .ref (37 * 1024)), (1, .ref (37 * 1024 + 8)), (2, .int x2), (3, .long (x3))]) (st' := [.int 3, .ref (37 * 1024)]) 2 rfl ?_
  obtain ⟨⟨v21, P22, F23, A24, J25⟩, hv21, hD⟩ := Option.bind_eq_some_iff.mp hD
  dsimp only at hD
  refine k_runV rfl rfl rfl (c_get (r := 37) (o := 0) (K := 11) rfl (by decide)) rfl rfl (t_e_Reader_failLate (d := d + 1) ht hv21) ?_
  refine k_runB (pc' := 109) (loc' := [(0, .ref (37 * 1024)), (1, .ref (37 * 1024 + 8)), (2, .int x2), (3, .long (x3))]) (st' := [.long (x3), .int x2, .ref (37 * 1024 + 8)]) 3 rfl ?_
  obtain ⟨J26, hJ26, hD⟩ := Option.bind_eq_some_iff.mp hD
  refine k_cstL 37 8 (K := 11) rfl rfl rfl rfl (fun _ => rfl) hJ26 ?_
  cases hD
  exact k_vret rfl rfl
/-- SleepWork$Reader.takeNewName([JI)V  -/
def e_Reader_takeNewName_v1 (n : Nat) (P : Nat → Nat → Nat) (F : Nat → Nat → Int32) (A : Nat → Nat → Nat → Int32) (J : Nat → Nat → Nat → Int64) (x2 : Int32) : Option (Unit × (Nat → Nat → Nat) × (Nat → Nat → Int32) × (Nat → Nat → Nat → Int32) × (Nat → Nat → Nat → Int64)) :=
  (e_Reader_take P F A J 100).bind fun (v1, P2, F3, A4, J5) =>
  cond (g_cnd .eq v1 0)
  (some ((), P2, F3, A4, J5))
  (cond (g_cnd .lt x2 (Int32.ofNat 6))
  ((m_ldJ (J5 37 5) 401 (F3 37 8)).bind fun v8 =>
  (c_chk 6 (P2 37 5)).bind fun q9 =>
  (e_Reader_find n P2 F3 A4 J5 v8 (F3 q9 13)).bind fun v10 =>
  cond (g_cnd .ge v10 0)
  (e_Reader_takeNewName_v1_101 n P2 F3 A4 J5 x2 v8)
  ((c_chk 6 (P2 37 5)).bind fun q12 =>
  (e_Reader_find_v1 n P2 F3 A4 J5 v8 (F3 q12 15)).bind fun v13 =>
  cond (g_cnd .ge v13 0)
  (e_Reader_takeNewName_v1_101 n P2 F3 A4 J5 x2 v8)
  ((c_chk 6 (P2 37 5)).bind fun q15 =>
  (e_Reader_find_v2 n P2 F3 A4 J5 v8 (F3 q15 16)).bind fun v16 =>
  cond (g_cnd .ge v16 0)
  (e_Reader_takeNewName_v1_101 n P2 F3 A4 J5 x2 v8)
  ((c_chk 6 (P2 37 5)).bind fun q18 =>
  (e_Reader_find_v3 n P2 F3 A4 J5 v8 (F3 q18 17)).bind fun v19 =>
  cond (g_cnd .lt v19 0)
  (e_Reader_takeNewName_v1_106 n P2 F3 A4 J5 x2 v8)
  (e_Reader_takeNewName_v1_101 n P2 F3 A4 J5 x2 v8)))))
  (some ((), P2, F3, A4, J5)))
set_option maxRecDepth 10000 in
theorem t_e_Reader_takeNewName_v1 (ht : ∀ ci k, t.1 ci k = k_ty ci k) {n : Nat} {P : Nat → Nat → Nat} {F : Nat → Nat → Int32} {A : Nat → Nat → Nat → Int32} {J : Nat → Nat → Nat → Int64} {x2 : Int32}  {w : Unit × (Nat → Nat → Nat) × (Nat → Nat → Int32) × (Nat → Nat → Nat → Int32) × (Nat → Nat → Nat → Int64)} : e_Reader_takeNewName_v1 n P F A J x2 = some w → k_run t lg (d + 2) 47 0 [(0, .ref (37 * 1024)), (1, .ref (37 * 1024 + 8)), (2, .int x2)] [] (c_h c B P F A J) (none, c_h c B w.2.1 w.2.2.1 w.2.2.2.1 w.2.2.2.2) := by
  intro hD
  unfold e_Reader_takeNewName_v1 at hD
  refine k_runB (pc' := 3) (loc' := [(0, .ref (37 * 1024)), (1, .ref (37 * 1024 + 8)), (2, .int x2)]) (st' := [.int 100, .ref (37 * 1024)]) 2 rfl ?_
  obtain ⟨⟨v1, P2, F3, A4, J5⟩, hv1, hD⟩ := Option.bind_eq_some_iff.mp hD
  dsimp only at hD
  refine k_runV rfl rfl rfl (c_get (r := 37) (o := 0) (K := 11) rfl (by decide)) rfl rfl (t_e_Reader_take (d := d) ht hv1) ?_
  refine k_if rfl (fun c6_5 => ?_) (fun c6_5 => ?_)
  · rw [c6_5, cond_true] at hD
    cases hD
    exact k_vret rfl rfl
  · rw [c6_5, cond_false] at hD
    refine k_runB (pc' := 11) (loc' := [(0, .ref (37 * 1024)), (1, .ref (37 * 1024 + 8)), (2, .int x2)]) (st' := [.ref (37 * 1024 + 8), .int x2]) 2 rfl ?_
    refine k_cln 37 8 (K := 11) rfl rfl rfl rfl ?_
    refine k_ic rfl (fun c12_6 => ?_) (fun c12_6 => ?_)
    · rw [c12_6, cond_true] at hD
      refine k_runB (pc' := 17) (loc' := [(0, .ref (37 * 1024)), (1, .ref (37 * 1024 + 8)), (2, .int x2)]) (st' := [.ref (37 * 1024)]) 1 rfl ?_
      refine k_gf 37 0 (K := 11) rfl rfl rfl rfl rfl ?_
      refine k_gf 37 1 (K := 11) rfl rfl rfl rfl rfl ?_
      refine k_runB (pc' := 24) (loc' := [(0, .ref (37 * 1024)), (1, .ref (37 * 1024 + 8)), (2, .int x2)]) (st' := [.ref (37 * 1024), .ref (37 * 1024 + 5)]) 1 rfl ?_
      refine k_gf 37 0 (K := 11) rfl rfl rfl rfl rfl ?_
      obtain ⟨v8, hv8, hD⟩ := Option.bind_eq_some_iff.mp hD
      refine k_ldL rfl (c_get (r := 37) (o := 5) (K := 11) rfl (by decide)) hv8 ?_
      refine k_runB (pc' := 31) (loc' := [(0, .ref (37 * 1024)), (1, .ref (37 * 1024 + 8)), (2, .int x2), (3, .long (v8))]) (st' := [.ref (37 * 1024), .long (v8)]) 3 rfl ?_
      refine k_gf 37 0 (K := 11) rfl rfl rfl rfl rfl ?_
      refine k_runB (pc' := 35) (loc' := [(0, .ref (37 * 1024)), (1, .ref (37 * 1024 + 8)), (2, .int x2), (3, .long (v8))]) (st' := [.ref (37 * 1024), .ref (37 * 1024 + 7), .long (v8)]) 1 rfl ?_
      obtain ⟨q9, hq9, hD⟩ := Option.bind_eq_some_iff.mp hD
      refine k_gq 37 0 (K := 11) (K2 := 6) (key := 5) rfl rfl rfl rfl rfl hq9 (fun kq9 => ?_)
      refine k_gf q9 0 (K := 6) kq9 rfl rfl rfl rfl ?_
      obtain ⟨v10, hv10, hD⟩ := Option.bind_eq_some_iff.mp hD
      refine k_runC rfl rfl rfl rfl (t_e_Reader_find (d := d + 1) hv10) ?_
      refine k_if rfl (fun c44_10 => ?_) (fun c44_10 => ?_)
      · rw [c44_10, cond_true] at hD
        refine k_wk [0, 1, 2, 3] (loc' := [(0, .ref (37 * 1024)), (1, .ref (37 * 1024 + 8)), (2, .int x2), (3, .long (v8))]) rfl rfl ?_
        exact t_e_Reader_takeNewName_v1_101 ht   hD
      · rw [c44_10, cond_false] at hD
        refine k_runB (pc' := 49) (loc' := [(0, .ref (37 * 1024)), (1, .ref (37 * 1024 + 8)), (2, .int x2), (3, .long (v8))]) (st' := [.ref (37 * 1024), .long (v8)]) 2 rfl ?_
        refine k_gf 37 0 (K := 11) rfl rfl rfl rfl rfl ?_
        refine k_runB (pc' := 53) (loc' := [(0, .ref (37 * 1024)), (1, .ref (37 * 1024 + 8)), (2, .int x2), (3, .long (v8))]) (st' := [.ref (37 * 1024), .ref (37 * 1024 + 8), .long (v8)]) 1 rfl ?_
        obtain ⟨q12, hq12, hD⟩ := Option.bind_eq_some_iff.mp hD
        refine k_gq 37 0 (K := 11) (K2 := 6) (key := 5) rfl rfl rfl rfl rfl hq12 (fun kq12 => ?_)
        refine k_gf q12 0 (K := 6) kq12 rfl rfl rfl rfl ?_
        obtain ⟨v13, hv13, hD⟩ := Option.bind_eq_some_iff.mp hD
        refine k_runC rfl rfl rfl rfl (t_e_Reader_find_v1 (d := d + 1) hv13) ?_
        refine k_if rfl (fun c62_13 => ?_) (fun c62_13 => ?_)
        · rw [c62_13, cond_true] at hD
          refine k_wk [0, 1, 2, 3] (loc' := [(0, .ref (37 * 1024)), (1, .ref (37 * 1024 + 8)), (2, .int x2), (3, .long (v8))]) rfl rfl ?_
          exact t_e_Reader_takeNewName_v1_101 ht   hD
        · rw [c62_13, cond_false] at hD
          refine k_runB (pc' := 67) (loc' := [(0, .ref (37 * 1024)), (1, .ref (37 * 1024 + 8)), (2, .int x2), (3, .long (v8))]) (st' := [.ref (37 * 1024), .long (v8)]) 2 rfl ?_
          refine k_gf 37 0 (K := 11) rfl rfl rfl rfl rfl ?_
          refine k_runB (pc' := 71) (loc' := [(0, .ref (37 * 1024)), (1, .ref (37 * 1024 + 8)), (2, .int x2), (3, .long (v8))]) (st' := [.ref (37 * 1024), .ref (37 * 1024 + 9), .long (v8)]) 1 rfl ?_
          obtain ⟨q15, hq15, hD⟩ := Option.bind_eq_some_iff.mp hD
          refine k_gq 37 0 (K := 11) (K2 := 6) (key := 5) rfl rfl rfl rfl rfl hq15 (fun kq15 => ?_)
          refine k_gf q15 0 (K := 6) kq15 rfl rfl rfl rfl ?_
          obtain ⟨v16, hv16, hD⟩ := Option.bind_eq_some_iff.mp hD
          refine k_runC rfl rfl rfl rfl (t_e_Reader_find_v2 (d := d + 1) hv16) ?_
          refine k_if rfl (fun c80_16 => ?_) (fun c80_16 => ?_)
          · rw [c80_16, cond_true] at hD
            refine k_wk [0, 1, 2, 3] (loc' := [(0, .ref (37 * 1024)), (1, .ref (37 * 1024 + 8)), (2, .int x2), (3, .long (v8))]) rfl rfl ?_
            exact t_e_Reader_takeNewName_v1_101 ht   hD
          · rw [c80_16, cond_false] at hD
            refine k_runB (pc' := 85) (loc' := [(0, .ref (37 * 1024)), (1, .ref (37 * 1024 + 8)), (2, .int x2), (3, .long (v8))]) (st' := [.ref (37 * 1024), .long (v8)]) 2 rfl ?_
            refine k_gf 37 0 (K := 11) rfl rfl rfl rfl rfl ?_
            refine k_runB (pc' := 89) (loc' := [(0, .ref (37 * 1024)), (1, .ref (37 * 1024 + 8)), (2, .int x2), (3, .long (v8))]) (st' := [.ref (37 * 1024), .ref (37 * 1024 + 10), .long (v8)]) 1 rfl ?_
            obtain ⟨q18, hq18, hD⟩ := Option.bind_eq_some_iff.mp hD
            refine k_gq 37 0 (K := 11) (K2 := 6) (key := 5) rfl rfl rfl rfl rfl hq18 (fun kq18 => ?_)
            refine k_gf q18 0 (K := 6) kq18 rfl rfl rfl rfl ?_
            obtain ⟨v19, hv19, hD⟩ := Option.bind_eq_some_iff.mp hD
            refine k_runC rfl rfl rfl rfl (t_e_Reader_find_v3 (d := d + 1) hv19) ?_
            refine k_if rfl (fun c98_19 => ?_) (fun c98_19 => ?_)
            · rw [c98_19, cond_true] at hD
              refine k_wk [0, 1, 2, 3] (loc' := [(0, .ref (37 * 1024)), (1, .ref (37 * 1024 + 8)), (2, .int x2), (3, .long (v8))]) rfl rfl ?_
              exact t_e_Reader_takeNewName_v1_106 ht   hD
            · rw [c98_19, cond_false] at hD
              refine k_wk [0, 1, 2, 3] (loc' := [(0, .ref (37 * 1024)), (1, .ref (37 * 1024 + 8)), (2, .int x2), (3, .long (v8))]) rfl rfl ?_
              exact t_e_Reader_takeNewName_v1_101 ht   hD
    · rw [c12_6, cond_false] at hD
      cases hD
      exact k_vret rfl rfl
/-- SleepWork$Reader.readTool()V  -/
def e_Reader_readTool (n : Nat) (P : Nat → Nat → Nat) (F : Nat → Nat → Int32) (A : Nat → Nat → Nat → Int32) (J : Nat → Nat → Nat → Int64) : Option (Unit × (Nat → Nat → Nat) × (Nat → Nat → Int32) × (Nat → Nat → Nat → Int32) × (Nat → Nat → Nat → Int64)) :=
  (c_chk 6 (P 37 5)).bind fun q1 =>
  (e_Reader_takeFirst P F A J 2 (F q1 15) 6).bind fun (_, P3, F4, A5, J6) =>
  (c_chk 6 (P3 37 5)).bind fun q7 =>
  (e_Reader_takeNewName_v1 n P3 F4 A5 J6 (F4 q7 15)).bind fun (_, P9, F10, A11, J12) =>
  (c_chk 6 (P9 37 5)).bind fun q13 =>
  (e_Reader_takeKnownName n P9 F10 A11 J12 (F10 q13 13)).bind fun (v14, P15, F16, A17, J18) =>
  (e_Reader_take P15 F16 A17 J18 59).bind fun (v19, P20, F21, A22, J23) =>
  cond (g_cnd .eq v19 0)
  (some ((), P20, F21, A22, J23))
  ((c_chk 2 (P20 37 6)).bind fun q25 =>
  (c_chk 6 (P20 37 5)).bind fun q26 =>
  (c_st A22 q25 4 6 (F21 q26 15) v14).bind fun A27 =>
  (c_chk 6 (P20 37 5)).bind fun q28 =>
  (c_pf F21 q28 15 ((F21 q28 15) + 1)).bind fun F29 =>
  some ((), P20, F29, A27, J23))
set_option maxRecDepth 10000 in
theorem t_e_Reader_readTool (ht : ∀ ci k, t.1 ci k = k_ty ci k) {n : Nat} {P : Nat → Nat → Nat} {F : Nat → Nat → Int32} {A : Nat → Nat → Nat → Int32} {J : Nat → Nat → Nat → Int64}   {w : Unit × (Nat → Nat → Nat) × (Nat → Nat → Int32) × (Nat → Nat → Nat → Int32) × (Nat → Nat → Nat → Int64)} : e_Reader_readTool n P F A J = some w → k_run t lg (d + 3) 54 0 [(0, .ref (37 * 1024))] [] (c_h c B P F A J) (none, c_h c B w.2.1 w.2.2.1 w.2.2.2.1 w.2.2.2.2) := by
  intro hD
  unfold e_Reader_readTool at hD
  refine k_runB (pc' := 3) (loc' := [(0, .ref (37 * 1024))]) (st' := [.ref (37 * 1024), .int 2, .ref (37 * 1024)]) 3 rfl ?_
  obtain ⟨q1, hq1, hD⟩ := Option.bind_eq_some_iff.mp hD
  refine k_gq 37 0 (K := 11) (K2 := 6) (key := 5) rfl rfl rfl rfl rfl hq1 (fun kq1 => ?_)
  refine k_gf q1 0 (K := 6) kq1 rfl rfl rfl rfl ?_
  refine k_runB (pc' := 11) (loc' := [(0, .ref (37 * 1024))]) (st' := [.int 6, .int (F q1 15), .int 2, .ref (37 * 1024)]) 1 rfl ?_
  obtain ⟨⟨v2, P3, F4, A5, J6⟩, hv2, hD⟩ := Option.bind_eq_some_iff.mp hD
  dsimp only at hD
  refine k_runV rfl rfl rfl (c_get (r := 37) (o := 0) (K := 11) rfl (by decide)) rfl rfl (t_e_Reader_takeFirst (d := d) ht hv2) ?_
  refine k_runB (pc' := 16) (loc' := [(0, .ref (37 * 1024))]) (st' := [.ref (37 * 1024), .ref (37 * 1024)]) 2 rfl ?_
  refine k_gf 37 0 (K := 11) rfl rfl rfl rfl rfl ?_
  refine k_runB (pc' := 20) (loc' := [(0, .ref (37 * 1024))]) (st' := [.ref (37 * 1024), .ref (37 * 1024 + 8), .ref (37 * 1024)]) 1 rfl ?_
  obtain ⟨q7, hq7, hD⟩ := Option.bind_eq_some_iff.mp hD
  refine k_gq 37 0 (K := 11) (K2 := 6) (key := 5) rfl rfl rfl rfl rfl hq7 (fun kq7 => ?_)
  refine k_gf q7 0 (K := 6) kq7 rfl rfl rfl rfl ?_
  obtain ⟨⟨v8, P9, F10, A11, J12⟩, hv8, hD⟩ := Option.bind_eq_some_iff.mp hD
  dsimp only at hD
  refine k_runV rfl rfl rfl (c_get (r := 37) (o := 0) (K := 11) rfl (by decide)) rfl rfl (t_e_Reader_takeNewName_v1 (d := d) ht hv8) ?_
  refine k_runB (pc' := 31) (loc' := [(0, .ref (37 * 1024))]) (st' := [.ref (37 * 1024), .ref (37 * 1024)]) 2 rfl ?_
  refine k_gf 37 0 (K := 11) rfl rfl rfl rfl rfl ?_
  refine k_runB (pc' := 35) (loc' := [(0, .ref (37 * 1024))]) (st' := [.ref (37 * 1024), .ref (37 * 1024 + 7), .ref (37 * 1024)]) 1 rfl ?_
  obtain ⟨q13, hq13, hD⟩ := Option.bind_eq_some_iff.mp hD
  refine k_gq 37 0 (K := 11) (K2 := 6) (key := 5) rfl rfl rfl rfl rfl hq13 (fun kq13 => ?_)
  refine k_gf q13 0 (K := 6) kq13 rfl rfl rfl rfl ?_
  obtain ⟨⟨v14, P15, F16, A17, J18⟩, hv14, hD⟩ := Option.bind_eq_some_iff.mp hD
  dsimp only at hD
  refine k_runV rfl rfl rfl (c_get (r := 37) (o := 0) (K := 11) rfl (by decide)) rfl rfl (t_e_Reader_takeKnownName (d := d) ht hv14) ?_
  refine k_runB (pc' := 48) (loc' := [(0, .ref (37 * 1024)), (1, .int v14)]) (st' := [.int 59, .ref (37 * 1024)]) 3 rfl ?_
  obtain ⟨⟨v19, P20, F21, A22, J23⟩, hv19, hD⟩ := Option.bind_eq_some_iff.mp hD
  dsimp only at hD
  refine k_runV rfl rfl rfl (c_get (r := 37) (o := 0) (K := 11) rfl (by decide)) rfl rfl (t_e_Reader_take (d := d + 1) ht hv19) ?_
  refine k_if rfl (fun c51_23 => ?_) (fun c51_23 => ?_)
  · rw [c51_23, cond_true] at hD
    cases hD
    exact k_vret rfl rfl
  · rw [c51_23, cond_false] at hD
    refine k_runB (pc' := 55) (loc' := [(0, .ref (37 * 1024)), (1, .int v14)]) (st' := [.ref (37 * 1024)]) 1 rfl ?_
    obtain ⟨q25, hq25, hD⟩ := Option.bind_eq_some_iff.mp hD
    refine k_gq 37 0 (K := 11) (K2 := 2) (key := 6) rfl rfl rfl rfl rfl hq25 (fun kq25 => ?_)
    refine k_gf q25 0 (K := 2) kq25 rfl rfl rfl rfl ?_
    refine k_runB (pc' := 62) (loc' := [(0, .ref (37 * 1024)), (1, .int v14)]) (st' := [.ref (37 * 1024), .ref (q25 * 1024 + 4)]) 1 rfl ?_
    obtain ⟨q26, hq26, hD⟩ := Option.bind_eq_some_iff.mp hD
    refine k_gq 37 0 (K := 11) (K2 := 6) (key := 5) rfl rfl rfl rfl rfl hq26 (fun kq26 => ?_)
    refine k_gf q26 0 (K := 6) kq26 rfl rfl rfl rfl ?_
    refine k_runB (pc' := 69) (loc' := [(0, .ref (37 * 1024)), (1, .int v14)]) (st' := [.int v14, .int (F21 q26 15), .ref (q25 * 1024 + 4)]) 1 rfl ?_
    obtain ⟨A27, hA27, hD⟩ := Option.bind_eq_some_iff.mp hD
    refine k_cstI q25 4 (K := 2) kq25 rfl rfl rfl (fun _ => rfl) hA27 ?_
    refine k_runB (pc' := 71) (loc' := [(0, .ref (37 * 1024)), (1, .int v14)]) (st' := [.ref (37 * 1024)]) 1 rfl ?_
    obtain ⟨q28, hq28, hD⟩ := Option.bind_eq_some_iff.mp hD
    refine k_gq 37 0 (K := 11) (K2 := 6) (key := 5) rfl rfl rfl rfl rfl hq28 (fun kq28 => ?_)
    refine k_runB (pc' := 75) (loc' := [(0, .ref (37 * 1024)), (1, .int v14)]) (st' := [.ref (q28 * 1024), .ref (q28 * 1024)]) 1 rfl ?_
    refine k_gf q28 0 (K := 6) kq28 rfl rfl rfl rfl ?_
    refine k_runB (pc' := 80) (loc' := [(0, .ref (37 * 1024)), (1, .int v14)]) (st' := [.int ((F21 q28 15) + 1), .ref (q28 * 1024)]) 2 rfl ?_
    obtain ⟨F29, hF29, hD⟩ := Option.bind_eq_some_iff.mp hD
    refine k_cpt q28 0 (K := 6) (key := 15) kq28 rfl (ht 1 15) rfl rfl rfl hF29 ?_
    cases hD
    exact k_vret rfl rfl
def e_Reader_takeNewName_v2_106 (n : Nat) (P : Nat → Nat → Nat) (F : Nat → Nat → Int32) (A : Nat → Nat → Nat → Int32) (J : Nat → Nat → Nat → Int64) (x2 : Int32) (x3 : Int64) : Option (Unit × (Nat → Nat → Nat) × (Nat → Nat → Int32) × (Nat → Nat → Nat → Int32) × (Nat → Nat → Nat → Int64)) :=
    (c_stJ J 37 9 6 x2 x3).bind fun J27 =>
    some ((), P, F, A, J27)
set_option maxRecDepth 10000 in
theorem t_e_Reader_takeNewName_v2_106 (ht : ∀ ci k, t.1 ci k = k_ty ci k) {n : Nat}  {P : Nat → Nat → Nat} {F : Nat → Nat → Int32} {A : Nat → Nat → Nat → Int32} {J : Nat → Nat → Nat → Int64} {x2 : Int32} {x3 : Int64}  {w : Unit × (Nat → Nat → Nat) × (Nat → Nat → Int32) × (Nat → Nat → Nat → Int32) × (Nat → Nat → Nat → Int64)} : e_Reader_takeNewName_v2_106 n P F A J x2 x3 = some w → k_run t lg (d + 2) 47 106 [(0, .ref (37 * 1024)), (1, .ref (37 * 1024 + 9)), (2, .int x2), (3, .long (x3))] [] (c_h c B P F A J) (none, c_h c B w.2.1 w.2.2.1 w.2.2.2.1 w.2.2.2.2) := by
  intro hD
  unfold e_Reader_takeNewName_v2_106 at hD
  refine k_runB (pc' := 109) (loc' := [(0, .ref (37 * 1024)), (1, .ref (37 * 1024 + 9)), (2, .int x2), (3, .long (x3))]) (st' := [.long (x3), .int x2, .ref (37 * 1024 + 9)]) 3 rfl ?_
  obtain ⟨J27, hJ27, hD⟩ := Option.bind_eq_some_iff.mp hD
  refine k_cstL 37 9 (K := 11) rfl rfl rfl rfl (fun _ => rfl) hJ27 ?_
  cases hD
  exact k_vret rfl rfl
def e_Reader_takeNewName_v2_101 (n : Nat) (P : Nat → Nat → Nat) (F : Nat → Nat → Int32) (A : Nat → Nat → Nat → Int32) (J : Nat → Nat → Nat → Int64) (x2 : Int32) (x3 : Int64) : Option (Unit × (Nat → Nat → Nat) × (Nat → Nat → Int32) × (Nat → Nat → Nat → Int32) × (Nat → Nat → Nat → Int64)) :=
    (e_Reader_failLate P F A J 3).bind fun (_, P22, F23, A24, J25) =>
    (c_stJ J25 37 9 6 x2 x3).bind fun J26 =>
    some ((), P22, F23, A24, J26)
set_option maxRecDepth 10000 in
theorem t_e_Reader_takeNewName_v2_101 (ht : ∀ ci k, t.1 ci k = k_ty ci k) {n : Nat}  {P : Nat → Nat → Nat} {F : Nat → Nat → Int32} {A : Nat → Nat → Nat → Int32} {J : Nat → Nat → Nat → Int64} {x2 : Int32} {x3 : Int64}  {w : Unit × (Nat → Nat → Nat) × (Nat → Nat → Int32) × (Nat → Nat → Nat → Int32) × (Nat → Nat → Nat → Int64)} : e_Reader_takeNewName_v2_101 n P F A J x2 x3 = some w → k_run t lg (d + 2) 47 101 [(0, .ref (37 * 1024)), (1, .ref (37 * 1024 + 9)), (2, .int x2), (3, .long (x3))] [] (c_h c B P F A J) (none, c_h c B w.2.1 w.2.2.1 w.2.2.2.1 w.2.2.2.2) := by
  intro hD
  unfold e_Reader_takeNewName_v2_101 at hD
  refine k_runB (pc' := 103) (loc' := [(0, .ref (37 * 1024)), (1, .ref (37 * 1024 + 9)), (2, .int x2), (3, .long (x3))]) (st' := [.int 3, .ref (37 * 1024)]) 2 rfl ?_
  obtain ⟨⟨v21, P22, F23, A24, J25⟩, hv21, hD⟩ := Option.bind_eq_some_iff.mp hD
  dsimp only at hD
  refine k_runV rfl rfl rfl (c_get (r := 37) (o := 0) (K := 11) rfl (by decide)) rfl rfl (t_e_Reader_failLate (d := d + 1) ht hv21) ?_
  refine k_runB (pc' := 109) (loc' := [(0, .ref (37 * 1024)), (1, .ref (37 * 1024 + 9)), (2, .int x2), (3, .long (x3))]) (st' := [.long (x3), .int x2, .ref (37 * 1024 + 9)]) 3 rfl ?_
  obtain ⟨J26, hJ26, hD⟩ := Option.bind_eq_some_iff.mp hD
  refine k_cstL 37 9 (K := 11) rfl rfl rfl rfl (fun _ => rfl) hJ26 ?_
  cases hD
  exact k_vret rfl rfl
/-- SleepWork$Reader.takeNewName([JI)V  -/
def e_Reader_takeNewName_v2 (n : Nat) (P : Nat → Nat → Nat) (F : Nat → Nat → Int32) (A : Nat → Nat → Nat → Int32) (J : Nat → Nat → Nat → Int64) (x2 : Int32) : Option (Unit × (Nat → Nat → Nat) × (Nat → Nat → Int32) × (Nat → Nat → Nat → Int32) × (Nat → Nat → Nat → Int64)) :=
  (e_Reader_take P F A J 100).bind fun (v1, P2, F3, A4, J5) =>
  cond (g_cnd .eq v1 0)
  (some ((), P2, F3, A4, J5))
  (cond (g_cnd .lt x2 (Int32.ofNat 6))
  ((m_ldJ (J5 37 5) 401 (F3 37 8)).bind fun v8 =>
  (c_chk 6 (P2 37 5)).bind fun q9 =>
  (e_Reader_find n P2 F3 A4 J5 v8 (F3 q9 13)).bind fun v10 =>
  cond (g_cnd .ge v10 0)
  (e_Reader_takeNewName_v2_101 n P2 F3 A4 J5 x2 v8)
  ((c_chk 6 (P2 37 5)).bind fun q12 =>
  (e_Reader_find_v1 n P2 F3 A4 J5 v8 (F3 q12 15)).bind fun v13 =>
  cond (g_cnd .ge v13 0)
  (e_Reader_takeNewName_v2_101 n P2 F3 A4 J5 x2 v8)
  ((c_chk 6 (P2 37 5)).bind fun q15 =>
  (e_Reader_find_v2 n P2 F3 A4 J5 v8 (F3 q15 16)).bind fun v16 =>
  cond (g_cnd .ge v16 0)
  (e_Reader_takeNewName_v2_101 n P2 F3 A4 J5 x2 v8)
  ((c_chk 6 (P2 37 5)).bind fun q18 =>
  (e_Reader_find_v3 n P2 F3 A4 J5 v8 (F3 q18 17)).bind fun v19 =>
  cond (g_cnd .lt v19 0)
  (e_Reader_takeNewName_v2_106 n P2 F3 A4 J5 x2 v8)
  (e_Reader_takeNewName_v2_101 n P2 F3 A4 J5 x2 v8)))))
  (some ((), P2, F3, A4, J5)))
set_option maxRecDepth 10000 in
theorem t_e_Reader_takeNewName_v2 (ht : ∀ ci k, t.1 ci k = k_ty ci k) {n : Nat} {P : Nat → Nat → Nat} {F : Nat → Nat → Int32} {A : Nat → Nat → Nat → Int32} {J : Nat → Nat → Nat → Int64} {x2 : Int32}  {w : Unit × (Nat → Nat → Nat) × (Nat → Nat → Int32) × (Nat → Nat → Nat → Int32) × (Nat → Nat → Nat → Int64)} : e_Reader_takeNewName_v2 n P F A J x2 = some w → k_run t lg (d + 2) 47 0 [(0, .ref (37 * 1024)), (1, .ref (37 * 1024 + 9)), (2, .int x2)] [] (c_h c B P F A J) (none, c_h c B w.2.1 w.2.2.1 w.2.2.2.1 w.2.2.2.2) := by
  intro hD
  unfold e_Reader_takeNewName_v2 at hD
  refine k_runB (pc' := 3) (loc' := [(0, .ref (37 * 1024)), (1, .ref (37 * 1024 + 9)), (2, .int x2)]) (st' := [.int 100, .ref (37 * 1024)]) 2 rfl ?_
  obtain ⟨⟨v1, P2, F3, A4, J5⟩, hv1, hD⟩ := Option.bind_eq_some_iff.mp hD
  dsimp only at hD
  refine k_runV rfl rfl rfl (c_get (r := 37) (o := 0) (K := 11) rfl (by decide)) rfl rfl (t_e_Reader_take (d := d) ht hv1) ?_
  refine k_if rfl (fun c6_5 => ?_) (fun c6_5 => ?_)
  · rw [c6_5, cond_true] at hD
    cases hD
    exact k_vret rfl rfl
  · rw [c6_5, cond_false] at hD
    refine k_runB (pc' := 11) (loc' := [(0, .ref (37 * 1024)), (1, .ref (37 * 1024 + 9)), (2, .int x2)]) (st' := [.ref (37 * 1024 + 9), .int x2]) 2 rfl ?_
    refine k_cln 37 9 (K := 11) rfl rfl rfl rfl ?_
    refine k_ic rfl (fun c12_6 => ?_) (fun c12_6 => ?_)
    · rw [c12_6, cond_true] at hD
      refine k_runB (pc' := 17) (loc' := [(0, .ref (37 * 1024)), (1, .ref (37 * 1024 + 9)), (2, .int x2)]) (st' := [.ref (37 * 1024)]) 1 rfl ?_
      refine k_gf 37 0 (K := 11) rfl rfl rfl rfl rfl ?_
      refine k_gf 37 1 (K := 11) rfl rfl rfl rfl rfl ?_
      refine k_runB (pc' := 24) (loc' := [(0, .ref (37 * 1024)), (1, .ref (37 * 1024 + 9)), (2, .int x2)]) (st' := [.ref (37 * 1024), .ref (37 * 1024 + 5)]) 1 rfl ?_
      refine k_gf 37 0 (K := 11) rfl rfl rfl rfl rfl ?_
      obtain ⟨v8, hv8, hD⟩ := Option.bind_eq_some_iff.mp hD
      refine k_ldL rfl (c_get (r := 37) (o := 5) (K := 11) rfl (by decide)) hv8 ?_
      refine k_runB (pc' := 31) (loc' := [(0, .ref (37 * 1024)), (1, .ref (37 * 1024 + 9)), (2, .int x2), (3, .long (v8))]) (st' := [.ref (37 * 1024), .long (v8)]) 3 rfl ?_
      refine k_gf 37 0 (K := 11) rfl rfl rfl rfl rfl ?_
      refine k_runB (pc' := 35) (loc' := [(0, .ref (37 * 1024)), (1, .ref (37 * 1024 + 9)), (2, .int x2), (3, .long (v8))]) (st' := [.ref (37 * 1024), .ref (37 * 1024 + 7), .long (v8)]) 1 rfl ?_
      obtain ⟨q9, hq9, hD⟩ := Option.bind_eq_some_iff.mp hD
      refine k_gq 37 0 (K := 11) (K2 := 6) (key := 5) rfl rfl rfl rfl rfl hq9 (fun kq9 => ?_)
      refine k_gf q9 0 (K := 6) kq9 rfl rfl rfl rfl ?_
      obtain ⟨v10, hv10, hD⟩ := Option.bind_eq_some_iff.mp hD
      refine k_runC rfl rfl rfl rfl (t_e_Reader_find (d := d + 1) hv10) ?_
      refine k_if rfl (fun c44_10 => ?_) (fun c44_10 => ?_)
      · rw [c44_10, cond_true] at hD
        refine k_wk [0, 1, 2, 3] (loc' := [(0, .ref (37 * 1024)), (1, .ref (37 * 1024 + 9)), (2, .int x2), (3, .long (v8))]) rfl rfl ?_
        exact t_e_Reader_takeNewName_v2_101 ht   hD
      · rw [c44_10, cond_false] at hD
        refine k_runB (pc' := 49) (loc' := [(0, .ref (37 * 1024)), (1, .ref (37 * 1024 + 9)), (2, .int x2), (3, .long (v8))]) (st' := [.ref (37 * 1024), .long (v8)]) 2 rfl ?_
        refine k_gf 37 0 (K := 11) rfl rfl rfl rfl rfl ?_
        refine k_runB (pc' := 53) (loc' := [(0, .ref (37 * 1024)), (1, .ref (37 * 1024 + 9)), (2, .int x2), (3, .long (v8))]) (st' := [.ref (37 * 1024), .ref (37 * 1024 + 8), .long (v8)]) 1 rfl ?_
        obtain ⟨q12, hq12, hD⟩ := Option.bind_eq_some_iff.mp hD
        refine k_gq 37 0 (K := 11) (K2 := 6) (key := 5) rfl rfl rfl rfl rfl hq12 (fun kq12 => ?_)
        refine k_gf q12 0 (K := 6) kq12 rfl rfl rfl rfl ?_
        obtain ⟨v13, hv13, hD⟩ := Option.bind_eq_some_iff.mp hD
        refine k_runC rfl rfl rfl rfl (t_e_Reader_find_v1 (d := d + 1) hv13) ?_
        refine k_if rfl (fun c62_13 => ?_) (fun c62_13 => ?_)
        · rw [c62_13, cond_true] at hD
          refine k_wk [0, 1, 2, 3] (loc' := [(0, .ref (37 * 1024)), (1, .ref (37 * 1024 + 9)), (2, .int x2), (3, .long (v8))]) rfl rfl ?_
          exact t_e_Reader_takeNewName_v2_101 ht   hD
        · rw [c62_13, cond_false] at hD
          refine k_runB (pc' := 67) (loc' := [(0, .ref (37 * 1024)), (1, .ref (37 * 1024 + 9)), (2, .int x2), (3, .long (v8))]) (st' := [.ref (37 * 1024), .long (v8)]) 2 rfl ?_
          refine k_gf 37 0 (K := 11) rfl rfl rfl rfl rfl ?_
          refine k_runB (pc' := 71) (loc' := [(0, .ref (37 * 1024)), (1, .ref (37 * 1024 + 9)), (2, .int x2), (3, .long (v8))]) (st' := [.ref (37 * 1024), .ref (37 * 1024 + 9), .long (v8)]) 1 rfl ?_
          obtain ⟨q15, hq15, hD⟩ := Option.bind_eq_some_iff.mp hD
          refine k_gq 37 0 (K := 11) (K2 := 6) (key := 5) rfl rfl rfl rfl rfl hq15 (fun kq15 => ?_)
          refine k_gf q15 0 (K := 6) kq15 rfl rfl rfl rfl ?_
          obtain ⟨v16, hv16, hD⟩ := Option.bind_eq_some_iff.mp hD
          refine k_runC rfl rfl rfl rfl (t_e_Reader_find_v2 (d := d + 1) hv16) ?_
          refine k_if rfl (fun c80_16 => ?_) (fun c80_16 => ?_)
          · rw [c80_16, cond_true] at hD
            refine k_wk [0, 1, 2, 3] (loc' := [(0, .ref (37 * 1024)), (1, .ref (37 * 1024 + 9)), (2, .int x2), (3, .long (v8))]) rfl rfl ?_
            exact t_e_Reader_takeNewName_v2_101 ht   hD
          · rw [c80_16, cond_false] at hD
            refine k_runB (pc' := 85) (loc' := [(0, .ref (37 * 1024)), (1, .ref (37 * 1024 + 9)), (2, .int x2), (3, .long (v8))]) (st' := [.ref (37 * 1024), .long (v8)]) 2 rfl ?_
            refine k_gf 37 0 (K := 11) rfl rfl rfl rfl rfl ?_
            refine k_runB (pc' := 89) (loc' := [(0, .ref (37 * 1024)), (1, .ref (37 * 1024 + 9)), (2, .int x2), (3, .long (v8))]) (st' := [.ref (37 * 1024), .ref (37 * 1024 + 10), .long (v8)]) 1 rfl ?_
            obtain ⟨q18, hq18, hD⟩ := Option.bind_eq_some_iff.mp hD
            refine k_gq 37 0 (K := 11) (K2 := 6) (key := 5) rfl rfl rfl rfl rfl hq18 (fun kq18 => ?_)
            refine k_gf q18 0 (K := 6) kq18 rfl rfl rfl rfl ?_
            obtain ⟨v19, hv19, hD⟩ := Option.bind_eq_some_iff.mp hD
            refine k_runC rfl rfl rfl rfl (t_e_Reader_find_v3 (d := d + 1) hv19) ?_
            refine k_if rfl (fun c98_19 => ?_) (fun c98_19 => ?_)
            · rw [c98_19, cond_true] at hD
              refine k_wk [0, 1, 2, 3] (loc' := [(0, .ref (37 * 1024)), (1, .ref (37 * 1024 + 9)), (2, .int x2), (3, .long (v8))]) rfl rfl ?_
              exact t_e_Reader_takeNewName_v2_106 ht   hD
            · rw [c98_19, cond_false] at hD
              refine k_wk [0, 1, 2, 3] (loc' := [(0, .ref (37 * 1024)), (1, .ref (37 * 1024 + 9)), (2, .int x2), (3, .long (v8))]) rfl rfl ?_
              exact t_e_Reader_takeNewName_v2_101 ht   hD
    · rw [c12_6, cond_false] at hD
      cases hD
      exact k_vret rfl rfl
end MC
end Qz26
