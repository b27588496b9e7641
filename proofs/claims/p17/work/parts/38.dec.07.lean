/-! the class's methods as functions (printed by wip/dec2.py) -/
section MC
variable {t : gT} {lg : Nat → Nat} {d : Nat} {c : Nat × Nat} {B : Nat → List gE}
/-- SleepWork$House.hasStep(II)Z  -/
def e_House_hasStep (P : Nat → Nat → Nat) (F : Nat → Nat → Int32) (A : Nat → Nat → Nat → Int32) (J : Nat → Nat → Nat → Int64) (r0 : Nat) (x1 : Int32) (x2 : Int32) : Option (Int32) :=
  cond (g_cnd .lt x1 0)
  (some (0))
  (cond (g_cnd .ge x1 (F r0 16))
  (some (0))
  (cond (g_cnd .lt x2 0)
  (some (0))
  ((m_ld (A r0 5) 6 x1).bind fun v4 =>
  cond (g_cnd .ge x2 v4)
  (some (0))
  (some (1)))))
set_option maxRecDepth 10000 in
theorem t_e_House_hasStep {P : Nat → Nat → Nat} {F : Nat → Nat → Int32} {A : Nat → Nat → Nat → Int32} {J : Nat → Nat → Nat → Int64} {r0 : Nat} {x1 : Int32} {x2 : Int32} (hr0 : c_kind r0 = 6) {w : Int32} : e_House_hasStep P F A J r0 x1 x2 = some w → k_run t lg (d) 23 0 [(0, .ref (r0 * 1024)), (1, .int x1), (2, .int x2)] [] (c_h c B P F A J) (some (.int w), c_h c B P F A J) := by
  intro hD
  unfold e_House_hasStep at hD
  refine k_runB (pc' := 1) (loc' := [(0, .ref (r0 * 1024)), (1, .int x1), (2, .int x2)]) (st' := [.int x1]) 1 rfl ?_
  refine k_if rfl (fun c1_0 => ?_) (fun c1_0 => ?_)
  · rw [c1_0, cond_true] at hD
    refine k_runB (pc' := 31) (loc' := [(0, .ref (r0 * 1024)), (1, .int x1), (2, .int x2)]) (st' := [.int 0]) 1 rfl ?_
    cases hD
    exact k_zret rfl rfl (Or.inl rfl)
  · rw [c1_0, cond_false] at hD
    refine k_runB (pc' := 6) (loc' := [(0, .ref (r0 * 1024)), (1, .int x1), (2, .int x2)]) (st' := [.ref (r0 * 1024), .int x1]) 2 rfl ?_
    refine k_gf r0 0 (K := 6) hr0 rfl rfl rfl rfl ?_
    refine k_ic rfl (fun c9_1 => ?_) (fun c9_1 => ?_)
    · rw [c9_1, cond_true] at hD
      refine k_runB (pc' := 31) (loc' := [(0, .ref (r0 * 1024)), (1, .int x1), (2, .int x2)]) (st' := [.int 0]) 1 rfl ?_
      cases hD
      exact k_zret rfl rfl (Or.inl rfl)
    · rw [c9_1, cond_false] at hD
      refine k_runB (pc' := 13) (loc' := [(0, .ref (r0 * 1024)), (1, .int x1), (2, .int x2)]) (st' := [.int x2]) 1 rfl ?_
      refine k_if rfl (fun c13_2 => ?_) (fun c13_2 => ?_)
      · rw [c13_2, cond_true] at hD
        refine k_runB (pc' := 31) (loc' := [(0, .ref (r0 * 1024)), (1, .int x1), (2, .int x2)]) (st' := [.int 0]) 1 rfl ?_
        cases hD
        exact k_zret rfl rfl (Or.inl rfl)
      · rw [c13_2, cond_false] at hD
        refine k_runB (pc' := 18) (loc' := [(0, .ref (r0 * 1024)), (1, .int x1), (2, .int x2)]) (st' := [.ref (r0 * 1024), .int x2]) 2 rfl ?_
        refine k_gf r0 0 (K := 6) hr0 rfl rfl rfl rfl ?_
        refine k_runB (pc' := 22) (loc' := [(0, .ref (r0 * 1024)), (1, .int x1), (2, .int x2)]) (st' := [.int x1, .ref (r0 * 1024 + 5), .int x2]) 1 rfl ?_
        obtain ⟨v4, hv4, hD⟩ := Option.bind_eq_some_iff.mp hD
        refine k_ldI rfl (c_get (r := r0) (o := 5) (K := 6) hr0 (by decide)) hv4 ?_
        refine k_ic rfl (fun c23_4 => ?_) (fun c23_4 => ?_)
        · rw [c23_4, cond_true] at hD
          refine k_runB (pc' := 31) (loc' := [(0, .ref (r0 * 1024)), (1, .int x1), (2, .int x2)]) (st' := [.int 0]) 1 rfl ?_
          cases hD
          exact k_zret rfl rfl (Or.inl rfl)
        · rw [c23_4, cond_false] at hD
          refine k_runB (pc' := 31) (loc' := [(0, .ref (r0 * 1024)), (1, .int x1), (2, .int x2)]) (st' := [.int 1]) 2 rfl ?_
          cases hD
          exact k_zret rfl rfl (Or.inr rfl)
/-- SleepWork$Laws.add(II)I  -/
def e_Laws_add (P : Nat → Nat → Nat) (F : Nat → Nat → Int32) (A : Nat → Nat → Nat → Int32) (J : Nat → Nat → Nat → Int64) (r0 : Nat) (x1 : Int32) (x2 : Int32) : Option (Int32 × (Nat → Nat → Nat) × (Nat → Nat → Int32) × (Nat → Nat → Nat → Int32) × (Nat → Nat → Nat → Int64)) :=
  cond (g_cnd .ge (F r0 1304) 400)
  (some ((F r0 1304) - 1, P, F, A, J))
  ((c_st A r0 15 400 (F r0 1304) x1).bind fun A2 =>
  (c_st A2 r0 16 400 (F r0 1304) x2).bind fun A3 =>
  (c_pf F r0 1304 ((F r0 1304) + 1)).bind fun F4 =>
  some ((F4 r0 1304) - 1, P, F4, A3, J))
set_option maxRecDepth 10000 in
theorem t_e_Laws_add (ht : ∀ ci k, t.1 ci k = k_ty ci k) {P : Nat → Nat → Nat} {F : Nat → Nat → Int32} {A : Nat → Nat → Nat → Int32} {J : Nat → Nat → Nat → Int64} {r0 : Nat} {x1 : Int32} {x2 : Int32} (hr0 : c_kind r0 = 6) {w : Int32 × (Nat → Nat → Nat) × (Nat → Nat → Int32) × (Nat → Nat → Nat → Int32) × (Nat → Nat → Nat → Int64)} : e_Laws_add P F A J r0 x1 x2 = some w → k_run t lg (d) 31 0 [(0, .ref (r0 * 1024 + 13)), (1, .int x1), (2, .int x2)] [] (c_h c B P F A J) (some (.int w.1), c_h c B w.2.1 w.2.2.1 w.2.2.2.1 w.2.2.2.2) := by
  intro hD
  unfold e_Laws_add at hD
  refine k_runB (pc' := 1) (loc' := [(0, .ref (r0 * 1024 + 13)), (1, .int x1), (2, .int x2)]) (st' := [.ref (r0 * 1024 + 13)]) 1 rfl ?_
  refine k_gf r0 13 (K := 6) hr0 rfl rfl rfl rfl ?_
  refine k_runB (pc' := 7) (loc' := [(0, .ref (r0 * 1024 + 13)), (1, .int x1), (2, .int x2)]) (st' := [.int 400, .int (F r0 1304)]) 1 rfl ?_
  refine k_ic rfl (fun c7_0 => ?_) (fun c7_0 => ?_)
  · rw [c7_0, cond_true] at hD
    refine k_runB (pc' := 41) (loc' := [(0, .ref (r0 * 1024 + 13)), (1, .int x1), (2, .int x2)]) (st' := [.ref (r0 * 1024 + 13)]) 1 rfl ?_
    refine k_gf r0 13 (K := 6) hr0 rfl rfl rfl rfl ?_
    refine k_runB (pc' := 46) (loc' := [(0, .ref (r0 * 1024 + 13)), (1, .int x1), (2, .int x2)]) (st' := [.int ((F r0 1304) - 1)]) 2 rfl ?_
    cases hD
    exact k_iret rfl rfl
  · rw [c7_0, cond_false] at hD
    refine k_runB (pc' := 11) (loc' := [(0, .ref (r0 * 1024 + 13)), (1, .int x1), (2, .int x2)]) (st' := [.ref (r0 * 1024 + 13)]) 1 rfl ?_
    refine k_gf r0 13 (K := 6) hr0 rfl rfl rfl rfl ?_
    refine k_runB (pc' := 15) (loc' := [(0, .ref (r0 * 1024 + 13)), (1, .int x1), (2, .int x2)]) (st' := [.ref (r0 * 1024 + 13), .ref (r0 * 1024 + 15)]) 1 rfl ?_
    refine k_gf r0 13 (K := 6) hr0 rfl rfl rfl rfl ?_
    refine k_runB (pc' := 19) (loc' := [(0, .ref (r0 * 1024 + 13)), (1, .int x1), (2, .int x2)]) (st' := [.int x1, .int (F r0 1304), .ref (r0 * 1024 + 15)]) 1 rfl ?_
    obtain ⟨A2, hA2, hD⟩ := Option.bind_eq_some_iff.mp hD
    refine k_cstI r0 15 (K := 6) hr0 rfl rfl rfl (fun _ => rfl) hA2 ?_
    refine k_runB (pc' := 21) (loc' := [(0, .ref (r0 * 1024 + 13)), (1, .int x1), (2, .int x2)]) (st' := [.ref (r0 * 1024 + 13)]) 1 rfl ?_
    refine k_gf r0 13 (K := 6) hr0 rfl rfl rfl rfl ?_
    refine k_runB (pc' := 25) (loc' := [(0, .ref (r0 * 1024 + 13)), (1, .int x1), (2, .int x2)]) (st' := [.ref (r0 * 1024 + 13), .ref (r0 * 1024 + 16)]) 1 rfl ?_
    refine k_gf r0 13 (K := 6) hr0 rfl rfl rfl rfl ?_
    refine k_runB (pc' := 29) (loc' := [(0, .ref (r0 * 1024 + 13)), (1, .int x1), (2, .int x2)]) (st' := [.int x2, .int (F r0 1304), .ref (r0 * 1024 + 16)]) 1 rfl ?_
    obtain ⟨A3, hA3, hD⟩ := Option.bind_eq_some_iff.mp hD
    refine k_cstI r0 16 (K := 6) hr0 rfl rfl rfl (fun _ => rfl) hA3 ?_
    refine k_runB (pc' := 32) (loc' := [(0, .ref (r0 * 1024 + 13)), (1, .int x1), (2, .int x2)]) (st' := [.ref (r0 * 1024 + 13), .ref (r0 * 1024 + 13)]) 2 rfl ?_
    refine k_gf r0 13 (K := 6) hr0 rfl rfl rfl rfl ?_
    refine k_runB (pc' := 37) (loc' := [(0, .ref (r0 * 1024 + 13)), (1, .int x1), (2, .int x2)]) (st' := [.int ((F r0 1304) + 1), .ref (r0 * 1024 + 13)]) 2 rfl ?_
    obtain ⟨F4, hF4, hD⟩ := Option.bind_eq_some_iff.mp hD
    refine k_cpt r0 13 (K := 6) (key := 1304) hr0 rfl (ht 2 4) rfl rfl rfl hF4 ?_
    refine k_runB (pc' := 41) (loc' := [(0, .ref (r0 * 1024 + 13)), (1, .int x1), (2, .int x2)]) (st' := [.ref (r0 * 1024 + 13)]) 1 rfl ?_
    refine k_gf r0 13 (K := 6) hr0 rfl rfl rfl rfl ?_
    refine k_runB (pc' := 46) (loc' := [(0, .ref (r0 * 1024 + 13)), (1, .int x1), (2, .int x2)]) (st' := [.int ((F4 r0 1304) - 1)]) 2 rfl ?_
    cases hD
    exact k_iret rfl rfl
/-- SleepWork$Laws.aimHere(I)V  -/
def e_Laws_aimHere (P : Nat → Nat → Nat) (F : Nat → Nat → Int32) (A : Nat → Nat → Nat → Int32) (J : Nat → Nat → Nat → Int64) (r0 : Nat) (x1 : Int32) : Option (Unit × (Nat → Nat → Nat) × (Nat → Nat → Int32) × (Nat → Nat → Nat → Int32) × (Nat → Nat → Nat → Int64)) :=
  cond (g_cnd .lt x1 0)
  (some ((), P, F, A, J))
  (cond (g_cnd .ge x1 (F r0 1304))
  (some ((), P, F, A, J))
  ((c_st A r0 16 400 x1 (F r0 1304)).bind fun A3 =>
  some ((), P, F, A3, J)))
set_option maxRecDepth 10000 in
theorem t_e_Laws_aimHere {P : Nat → Nat → Nat} {F : Nat → Nat → Int32} {A : Nat → Nat → Nat → Int32} {J : Nat → Nat → Nat → Int64} {r0 : Nat} {x1 : Int32} (hr0 : c_kind r0 = 6) {w : Unit × (Nat → Nat → Nat) × (Nat → Nat → Int32) × (Nat → Nat → Nat → Int32) × (Nat → Nat → Nat → Int64)} : e_Laws_aimHere P F A J r0 x1 = some w → k_run t lg (d) 32 0 [(0, .ref (r0 * 1024 + 13)), (1, .int x1)] [] (c_h c B P F A J) (none, c_h c B w.2.1 w.2.2.1 w.2.2.2.1 w.2.2.2.2) := by
  intro hD
  unfold e_Laws_aimHere at hD
  refine k_runB (pc' := 1) (loc' := [(0, .ref (r0 * 1024 + 13)), (1, .int x1)]) (st' := [.int x1]) 1 rfl ?_
  refine k_if rfl (fun c1_0 => ?_) (fun c1_0 => ?_)
  · rw [c1_0, cond_true] at hD
    cases hD
    exact k_vret rfl rfl
  · rw [c1_0, cond_false] at hD
    refine k_runB (pc' := 6) (loc' := [(0, .ref (r0 * 1024 + 13)), (1, .int x1)]) (st' := [.ref (r0 * 1024 + 13), .int x1]) 2 rfl ?_
    refine k_gf r0 13 (K := 6) hr0 rfl rfl rfl rfl ?_
    refine k_ic rfl (fun c9_1 => ?_) (fun c9_1 => ?_)
    · rw [c9_1, cond_true] at hD
      cases hD
      exact k_vret rfl rfl
    · rw [c9_1, cond_false] at hD
      refine k_runB (pc' := 13) (loc' := [(0, .ref (r0 * 1024 + 13)), (1, .int x1)]) (st' := [.ref (r0 * 1024 + 13)]) 1 rfl ?_
      refine k_gf r0 13 (K := 6) hr0 rfl rfl rfl rfl ?_
      refine k_runB (pc' := 18) (loc' := [(0, .ref (r0 * 1024 + 13)), (1, .int x1)]) (st' := [.ref (r0 * 1024 + 13), .int x1, .ref (r0 * 1024 + 16)]) 2 rfl ?_
      refine k_gf r0 13 (K := 6) hr0 rfl rfl rfl rfl ?_
      obtain ⟨A3, hA3, hD⟩ := Option.bind_eq_some_iff.mp hD
      refine k_cstI r0 16 (K := 6) hr0 rfl rfl rfl (fun _ => rfl) hA3 ?_
      cases hD
      exact k_vret rfl rfl
def e_Past_push_35 (P : Nat → Nat → Nat) (F : Nat → Nat → Int32) (A : Nat → Nat → Nat → Int32) (J : Nat → Nat → Nat → Int64) (r1 : Nat) : Option (Unit × (Nat → Nat → Nat) × (Nat → Nat → Int32) × (Nat → Nat → Nat → Int32) × (Nat → Nat → Nat → Int64)) :=
    (m_rem (((F 4 1) + (F 4 2)) - 1) 20).bind fun v12 =>
    (c_ar 20 5 2 v12).bind fun q13 =>
    (e_State_copy P F A J q13 r1).bind fun (_, P15, F16, A17, J18) =>
    some ((), P15, F16, A17, J18)
set_option maxRecDepth 10000 in
theorem t_e_Past_push_35 (ht : ∀ ci k, t.1 ci k = k_ty ci k)  {P : Nat → Nat → Nat} {F : Nat → Nat → Int32} {A : Nat → Nat → Nat → Int32} {J : Nat → Nat → Nat → Int64} {r1 : Nat} (hr1 : c_kind r1 = 2) {w : Unit × (Nat → Nat → Nat) × (Nat → Nat → Int32) × (Nat → Nat → Nat → Int32) × (Nat → Nat → Nat → Int64)} : e_Past_push_35 P F A J r1 = some w → k_run t lg (d + 1) 36 35 [(0, .ref (4 * 1024)), (1, .ref (r1 * 1024))] [] (c_h c B P F A J) (none, c_h c B w.2.1 w.2.2.1 w.2.2.2.1 w.2.2.2.2) := by
  intro hD
  unfold e_Past_push_35 at hD
  refine k_runB (pc' := 36) (loc' := [(0, .ref (4 * 1024)), (1, .ref (r1 * 1024))]) (st' := [.ref (4 * 1024)]) 1 rfl ?_
  refine k_gf 4 0 (K := 3) rfl rfl rfl rfl rfl ?_
  refine k_runB (pc' := 40) (loc' := [(0, .ref (4 * 1024)), (1, .ref (r1 * 1024))]) (st' := [.ref (4 * 1024), .ref (4 * 1024 + 1)]) 1 rfl ?_
  refine k_gf 4 0 (K := 3) rfl rfl rfl rfl rfl ?_
  refine k_runB (pc' := 44) (loc' := [(0, .ref (4 * 1024)), (1, .ref (r1 * 1024))]) (st' := [.ref (4 * 1024), .int (F 4 1), .ref (4 * 1024 + 1)]) 1 rfl ?_
  refine k_gf 4 0 (K := 3) rfl rfl rfl rfl rfl ?_
  refine k_runB (pc' := 52) (loc' := [(0, .ref (4 * 1024)), (1, .ref (r1 * 1024))]) (st' := [.int 20, .int (((F 4 1) + (F 4 2)) - 1), .ref (4 * 1024 + 1)]) 4 rfl ?_
  obtain ⟨v12, hv12, hD⟩ := Option.bind_eq_some_iff.mp hD
  refine k_rmI rfl hv12 ?_
  obtain ⟨q13, hq13, hD⟩ := Option.bind_eq_some_iff.mp hD
  refine k_aal 4 1 (K := 3) rfl rfl rfl rfl hq13 (fun kq13 => ?_)
  refine k_runB (pc' := 55) (loc' := [(0, .ref (4 * 1024)), (1, .ref (r1 * 1024))]) (st' := [.ref (r1 * 1024), .ref (q13 * 1024)]) 1 rfl ?_
  obtain ⟨⟨v14, P15, F16, A17, J18⟩, hv14, hD⟩ := Option.bind_eq_some_iff.mp hD
  dsimp only at hD
  refine k_runV rfl rfl rfl (c_get (r := q13) (o := 0) (K := 2) kq13 (by decide)) rfl rfl (t_e_State_copy (d := d) ht kq13 hr1 hv14) ?_
  cases hD
  exact k_vret rfl rfl
/-- SleepWork$Past.push(LSleepWork$State;)V  -/
def e_Past_push (P : Nat → Nat → Nat) (F : Nat → Nat → Int32) (A : Nat → Nat → Nat → Int32) (J : Nat → Nat → Nat → Int64) (r1 : Nat) : Option (Unit × (Nat → Nat → Nat) × (Nat → Nat → Int32) × (Nat → Nat → Nat → Int32) × (Nat → Nat → Nat → Int64)) :=
  cond (g_cnd .ne (F 4 2) 20)
  ((c_pf F 4 2 ((F 4 2) + 1)).bind fun F2 =>
  (m_rem (((F2 4 1) + (F2 4 2)) - 1) 20).bind fun v3 =>
  (c_ar 20 5 2 v3).bind fun q4 =>
  (e_State_copy P F2 A J q4 r1).bind fun (_, P6, F7, A8, J9) =>
  some ((), P6, F7, A8, J9))
  ((m_rem ((F 4 1) + 1) 20).bind fun v10 =>
  (c_pf F 4 1 v10).bind fun F11 =>
  e_Past_push_35 P F11 A J r1)
set_option maxRecDepth 10000 in
theorem t_e_Past_push (ht : ∀ ci k, t.1 ci k = k_ty ci k) {P : Nat → Nat → Nat} {F : Nat → Nat → Int32} {A : Nat → Nat → Nat → Int32} {J : Nat → Nat → Nat → Int64} {r1 : Nat} (hr1 : c_kind r1 = 2) {w : Unit × (Nat → Nat → Nat) × (Nat → Nat → Int32) × (Nat → Nat → Nat → Int32) × (Nat → Nat → Nat → Int64)} : e_Past_push P F A J r1 = some w → k_run t lg (d + 1) 36 0 [(0, .ref (4 * 1024)), (1, .ref (r1 * 1024))] [] (c_h c B P F A J) (none, c_h c B w.2.1 w.2.2.1 w.2.2.2.1 w.2.2.2.2) := by
  intro hD
  unfold e_Past_push at hD
  refine k_runB (pc' := 1) (loc' := [(0, .ref (4 * 1024)), (1, .ref (r1 * 1024))]) (st' := [.ref (4 * 1024)]) 1 rfl ?_
  refine k_gf 4 0 (K := 3) rfl rfl rfl rfl rfl ?_
  refine k_runB (pc' := 6) (loc' := [(0, .ref (4 * 1024)), (1, .ref (r1 * 1024))]) (st' := [.int 20, .int (F 4 2)]) 1 rfl ?_
  refine k_ic rfl (fun c6_0 => ?_) (fun c6_0 => ?_)
  · rw [c6_0, cond_true] at hD
    refine k_runB (pc' := 27) (loc' := [(0, .ref (4 * 1024)), (1, .ref (r1 * 1024))]) (st' := [.ref (4 * 1024), .ref (4 * 1024)]) 2 rfl ?_
    refine k_gf 4 0 (K := 3) rfl rfl rfl rfl rfl ?_
    refine k_runB (pc' := 32) (loc' := [(0, .ref (4 * 1024)), (1, .ref (r1 * 1024))]) (st' := [.int ((F 4 2) + 1), .ref (4 * 1024)]) 2 rfl ?_
    obtain ⟨F2, hF2, hD⟩ := Option.bind_eq_some_iff.mp hD
    refine k_cpt 4 0 (K := 3) (key := 2) rfl rfl (ht 3 2) rfl rfl rfl hF2 ?_
    refine k_runB (pc' := 36) (loc' := [(0, .ref (4 * 1024)), (1, .ref (r1 * 1024))]) (st' := [.ref (4 * 1024)]) 1 rfl ?_
    refine k_gf 4 0 (K := 3) rfl rfl rfl rfl rfl ?_
    refine k_runB (pc' := 40) (loc' := [(0, .ref (4 * 1024)), (1, .ref (r1 * 1024))]) (st' := [.ref (4 * 1024), .ref (4 * 1024 + 1)]) 1 rfl ?_
    refine k_gf 4 0 (K := 3) rfl rfl rfl rfl rfl ?_
    refine k_runB (pc' := 44) (loc' := [(0, .ref (4 * 1024)), (1, .ref (r1 * 1024))]) (st' := [.ref (4 * 1024), .int (F2 4 1), .ref (4 * 1024 + 1)]) 1 rfl ?_
    refine k_gf 4 0 (K := 3) rfl rfl rfl rfl rfl ?_
    refine k_runB (pc' := 52) (loc' := [(0, .ref (4 * 1024)), (1, .ref (r1 * 1024))]) (st' := [.int 20, .int (((F2 4 1) + (F2 4 2)) - 1), .ref (4 * 1024 + 1)]) 4 rfl ?_
    obtain ⟨v3, hv3, hD⟩ := Option.bind_eq_some_iff.mp hD
    refine k_rmI rfl hv3 ?_
    obtain ⟨q4, hq4, hD⟩ := Option.bind_eq_some_iff.mp hD
    refine k_aal 4 1 (K := 3) rfl rfl rfl rfl hq4 (fun kq4 => ?_)
    refine k_runB (pc' := 55) (loc' := [(0, .ref (4 * 1024)), (1, .ref (r1 * 1024))]) (st' := [.ref (r1 * 1024), .ref (q4 * 1024)]) 1 rfl ?_
    obtain ⟨⟨v5, P6, F7, A8, J9⟩, hv5, hD⟩ := Option.bind_eq_some_iff.mp hD
    dsimp only at hD
    refine k_runV rfl rfl rfl (c_get (r := q4) (o := 0) (K := 2) kq4 (by decide)) rfl rfl (t_e_State_copy (d := d) ht kq4 hr1 hv5) ?_
    cases hD
    exact k_vret rfl rfl
  · rw [c6_0, cond_false] at hD
    refine k_runB (pc' := 11) (loc' := [(0, .ref (4 * 1024)), (1, .ref (r1 * 1024))]) (st' := [.ref (4 * 1024), .ref (4 * 1024)]) 2 rfl ?_
    refine k_gf 4 0 (K := 3) rfl rfl rfl rfl rfl ?_
    refine k_runB (pc' := 18) (loc' := [(0, .ref (4 * 1024)), (1, .ref (r1 * 1024))]) (st' := [.int 20, .int ((F 4 1) + 1), .ref (4 * 1024)]) 3 rfl ?_
    obtain ⟨v10, hv10, hD⟩ := Option.bind_eq_some_iff.mp hD
    refine k_rmI rfl hv10 ?_
    obtain ⟨F11, hF11, hD⟩ := Option.bind_eq_some_iff.mp hD
    refine k_cpt 4 0 (K := 3) (key := 1) rfl rfl (ht 3 1) rfl rfl rfl hF11 ?_
    refine k_runB (pc' := 35) (loc' := [(0, .ref (4 * 1024)), (1, .ref (r1 * 1024))]) (st' := []) 1 rfl ?_
    refine k_wk [0, 1] (loc' := [(0, .ref (4 * 1024)), (1, .ref (r1 * 1024))]) rfl rfl ?_
    exact t_e_Past_push_35 ht  hr1 hD
/-- SleepWork$Past.pull(LSleepWork$State;)Z  -/
def e_Past_pull (P : Nat → Nat → Nat) (F : Nat → Nat → Int32) (A : Nat → Nat → Nat → Int32) (J : Nat → Nat → Nat → Int64) (r1 : Nat) : Option (Int32 × (Nat → Nat → Nat) × (Nat → Nat → Int32) × (Nat → Nat → Nat → Int32) × (Nat → Nat → Nat → Int64)) :=
  cond (g_cnd .ne (F 4 2) 0)
  ((c_pf F 4 2 ((F 4 2) - 1)).bind fun F2 =>
  (m_rem ((F2 4 1) + (F2 4 2)) 20).bind fun v3 =>
  (c_ar 20 5 2 v3).bind fun q4 =>
  (e_State_copy P F2 A J r1 q4).bind fun (_, P6, F7, A8, J9) =>
  some (1, P6, F7, A8, J9))
  (some (0, P, F, A, J))
set_option maxRecDepth 10000 in
theorem t_e_Past_pull (ht : ∀ ci k, t.1 ci k = k_ty ci k) {P : Nat → Nat → Nat} {F : Nat → Nat → Int32} {A : Nat → Nat → Nat → Int32} {J : Nat → Nat → Nat → Int64} {r1 : Nat} (hr1 : c_kind r1 = 2) {w : Int32 × (Nat → Nat → Nat) × (Nat → Nat → Int32) × (Nat → Nat → Nat → Int32) × (Nat → Nat → Nat → Int64)} : e_Past_pull P F A J r1 = some w → k_run t lg (d + 1) 37 0 [(0, .ref (4 * 1024)), (1, .ref (r1 * 1024))] [] (c_h c B P F A J) (some (.int w.1), c_h c B w.2.1 w.2.2.1 w.2.2.2.1 w.2.2.2.2) := by
  intro hD
  unfold e_Past_pull at hD
  refine k_runB (pc' := 1) (loc' := [(0, .ref (4 * 1024)), (1, .ref (r1 * 1024))]) (st' := [.ref (4 * 1024)]) 1 rfl ?_
  refine k_gf 4 0 (K := 3) rfl rfl rfl rfl rfl ?_
  refine k_if rfl (fun c4_0 => ?_) (fun c4_0 => ?_)
  · rw [c4_0, cond_true] at hD
    refine k_runB (pc' := 11) (loc' := [(0, .ref (4 * 1024)), (1, .ref (r1 * 1024))]) (st' := [.ref (4 * 1024), .ref (4 * 1024)]) 2 rfl ?_
    refine k_gf 4 0 (K := 3) rfl rfl rfl rfl rfl ?_
    refine k_runB (pc' := 16) (loc' := [(0, .ref (4 * 1024)), (1, .ref (r1 * 1024))]) (st' := [.int ((F 4 2) - 1), .ref (4 * 1024)]) 2 rfl ?_
    obtain ⟨F2, hF2, hD⟩ := Option.bind_eq_some_iff.mp hD
    refine k_cpt 4 0 (K := 3) (key := 2) rfl rfl (ht 3 2) rfl rfl rfl hF2 ?_
    refine k_runB (pc' := 21) (loc' := [(0, .ref (4 * 1024)), (1, .ref (r1 * 1024))]) (st' := [.ref (4 * 1024), .ref (r1 * 1024)]) 2 rfl ?_
    refine k_gf 4 0 (K := 3) rfl rfl rfl rfl rfl ?_
    refine k_runB (pc' := 25) (loc' := [(0, .ref (4 * 1024)), (1, .ref (r1 * 1024))]) (st' := [.ref (4 * 1024), .ref (4 * 1024 + 1), .ref (r1 * 1024)]) 1 rfl ?_
    refine k_gf 4 0 (K := 3) rfl rfl rfl rfl rfl ?_
    refine k_runB (pc' := 29) (loc' := [(0, .ref (4 * 1024)), (1, .ref (r1 * 1024))]) (st' := [.ref (4 * 1024), .int (F2 4 1), .ref (4 * 1024 + 1), .ref (r1 * 1024)]) 1 rfl ?_
    refine k_gf 4 0 (K := 3) rfl rfl rfl rfl rfl ?_
    refine k_runB (pc' := 35) (loc' := [(0, .ref (4 * 1024)), (1, .ref (r1 * 1024))]) (st' := [.int 20, .int ((F2 4 1) + (F2 4 2)), .ref (4 * 1024 + 1), .ref (r1 * 1024)]) 2 rfl ?_
    obtain ⟨v3, hv3, hD⟩ := Option.bind_eq_some_iff.mp hD
    refine k_rmI rfl hv3 ?_
    obtain ⟨q4, hq4, hD⟩ := Option.bind_eq_some_iff.mp hD
    refine k_aal 4 1 (K := 3) rfl rfl rfl rfl hq4 (fun kq4 => ?_)
    obtain ⟨⟨v5, P6, F7, A8, J9⟩, hv5, hD⟩ := Option.bind_eq_some_iff.mp hD
    dsimp only at hD
    refine k_runV rfl rfl rfl (c_get (r := r1) (o := 0) (K := 2) hr1 (by decide)) rfl rfl (t_e_State_copy (d := d) ht hr1 kq4 hv5) ?_
    refine k_runB (pc' := 41) (loc' := [(0, .ref (4 * 1024)), (1, .ref (r1 * 1024))]) (st' := [.int 1]) 1 rfl ?_
    cases hD
    exact k_zret rfl rfl (Or.inr rfl)
  · rw [c4_0, cond_false] at hD
    refine k_runB (pc' := 8) (loc' := [(0, .ref (4 * 1024)), (1, .ref (r1 * 1024))]) (st' := [.int 0]) 1 rfl ?_
    cases hD
    exact k_zret rfl rfl (Or.inl rfl)
/-- SleepWork$State.clear()V  -/
def e_State_clear (P : Nat → Nat → Nat) (F : Nat → Nat → Int32) (A : Nat → Nat → Nat → Int32) (J : Nat → Nat → Nat → Int64) (r0 : Nat) : Option (Unit × (Nat → Nat → Nat) × (Nat → Nat → Int32) × (Nat → Nat → Nat → Int32) × (Nat → Nat → Nat → Int64)) :=
  (c_fi A r0 1 36 0).bind fun A1 =>
  (c_fi A1 r0 2 6 0).bind fun A2 =>
  (c_fi A2 r0 3 6 ((-1))).bind fun A3 =>
  (c_fi A3 r0 4 6 0).bind fun A4 =>
  (c_fi A4 r0 5 6 0).bind fun A5 =>
  (c_fi A5 r0 6 6 0).bind fun A6 =>
  (c_fi A6 r0 7 6 ((-2))).bind fun A7 =>
  (c_pf F r0 7 0).bind fun F8 =>
  (c_pf F8 r0 8 0).bind fun F9 =>
  some ((), P, F9, A7, J)
set_option maxRecDepth 10000 in
theorem t_e_State_clear (ht : ∀ ci k, t.1 ci k = k_ty ci k) {P : Nat → Nat → Nat} {F : Nat → Nat → Int32} {A : Nat → Nat → Nat → Int32} {J : Nat → Nat → Nat → Int64} {r0 : Nat} (hr0 : c_kind r0 = 2) {w : Unit × (Nat → Nat → Nat) × (Nat → Nat → Int32) × (Nat → Nat → Nat → Int32) × (Nat → Nat → Nat → Int64)} : e_State_clear P F A J r0 = some w → k_run t lg (d + 1) 84 0 [(0, .ref (r0 * 1024))] [] (c_h c B P F A J) (none, c_h c B w.2.1 w.2.2.1 w.2.2.2.1 w.2.2.2.2) := by
  intro hD
  unfold e_State_clear at hD
  refine k_runB (pc' := 1) (loc' := [(0, .ref (r0 * 1024))]) (st' := [.ref (r0 * 1024)]) 1 rfl ?_
  refine k_gf r0 0 (K := 2) hr0 rfl rfl rfl rfl ?_
  refine k_runB (pc' := 5) (loc' := [(0, .ref (r0 * 1024))]) (st' := [.int 0, .ref (r0 * 1024 + 1)]) 1 rfl ?_
  obtain ⟨A1, hA1, hD⟩ := Option.bind_eq_some_iff.mp hD
  refine k_runC rfl rfl rfl rfl (t_fillI r0 1 (K := 2) (n := 36) hr0 (fun _ => rfl) (fun _ _ => rfl) (by decide) hA1) ?_
  refine k_runB (pc' := 9) (loc' := [(0, .ref (r0 * 1024))]) (st' := [.ref (r0 * 1024)]) 1 rfl ?_
  refine k_gf r0 0 (K := 2) hr0 rfl rfl rfl rfl ?_
  refine k_runB (pc' := 13) (loc' := [(0, .ref (r0 * 1024))]) (st' := [.int 0, .ref (r0 * 1024 + 2)]) 1 rfl ?_
  obtain ⟨A2, hA2, hD⟩ := Option.bind_eq_some_iff.mp hD
  refine k_runC rfl rfl rfl rfl (t_fillI r0 2 (K := 2) (n := 6) hr0 (fun _ => rfl) (fun _ _ => rfl) (by decide) hA2) ?_
  refine k_runB (pc' := 17) (loc' := [(0, .ref (r0 * 1024))]) (st' := [.ref (r0 * 1024)]) 1 rfl ?_
  refine k_gf r0 0 (K := 2) hr0 rfl rfl rfl rfl ?_
  refine k_runB (pc' := 21) (loc' := [(0, .ref (r0 * 1024))]) (st' := [.int ((-1)), .ref (r0 * 1024 + 3)]) 1 rfl ?_
  obtain ⟨A3, hA3, hD⟩ := Option.bind_eq_some_iff.mp hD
  refine k_runC rfl rfl rfl rfl (t_fillI r0 3 (K := 2) (n := 6) hr0 (fun _ => rfl) (fun _ _ => rfl) (by decide) hA3) ?_
  refine k_runB (pc' := 25) (loc' := [(0, .ref (r0 * 1024))]) (st' := [.ref (r0 * 1024)]) 1 rfl ?_
  refine k_gf r0 0 (K := 2) hr0 rfl rfl rfl rfl ?_
  refine k_runB (pc' := 29) (loc' := [(0, .ref (r0 * 1024))]) (st' := [.int 0, .ref (r0 * 1024 + 4)]) 1 rfl ?_
  obtain ⟨A4, hA4, hD⟩ := Option.bind_eq_some_iff.mp hD
  refine k_runC rfl rfl rfl rfl (t_fillI r0 4 (K := 2) (n := 6) hr0 (fun _ => rfl) (fun _ _ => rfl) (by decide) hA4) ?_
  refine k_runB (pc' := 33) (loc' := [(0, .ref (r0 * 1024))]) (st' := [.ref (r0 * 1024)]) 1 rfl ?_
  refine k_gf r0 0 (K := 2) hr0 rfl rfl rfl rfl ?_
  refine k_runB (pc' := 37) (loc' := [(0, .ref (r0 * 1024))]) (st' := [.int 0, .ref (r0 * 1024 + 5)]) 1 rfl ?_
  obtain ⟨A5, hA5, hD⟩ := Option.bind_eq_some_iff.mp hD
  refine k_runC rfl rfl rfl rfl (t_fillI r0 5 (K := 2) (n := 6) hr0 (fun _ => rfl) (fun _ _ => rfl) (by decide) hA5) ?_
  refine k_runB (pc' := 41) (loc' := [(0, .ref (r0 * 1024))]) (st' := [.ref (r0 * 1024)]) 1 rfl ?_
  refine k_gf r0 0 (K := 2) hr0 rfl rfl rfl rfl ?_
  refine k_runB (pc' := 45) (loc' := [(0, .ref (r0 * 1024))]) (st' := [.int 0, .ref (r0 * 1024 + 6)]) 1 rfl ?_
  obtain ⟨A6, hA6, hD⟩ := Option.bind_eq_some_iff.mp hD
  refine k_runC rfl rfl rfl rfl (t_fillI r0 6 (K := 2) (n := 6) hr0 (fun _ => rfl) (fun _ _ => rfl) (by decide) hA6) ?_
  refine k_runB (pc' := 49) (loc' := [(0, .ref (r0 * 1024))]) (st' := [.ref (r0 * 1024)]) 1 rfl ?_
  refine k_gf r0 0 (K := 2) hr0 rfl rfl rfl rfl ?_
  refine k_runB (pc' := 54) (loc' := [(0, .ref (r0 * 1024))]) (st' := [.int ((-2)), .ref (r0 * 1024 + 7)]) 1 rfl ?_
  obtain ⟨A7, hA7, hD⟩ := Option.bind_eq_some_iff.mp hD
  refine k_runC rfl rfl rfl rfl (t_fillI r0 7 (K := 2) (n := 6) hr0 (fun _ => rfl) (fun _ _ => rfl) (by decide) hA7) ?_
  refine k_runB (pc' := 59) (loc' := [(0, .ref (r0 * 1024))]) (st' := [.int 0, .ref (r0 * 1024)]) 2 rfl ?_
  obtain ⟨F8, hF8, hD⟩ := Option.bind_eq_some_iff.mp hD
  refine k_cpt r0 0 (K := 2) (key := 7) hr0 rfl (ht 7 7) rfl rfl rfl hF8 ?_
  refine k_runB (pc' := 64) (loc' := [(0, .ref (r0 * 1024))]) (st' := [.int 0, .ref (r0 * 1024)]) 2 rfl ?_
  obtain ⟨F9, hF9, hD⟩ := Option.bind_eq_some_iff.mp hD
  refine k_cpt r0 0 (K := 2) (key := 8) hr0 rfl (ht 7 8) rfl rfl rfl hF9 ?_
  cases hD
  exact k_vret rfl rfl
/-- SleepWork$Scanner.isBlank(I)Z  -/
def e_Scanner_isBlank (P : Nat → Nat → Nat) (F : Nat → Nat → Int32) (A : Nat → Nat → Nat → Int32) (J : Nat → Nat → Nat → Int64) (x0 : Int32) : Option (Int32) :=
  cond (g_cnd .eq x0 9)
  (some (1))
  (cond (g_cnd .eq x0 10)
  (some (1))
  (cond (g_cnd .eq x0 13)
  (some (1))
  (cond (g_cnd .ne x0 32)
  (some (0))
  (some (1)))))
set_option maxRecDepth 10000 in
theorem t_e_Scanner_isBlank {P : Nat → Nat → Nat} {F : Nat → Nat → Int32} {A : Nat → Nat → Nat → Int32} {J : Nat → Nat → Nat → Int64} {x0 : Int32}  {w : Int32} : e_Scanner_isBlank P F A J x0 = some w → k_run t lg (d) 71 0 [(0, .int x0)] [] (c_h c B P F A J) (some (.int w), c_h c B P F A J) := by
  intro hD
  unfold e_Scanner_isBlank at hD
  refine k_runB (pc' := 3) (loc' := [(0, .int x0)]) (st' := [.int 9, .int x0]) 2 rfl ?_
  refine k_ic rfl (fun c3_0 => ?_) (fun c3_0 => ?_)
  · rw [c3_0, cond_true] at hD
    refine k_runB (pc' := 29) (loc' := [(0, .int x0)]) (st' := [.int 1]) 2 rfl ?_
    cases hD
    exact k_zret rfl rfl (Or.inr rfl)
  · rw [c3_0, cond_false] at hD
    refine k_runB (pc' := 9) (loc' := [(0, .int x0)]) (st' := [.int 10, .int x0]) 2 rfl ?_
    refine k_ic rfl (fun c9_1 => ?_) (fun c9_1 => ?_)
    · rw [c9_1, cond_true] at hD
      refine k_runB (pc' := 29) (loc' := [(0, .int x0)]) (st' := [.int 1]) 2 rfl ?_
      cases hD
      exact k_zret rfl rfl (Or.inr rfl)
    · rw [c9_1, cond_false] at hD
      refine k_runB (pc' := 15) (loc' := [(0, .int x0)]) (st' := [.int 13, .int x0]) 2 rfl ?_
      refine k_ic rfl (fun c15_2 => ?_) (fun c15_2 => ?_)
      · rw [c15_2, cond_true] at hD
        refine k_runB (pc' := 29) (loc' := [(0, .int x0)]) (st' := [.int 1]) 2 rfl ?_
        cases hD
        exact k_zret rfl rfl (Or.inr rfl)
      · rw [c15_2, cond_false] at hD
        refine k_runB (pc' := 21) (loc' := [(0, .int x0)]) (st' := [.int 32, .int x0]) 2 rfl ?_
        refine k_ic rfl (fun c21_3 => ?_) (fun c21_3 => ?_)
        · rw [c21_3, cond_true] at hD
          refine k_runB (pc' := 29) (loc' := [(0, .int x0)]) (st' := [.int 0]) 1 rfl ?_
          cases hD
          exact k_zret rfl rfl (Or.inl rfl)
        · rw [c21_3, cond_false] at hD
          refine k_runB (pc' := 29) (loc' := [(0, .int x0)]) (st' := [.int 1]) 2 rfl ?_
          cases hD
          exact k_zret rfl rfl (Or.inr rfl)
/-- SleepWork$Scanner.isLetter(I)Z  -/
def e_Scanner_isLetter (P : Nat → Nat → Nat) (F : Nat → Nat → Int32) (A : Nat → Nat → Nat → Int32) (J : Nat → Nat → Nat → Int64) (x0 : Int32) : Option (Int32) :=
  cond (g_cnd .lt x0 97)
  (some (0))
  (cond (g_cnd .gt x0 122)
  (some (0))
  (some (1)))
set_option maxRecDepth 10000 in
theorem t_e_Scanner_isLetter {P : Nat → Nat → Nat} {F : Nat → Nat → Int32} {A : Nat → Nat → Nat → Int32} {J : Nat → Nat → Nat → Int64} {x0 : Int32}  {w : Int32} : e_Scanner_isLetter P F A J x0 = some w → k_run t lg (d) 72 0 [(0, .int x0)] [] (c_h c B P F A J) (some (.int w), c_h c B P F A J) := by
  intro hD
  unfold e_Scanner_isLetter at hD
  refine k_runB (pc' := 3) (loc' := [(0, .int x0)]) (st' := [.int 97, .int x0]) 2 rfl ?_
  refine k_ic rfl (fun c3_0 => ?_) (fun c3_0 => ?_)
  · rw [c3_0, cond_true] at hD
    refine k_runB (pc' := 17) (loc' := [(0, .int x0)]) (st' := [.int 0]) 1 rfl ?_
    cases hD
    exact k_zret rfl rfl (Or.inl rfl)
  · rw [c3_0, cond_false] at hD
    refine k_runB (pc' := 9) (loc' := [(0, .int x0)]) (st' := [.int 122, .int x0]) 2 rfl ?_
    refine k_ic rfl (fun c9_1 => ?_) (fun c9_1 => ?_)
    · rw [c9_1, cond_true] at hD
      refine k_runB (pc' := 17) (loc' := [(0, .int x0)]) (st' := [.int 0]) 1 rfl ?_
      cases hD
      exact k_zret rfl rfl (Or.inl rfl)
    · rw [c9_1, cond_false] at hD
      refine k_runB (pc' := 17) (loc' := [(0, .int x0)]) (st' := [.int 1]) 2 rfl ?_
      cases hD
      exact k_zret rfl rfl (Or.inr rfl)
/-- SleepWork$Scanner.isDigit(I)Z  -/
def e_Scanner_isDigit (P : Nat → Nat → Nat) (F : Nat → Nat → Int32) (A : Nat → Nat → Nat → Int32) (J : Nat → Nat → Nat → Int64) (x0 : Int32) : Option (Int32) :=
  cond (g_cnd .lt x0 48)
  (some (0))
  (cond (g_cnd .gt x0 57)
  (some (0))
  (some (1)))
set_option maxRecDepth 10000 in
theorem t_e_Scanner_isDigit {P : Nat → Nat → Nat} {F : Nat → Nat → Int32} {A : Nat → Nat → Nat → Int32} {J : Nat → Nat → Nat → Int64} {x0 : Int32}  {w : Int32} : e_Scanner_isDigit P F A J x0 = some w → k_run t lg (d) 73 0 [(0, .int x0)] [] (c_h c B P F A J) (some (.int w), c_h c B P F A J) := by
  intro hD
  unfold e_Scanner_isDigit at hD
  refine k_runB (pc' := 3) (loc' := [(0, .int x0)]) (st' := [.int 48, .int x0]) 2 rfl ?_
  refine k_ic rfl (fun c3_0 => ?_) (fun c3_0 => ?_)
  · rw [c3_0, cond_true] at hD
    refine k_runB (pc' := 17) (loc' := [(0, .int x0)]) (st' := [.int 0]) 1 rfl ?_
    cases hD
    exact k_zret rfl rfl (Or.inl rfl)
  · rw [c3_0, cond_false] at hD
    refine k_runB (pc' := 9) (loc' := [(0, .int x0)]) (st' := [.int 57, .int x0]) 2 rfl ?_
    refine k_ic rfl (fun c9_1 => ?_) (fun c9_1 => ?_)
    · rw [c9_1, cond_true] at hD
      refine k_runB (pc' := 17) (loc' := [(0, .int x0)]) (st' := [.int 0]) 1 rfl ?_
      cases hD
      exact k_zret rfl rfl (Or.inl rfl)
    · rw [c9_1, cond_false] at hD
      refine k_runB (pc' := 17) (loc' := [(0, .int x0)]) (st' := [.int 1]) 2 rfl ?_
      cases hD
      exact k_zret rfl rfl (Or.inr rfl)
/-- java/lang/String.isLatin1()Z  -/
def e_String_isLatin1 (P : Nat → Nat → Nat) (F : Nat → Nat → Int32) (A : Nat → Nat → Nat → Int32) (J : Nat → Nat → Nat → Int64) : Option (Int32) :=
  some (1)
set_option maxRecDepth 10000 in
theorem t_e_String_isLatin1 {P : Nat → Nat → Nat} {F : Nat → Nat → Int32} {A : Nat → Nat → Nat → Int32} {J : Nat → Nat → Nat → Int64}   {w : Int32} : e_String_isLatin1 P F A J = some w → k_run t lg (d) 251 0 [(0, .float 2)] [] (c_h c B P F A J) (some (.int w), c_h c B P F A J) := by
  intro hD
  unfold e_String_isLatin1 at hD
  refine k_runB (pc' := 3) (loc' := [(0, .float 2)]) (st' := [.int 1]) 1 rfl ?_
  refine k_if rfl (fun c9 => absurd c9 (by decide)) (fun _ => ?_)
  refine k_runB (pc' := 10) (loc' := [(0, .float 2)]) (st' := [.int 0]) 2 rfl ?_
  refine k_if rfl (fun c9 => absurd c9 (by decide)) (fun _ => ?_)
  refine k_runB (pc' := 18) (loc' := [(0, .float 2)]) (st' := [.int 1]) 2 rfl ?_
  cases hD
  exact k_zret rfl rfl (Or.inr rfl)
/-- java/lang/String.coder()B  -/
def e_String_coder (P : Nat → Nat → Nat) (F : Nat → Nat → Int32) (A : Nat → Nat → Nat → Int32) (J : Nat → Nat → Nat → Int64) : Option (Int32) :=
  some (0)
set_option maxRecDepth 10000 in
theorem t_e_String_coder {P : Nat → Nat → Nat} {F : Nat → Nat → Int32} {A : Nat → Nat → Nat → Int32} {J : Nat → Nat → Nat → Int64}   {w : Int32} : e_String_coder P F A J = some w → k_run t lg (d) 250 0 [(0, .float 2)] [] (c_h c B P F A J) (some (.int w), c_h c B P F A J) := by
  intro hD
  unfold e_String_coder at hD
  refine k_runB (pc' := 3) (loc' := [(0, .float 2)]) (st' := [.int 1]) 1 rfl ?_
  refine k_if rfl (fun c9 => absurd c9 (by decide)) (fun _ => ?_)
  refine k_runB (pc' := 14) (loc' := [(0, .float 2)]) (st' := [.int 0]) 3 rfl ?_
  cases hD
  exact k_nret rfl rfl (by decide)
/-- java/lang/String.length()I  -/
def e_String_length (P : Nat → Nat → Nat) (F : Nat → Nat → Int32) (A : Nat → Nat → Nat → Int32) (J : Nat → Nat → Nat → Int64) : Option (Int32) :=
  some ((9 : Int32) >>> ((0 : Int32) &&& 31))
set_option maxRecDepth 10000 in
theorem t_e_String_length {P : Nat → Nat → Nat} {F : Nat → Nat → Int32} {A : Nat → Nat → Nat → Int32} {J : Nat → Nat → Nat → Int64}   {w : Int32} : e_String_length P F A J = some w → k_run t lg (d + 1) 246 0 [(0, .float 2)] [] (c_h c B P F A J) (some (.int w), c_h c B P F A J) := by
  intro hD
  unfold e_String_length at hD
  refine k_runB (pc' := 6) (loc' := [(0, .float 2)]) (st' := [.float 2, .int 9]) 4 rfl ?_
  refine k_runC rfl rfl rfl rfl (t_e_String_coder (d := d) (P := P) (F := F) (A := A) (J := J) (w := 0) rfl) ?_
  refine k_runB (pc' := 10) (loc' := [(0, .float 2)]) (st' := [.int ((9 : Int32) >>> ((0 : Int32) &&& 31))]) 1 rfl ?_
  cases hD
  exact k_iret rfl rfl
/-- java/lang/StringLatin1.canEncode(I)Z  -/
def e_StringLatin1_canEncode (P : Nat → Nat → Nat) (F : Nat → Nat → Int32) (A : Nat → Nat → Nat → Int32) (J : Nat → Nat → Nat → Int64) (x0 : Int32) : Option (Int32) :=
  cond (g_cnd .lt x0 0)
  (some (0))
  (cond (g_cnd .gt x0 255)
  (some (0))
  (some (1)))
set_option maxRecDepth 10000 in
theorem t_e_StringLatin1_canEncode {P : Nat → Nat → Nat} {F : Nat → Nat → Int32} {A : Nat → Nat → Nat → Int32} {J : Nat → Nat → Nat → Int64} {x0 : Int32}  {w : Int32} : e_StringLatin1_canEncode P F A J x0 = some w → k_run t lg (d) 255 0 [(0, .int x0)] [] (c_h c B P F A J) (some (.int w), c_h c B P F A J) := by
  intro hD
  unfold e_StringLatin1_canEncode at hD
  refine k_runB (pc' := 1) (loc' := [(0, .int x0)]) (st' := [.int x0]) 1 rfl ?_
  refine k_if rfl (fun c1_0 => ?_) (fun c1_0 => ?_)
  · rw [c1_0, cond_true] at hD
    refine k_runB (pc' := 16) (loc' := [(0, .int x0)]) (st' := [.int 0]) 1 rfl ?_
    cases hD
    exact k_zret rfl rfl (Or.inl rfl)
  · rw [c1_0, cond_false] at hD
    refine k_runB (pc' := 8) (loc' := [(0, .int x0)]) (st' := [.int 255, .int x0]) 2 rfl ?_
    refine k_ic rfl (fun c8_1 => ?_) (fun c8_1 => ?_)
    · rw [c8_1, cond_true] at hD
      refine k_runB (pc' := 16) (loc' := [(0, .int x0)]) (st' := [.int 0]) 1 rfl ?_
      cases hD
      exact k_zret rfl rfl (Or.inl rfl)
    · rw [c8_1, cond_false] at hD
      refine k_runB (pc' := 16) (loc' := [(0, .int x0)]) (st' := [.int 1]) 2 rfl ?_
      cases hD
      exact k_zret rfl rfl (Or.inr rfl)
def e_StringLatin1_indexOfChar_7 : Nat → (Nat → Nat → Nat) → (Nat → Nat → Int32) → (Nat → Nat → Nat → Int32) → (Nat → Nat → Nat → Int64) → Int32 → Int32 → Int32 → Option (Int32)
  | 0, _, _, _, _, _, _, _ => none
  | n + 1, P, F, A, J, x3, x4, x5 => cond (g_cnd .ge x5 x3)
    (some ((-1)))
    ((m_ld (c_tx 1) 9 x5).bind fun v2 =>
    cond (g_cnd .ne v2 x4)
    ((e_StringLatin1_indexOfChar_7 n) P F A J x3 x4 (x5 + 1))
    (some (x5)))
set_option maxRecDepth 10000 in
theorem t_e_StringLatin1_indexOfChar_7 {n : Nat}  {P : Nat → Nat → Nat} {F : Nat → Nat → Int32} {A : Nat → Nat → Nat → Int32} {J : Nat → Nat → Nat → Int64} {x3 : Int32} {x4 : Int32} {x5 : Int32}  {w : Int32} : e_StringLatin1_indexOfChar_7 n P F A J x3 x4 x5 = some w → k_run t lg (d) 257 7 [(0, .float 4), (3, .int x3), (4, .int x4), (5, .int x5)] [] (c_h c B P F A J) (some (.int w), c_h c B P F A J) := by
  induction n generalizing P F A J x3 x4 x5 w with
  | zero => intro hD; cases hD
  | succ n ih =>
    intro hD
    have hK7 : ∀ (P : Nat → Nat → Nat) (F : Nat → Nat → Int32) (A : Nat → Nat → Nat → Int32) (J : Nat → Nat → Nat → Int64) (x3 : Int32) (x4 : Int32) (x5 : Int32) (w : Int32), e_StringLatin1_indexOfChar_7 n P F A J x3 x4 x5 = some w → k_run t lg (d) 257 7 [(0, .float 4), (3, .int x3), (4, .int x4), (5, .int x5)] [] (c_h c B P F A J) (some (.int w), c_h c B P F A J) := fun _ _ _ _ _ _ _ _  h => ih  h
    unfold e_StringLatin1_indexOfChar_7 at hD
    refine k_runB (pc' := 10) (loc' := [(0, .float 4), (3, .int x3), (4, .int x4), (5, .int x5)]) (st' := [.int x3, .int x5]) 2 rfl ?_
    refine k_ic rfl (fun c10_0 => ?_) (fun c10_0 => ?_)
    · rw [c10_0, cond_true] at hD
      refine k_runB (pc' := 32) (loc' := [(0, .float 4), (3, .int x3), (4, .int x4), (5, .int x5)]) (st' := [.int ((-1))]) 1 rfl ?_
      cases hD
      exact k_iret rfl rfl
    · rw [c10_0, cond_false] at hD
      refine k_runB (pc' := 16) (loc' := [(0, .float 4), (3, .int x3), (4, .int x4), (5, .int x5)]) (st' := [.int x5, .float 4]) 2 rfl ?_
      obtain ⟨v2, hv2, hD⟩ := Option.bind_eq_some_iff.mp hD
      refine k_tbl 1 rfl rfl hv2 ?_
      refine k_runB (pc' := 19) (loc' := [(0, .float 4), (3, .int x3), (4, .int x4), (5, .int x5)]) (st' := [.int x4, .int v2]) 1 rfl ?_
      refine k_ic rfl (fun c19_2 => ?_) (fun c19_2 => ?_)
      · rw [c19_2, cond_true] at hD
        refine k_runB (pc' := 7) (loc' := [(0, .float 4), (3, .int x3), (4, .int x4), (5, .int (x5 + 1))]) (st' := []) 2 rfl ?_
        refine k_wk [0, 3, 4, 5] (loc' := [(0, .float 4), (3, .int x3), (4, .int x4), (5, .int (x5 + 1))]) rfl rfl ?_
        exact hK7 _ _ _ _ _ _ _ _  hD
      · rw [c19_2, cond_false] at hD
        refine k_runB (pc' := 24) (loc' := [(0, .float 4), (3, .int x3), (4, .int x4), (5, .int x5)]) (st' := [.int x5]) 1 rfl ?_
        cases hD
        exact k_iret rfl rfl
/-- java/lang/StringLatin1.indexOfChar([BIII)I  -/
def e_StringLatin1_indexOfChar (n : Nat) (P : Nat → Nat → Nat) (F : Nat → Nat → Int32) (A : Nat → Nat → Nat → Int32) (J : Nat → Nat → Nat → Int64) (x1 : Int32) (x2 : Int32) (x3 : Int32) : Option (Int32) :=
  e_StringLatin1_indexOfChar_7 n P F A J x3 x1.toInt8.toInt32 x2
set_option maxRecDepth 10000 in
theorem t_e_StringLatin1_indexOfChar {n : Nat} {P : Nat → Nat → Nat} {F : Nat → Nat → Int32} {A : Nat → Nat → Nat → Int32} {J : Nat → Nat → Nat → Int64} {x1 : Int32} {x2 : Int32} {x3 : Int32}  {w : Int32} : e_StringLatin1_indexOfChar n P F A J x1 x2 x3 = some w → k_run t lg (d) 257 0 [(0, .float 4), (1, .int x1), (2, .int x2), (3, .int x3)] [] (c_h c B P F A J) (some (.int w), c_h c B P F A J) := by
  intro hD
  unfold e_StringLatin1_indexOfChar at hD
  refine k_runB (pc' := 7) (loc' := [(0, .float 4), (1, .int x1), (2, .int x2), (3, .int x3), (4, .int (x1.toInt8.toInt32)), (5, .int x2)]) (st' := []) 5 rfl ?_
  refine k_wk [0, 3, 4, 5] (loc' := [(0, .float 4), (3, .int x3), (4, .int (x1.toInt8.toInt32)), (5, .int x2)]) rfl rfl ?_
  exact t_e_StringLatin1_indexOfChar_7   hD
/-- java/lang/StringLatin1.indexOf([BIII)I  -/
def e_StringLatin1_indexOf (n : Nat) (P : Nat → Nat → Nat) (F : Nat → Nat → Int32) (A : Nat → Nat → Nat → Int32) (J : Nat → Nat → Nat → Int64) (x1 : Int32) (x2 : Int32) (x3 : Int32) : Option (Int32) :=
  (e_StringLatin1_canEncode P F A J x1).bind fun v1 =>
  cond (g_cnd .ne v1 0)
  (cond (g_cnd .lt (if x2 < 0 then 0 else x2) (if 9 < x3 then 9 else x3))
  ((e_StringLatin1_indexOfChar n P F A J x1 (if x2 < 0 then 0 else x2) (if 9 < x3 then 9 else x3)).bind fun v4 =>
  some (v4))
  (some ((-1))))
  (some ((-1)))
set_option maxRecDepth 10000 in
theorem t_e_StringLatin1_indexOf {n : Nat} {P : Nat → Nat → Nat} {F : Nat → Nat → Int32} {A : Nat → Nat → Nat → Int32} {J : Nat → Nat → Nat → Int64} {x1 : Int32} {x2 : Int32} {x3 : Int32}  {w : Int32} : e_StringLatin1_indexOf n P F A J x1 x2 x3 = some w → k_run t lg (d + 1) 256 0 [(0, .float 4), (1, .int x1), (2, .int x2), (3, .int x3)] [] (c_h c B P F A J) (some (.int w), c_h c B P F A J) := by
  intro hD
  unfold e_StringLatin1_indexOf at hD
  refine k_runB (pc' := 1) (loc' := [(0, .float 4), (1, .int x1), (2, .int x2), (3, .int x3)]) (st' := [.int x1]) 1 rfl ?_
  obtain ⟨v1, hv1, hD⟩ := Option.bind_eq_some_iff.mp hD
  refine k_runC rfl rfl rfl rfl (t_e_StringLatin1_canEncode (d := d) hv1) ?_
  refine k_if rfl (fun c4_1 => ?_) (fun c4_1 => ?_)
  · rw [c4_1, cond_true] at hD
    refine k_runB (pc' := 24) (loc' := [(0, .float 4), (1, .int x1), (2, .int (if x2 < 0 then 0 else x2)), (3, .int (if 9 < x3 then 9 else x3))]) (st' := [.int (if 9 < x3 then 9 else x3), .int (if x2 < 0 then 0 else x2)]) 11 rfl ?_
    refine k_ic rfl (fun c24_2 => ?_) (fun c24_2 => ?_)
    · rw [c24_2, cond_true] at hD
      refine k_runB (pc' := 33) (loc' := [(0, .float 4), (1, .int x1), (2, .int (if x2 < 0 then 0 else x2)), (3, .int (if 9 < x3 then 9 else x3))]) (st' := [.int (if 9 < x3 then 9 else x3), .int (if x2 < 0 then 0 else x2), .int x1, .float 4]) 4 rfl ?_
      obtain ⟨v4, hv4, hD⟩ := Option.bind_eq_some_iff.mp hD
      refine k_runC rfl rfl rfl rfl (t_e_StringLatin1_indexOfChar (d := d) hv4) ?_
      cases hD
      exact k_iret rfl rfl
    · rw [c24_2, cond_false] at hD
      refine k_runB (pc' := 28) (loc' := [(0, .float 4), (1, .int x1), (2, .int (if x2 < 0 then 0 else x2)), (3, .int (if 9 < x3 then 9 else x3))]) (st' := [.int ((-1))]) 1 rfl ?_
      cases hD
      exact k_iret rfl rfl
  · rw [c4_1, cond_false] at hD
    refine k_runB (pc' := 8) (loc' := [(0, .float 4), (1, .int x1), (2, .int x2), (3, .int x3)]) (st' := [.int ((-1))]) 1 rfl ?_
    cases hD
    exact k_iret rfl rfl
/-- java/lang/String.indexOf(II)I  -/
def e_String_indexOf_v1 (n : Nat) (P : Nat → Nat → Nat) (F : Nat → Nat → Int32) (A : Nat → Nat → Nat → Int32) (J : Nat → Nat → Nat → Int64) (x1 : Int32) (x2 : Int32) : Option (Int32) :=
  (e_String_length P F A J).bind fun v2 =>
  (e_StringLatin1_indexOf n P F A J x1 x2 v2).bind fun v3 =>
  some (v3)
set_option maxRecDepth 10000 in
theorem t_e_String_indexOf_v1 {n : Nat} {P : Nat → Nat → Nat} {F : Nat → Nat → Int32} {A : Nat → Nat → Nat → Int32} {J : Nat → Nat → Nat → Int64} {x1 : Int32} {x2 : Int32}  {w : Int32} : e_String_indexOf_v1 n P F A J x1 x2 = some w → k_run t lg (d + 2) 249 0 [(0, .float 2), (1, .int x1), (2, .int x2)] [] (c_h c B P F A J) (some (.int w), c_h c B P F A J) := by
  intro hD
  unfold e_String_indexOf_v1 at hD
  refine k_runB (pc' := 1) (loc' := [(0, .float 2), (1, .int x1), (2, .int x2)]) (st' := [.float 2]) 1 rfl ?_
  refine k_runC rfl rfl rfl rfl (t_e_String_isLatin1 (d := d + 1) (P := P) (F := F) (A := A) (J := J) (w := 1) rfl) ?_
  refine k_if rfl (fun c9 => absurd c9 (by decide)) (fun _ => ?_)
  refine k_runB (pc' := 14) (loc' := [(0, .float 2), (1, .int x1), (2, .int x2)]) (st' := [.float 2, .int x2, .int x1, .float 4]) 5 rfl ?_
  obtain ⟨v2, hv2, hD⟩ := Option.bind_eq_some_iff.mp hD
  refine k_runC rfl rfl rfl rfl (t_e_String_length (d := d) hv2) ?_
  obtain ⟨v3, hv3, hD⟩ := Option.bind_eq_some_iff.mp hD
  refine k_runC rfl rfl rfl rfl (t_e_StringLatin1_indexOf (d := d) hv3) ?_
  refine k_runB (pc' := 36) (loc' := [(0, .float 2), (1, .int x1), (2, .int x2)]) (st' := [.int v3]) 1 rfl ?_
  cases hD
  exact k_iret rfl rfl
/-- java/lang/String.indexOf(I)I  -/
def e_String_indexOf (n : Nat) (P : Nat → Nat → Nat) (F : Nat → Nat → Int32) (A : Nat → Nat → Nat → Int32) (J : Nat → Nat → Nat → Int64) (x1 : Int32) : Option (Int32) :=
  (e_String_indexOf_v1 n P F A J x1 0).bind fun v1 =>
  some (v1)
set_option maxRecDepth 10000 in
theorem t_e_String_indexOf {n : Nat} {P : Nat → Nat → Nat} {F : Nat → Nat → Int32} {A : Nat → Nat → Nat → Int32} {J : Nat → Nat → Nat → Int64} {x1 : Int32}  {w : Int32} : e_String_indexOf n P F A J x1 = some w → k_run t lg (d + 3) 248 0 [(0, .float 2), (1, .int x1)] [] (c_h c B P F A J) (some (.int w), c_h c B P F A J) := by
  intro hD
  unfold e_String_indexOf at hD
  refine k_runB (pc' := 3) (loc' := [(0, .float 2), (1, .int x1)]) (st' := [.int 0, .int x1, .float 2]) 3 rfl ?_
  obtain ⟨v1, hv1, hD⟩ := Option.bind_eq_some_iff.mp hD
  refine k_runC rfl rfl rfl rfl (t_e_String_indexOf_v1 (d := d) hv1) ?_
  cases hD
  exact k_iret rfl rfl
def e_Scanner_scanDigits_93 (n : Nat) (P : Nat → Nat → Nat) (F : Nat → Nat → Int32) (A : Nat → Nat → Nat → Int32) (J : Nat → Nat → Nat → Int64) (s1 : Int32) (s2 : Int32) : Option (Unit × (Nat → Nat → Nat) × (Nat → Nat → Int32) × (Nat → Nat → Nat → Int32) × (Nat → Nat → Nat → Int64)) :=
    (c_st A 37 2 401 s1 s2).bind fun A10 =>
    some ((), P, F, A10, J)
set_option maxRecDepth 10000 in
theorem t_e_Scanner_scanDigits_93 (ht : ∀ ci k, t.1 ci k = k_ty ci k) {n : Nat}  {P : Nat → Nat → Nat} {F : Nat → Nat → Int32} {A : Nat → Nat → Nat → Int32} {J : Nat → Nat → Nat → Int64} {s1 : Int32} {s2 : Int32}  {w : Unit × (Nat → Nat → Nat) × (Nat → Nat → Int32) × (Nat → Nat → Nat → Int32) × (Nat → Nat → Nat → Int64)} : e_Scanner_scanDigits_93 n P F A J s1 s2 = some w → k_run t lg (d + 1) 70 93 [(0, .ref (37 * 1024 + 1))] [.int s2, .int s1, .ref (37 * 1024 + 2)] (c_h c B P F A J) (none, c_h c B w.2.1 w.2.2.1 w.2.2.2.1 w.2.2.2.2) := by
  intro hD
  unfold e_Scanner_scanDigits_93 at hD
  obtain ⟨A10, hA10, hD⟩ := Option.bind_eq_some_iff.mp hD
  refine k_cstI 37 2 (K := 11) rfl rfl rfl rfl (fun _ => rfl) hA10 ?_
  cases hD
  exact k_vret rfl rfl
def e_Scanner_scanDigits_59 (n : Nat) (P : Nat → Nat → Nat) (F : Nat → Nat → Int32) (A : Nat → Nat → Nat → Int32) (J : Nat → Nat → Nat → Int64) (x1 : Int32) (x3 : Int32) : Option (Unit × (Nat → Nat → Nat) × (Nat → Nat → Int32) × (Nat → Nat → Nat → Int32) × (Nat → Nat → Nat → Int64)) :=
    (c_st A 37 4 401 x1 x3).bind fun A7 =>
    (m_ld (A7 37 3) 401 x1).bind fun v8 =>
    cond (g_cnd .le ((F 37 105) - v8) 4)
    (e_Scanner_scanDigits_93 n P F A7 J x1 101)
    (e_Scanner_scanDigits_93 n P F A7 J x1 103)
set_option maxRecDepth 10000 in
theorem t_e_Scanner_scanDigits_59 (ht : ∀ ci k, t.1 ci k = k_ty ci k) {n : Nat}  {P : Nat → Nat → Nat} {F : Nat → Nat → Int32} {A : Nat → Nat → Nat → Int32} {J : Nat → Nat → Nat → Int64} {x1 : Int32} {x3 : Int32}  {w : Unit × (Nat → Nat → Nat) × (Nat → Nat → Int32) × (Nat → Nat → Nat → Int32) × (Nat → Nat → Nat → Int64)} : e_Scanner_scanDigits_59 n P F A J x1 x3 = some w → k_run t lg (d + 1) 70 59 [(0, .ref (37 * 1024 + 1)), (1, .int x1), (3, .int x3)] [] (c_h c B P F A J) (none, c_h c B w.2.1 w.2.2.1 w.2.2.2.1 w.2.2.2.2) := by
  intro hD
  unfold e_Scanner_scanDigits_59 at hD
  refine k_runB (pc' := 60) (loc' := [(0, .ref (37 * 1024 + 1)), (1, .int x1), (3, .int x3)]) (st' := [.ref (37 * 1024 + 1)]) 1 rfl ?_
  refine k_gf 37 1 (K := 11) rfl rfl rfl rfl rfl ?_
  refine k_runB (pc' := 65) (loc' := [(0, .ref (37 * 1024 + 1)), (1, .int x1), (3, .int x3)]) (st' := [.int x3, .int x1, .ref (37 * 1024 + 4)]) 2 rfl ?_
  obtain ⟨A7, hA7, hD⟩ := Option.bind_eq_some_iff.mp hD
  refine k_cstI 37 4 (K := 11) rfl rfl rfl rfl (fun _ => rfl) hA7 ?_
  refine k_runB (pc' := 67) (loc' := [(0, .ref (37 * 1024 + 1)), (1, .int x1), (3, .int x3)]) (st' := [.ref (37 * 1024 + 1)]) 1 rfl ?_
  refine k_gf 37 1 (K := 11) rfl rfl rfl rfl rfl ?_
  refine k_runB (pc' := 72) (loc' := [(0, .ref (37 * 1024 + 1)), (1, .int x1), (3, .int x3)]) (st' := [.ref (37 * 1024 + 1), .int x1, .ref (37 * 1024 + 2)]) 2 rfl ?_
  refine k_gf 37 1 (K := 11) rfl rfl rfl rfl rfl ?_
  refine k_runB (pc' := 76) (loc' := [(0, .ref (37 * 1024 + 1)), (1, .int x1), (3, .int x3)]) (st' := [.ref (37 * 1024 + 1), .int (F 37 105), .int x1, .ref (37 * 1024 + 2)]) 1 rfl ?_
  refine k_gf 37 1 (K := 11) rfl rfl rfl rfl rfl ?_
  refine k_runB (pc' := 80) (loc' := [(0, .ref (37 * 1024 + 1)), (1, .int x1), (3, .int x3)]) (st' := [.int x1, .ref (37 * 1024 + 3), .int (F 37 105), .int x1, .ref (37 * 1024 + 2)]) 1 rfl ?_
  obtain ⟨v8, hv8, hD⟩ := Option.bind_eq_some_iff.mp hD
  refine k_ldI rfl (c_get (r := 37) (o := 3) (K := 11) rfl (by decide)) hv8 ?_
  refine k_runB (pc' := 83) (loc' := [(0, .ref (37 * 1024 + 1)), (1, .int x1), (3, .int x3)]) (st' := [.int 4, .int ((F 37 105) - v8), .int x1, .ref (37 * 1024 + 2)]) 2 rfl ?_
  refine k_ic rfl (fun c83_8 => ?_) (fun c83_8 => ?_)
  · rw [c83_8, cond_true] at hD
    refine k_runB (pc' := 93) (loc' := [(0, .ref (37 * 1024 + 1)), (1, .int x1), (3, .int x3)]) (st' := [.int 101, .int x1, .ref (37 * 1024 + 2)]) 1 rfl ?_
    refine k_wk [0] (loc' := [(0, .ref (37 * 1024 + 1))]) rfl rfl ?_
    exact t_e_Scanner_scanDigits_93 ht   hD
  · rw [c83_8, cond_false] at hD
    refine k_runB (pc' := 93) (loc' := [(0, .ref (37 * 1024 + 1)), (1, .int x1), (3, .int x3)]) (st' := [.int 103, .int x1, .ref (37 * 1024 + 2)]) 2 rfl ?_
    refine k_wk [0] (loc' := [(0, .ref (37 * 1024 + 1))]) rfl rfl ?_
    exact t_e_Scanner_scanDigits_93 ht   hD
def e_Scanner_scanDigits_2 : Nat → (Nat → Nat → Nat) → (Nat → Nat → Int32) → (Nat → Nat → Nat → Int32) → (Nat → Nat → Nat → Int64) → Int32 → Int32 → Option (Unit × (Nat → Nat → Nat) × (Nat → Nat → Int32) × (Nat → Nat → Nat → Int32) × (Nat → Nat → Nat → Int64))
  | 0, _, _, _, _, _, _ => none
  | n + 1, P, F, A, J, x1, x3 => cond (g_cnd .ge (F 37 105) (F 1 1))
    (e_Scanner_scanDigits_59 n P F A J x1 x3)
    ((m_ld (A 1 1) 2000 (F 37 105)).bind fun v2 =>
    (e_Scanner_isDigit P F A J v2).bind fun v3 =>
    cond (g_cnd .eq v3 0)
    (e_Scanner_scanDigits_59 n P F A J x1 x3)
    ((m_ld (A 1 1) 2000 (F 37 105)).bind fun v5 =>
    (c_pf F 37 105 ((F 37 105) + 1)).bind fun F6 =>
    (e_Scanner_scanDigits_2 n) P F6 A J x1 (((x3 * 10) + v5) - 48)))
set_option maxRecDepth 10000 in
theorem t_e_Scanner_scanDigits_2 (ht : ∀ ci k, t.1 ci k = k_ty ci k) {n : Nat}  {P : Nat → Nat → Nat} {F : Nat → Nat → Int32} {A : Nat → Nat → Nat → Int32} {J : Nat → Nat → Nat → Int64} {x1 : Int32} {x3 : Int32}  {w : Unit × (Nat → Nat → Nat) × (Nat → Nat → Int32) × (Nat → Nat → Nat → Int32) × (Nat → Nat → Nat → Int64)} : e_Scanner_scanDigits_2 n P F A J x1 x3 = some w → k_run t lg (d + 1) 70 2 [(0, .ref (37 * 1024 + 1)), (1, .int x1), (2, .ref (1 * 1024)), (3, .int x3)] [] (c_h c B P F A J) (none, c_h c B w.2.1 w.2.2.1 w.2.2.2.1 w.2.2.2.2) := by
  induction n generalizing P F A J x1 x3 w with
  | zero => intro hD; cases hD
  | succ n ih =>
    intro hD
    have hK2 : ∀ (P : Nat → Nat → Nat) (F : Nat → Nat → Int32) (A : Nat → Nat → Nat → Int32) (J : Nat → Nat → Nat → Int64) (x1 : Int32) (x3 : Int32) (w : Unit × (Nat → Nat → Nat) × (Nat → Nat → Int32) × (Nat → Nat → Nat → Int32) × (Nat → Nat → Nat → Int64)), e_Scanner_scanDigits_2 n P F A J x1 x3 = some w → k_run t lg (d + 1) 70 2 [(0, .ref (37 * 1024 + 1)), (1, .int x1), (2, .ref (1 * 1024)), (3, .int x3)] [] (c_h c B P F A J) (none, c_h c B w.2.1 w.2.2.1 w.2.2.2.1 w.2.2.2.2) := fun _ _ _ _ _ _ _  h => ih  h
    unfold e_Scanner_scanDigits_2 at hD
    refine k_runB (pc' := 3) (loc' := [(0, .ref (37 * 1024 + 1)), (1, .int x1), (2, .ref (1 * 1024)), (3, .int x3)]) (st' := [.ref (37 * 1024 + 1)]) 1 rfl ?_
    refine k_gf 37 1 (K := 11) rfl rfl rfl rfl rfl ?_
    refine k_runB (pc' := 7) (loc' := [(0, .ref (37 * 1024 + 1)), (1, .int x1), (2, .ref (1 * 1024)), (3, .int x3)]) (st' := [.ref (1 * 1024), .int (F 37 105)]) 1 rfl ?_
    refine k_gf 1 0 (K := 1) rfl rfl rfl rfl rfl ?_
    refine k_ic rfl (fun c10_0 => ?_) (fun c10_0 => ?_)
    · rw [c10_0, cond_true] at hD
      refine k_wk [0, 1, 3] (loc' := [(0, .ref (37 * 1024 + 1)), (1, .int x1), (3, .int x3)]) rfl rfl ?_
      exact t_e_Scanner_scanDigits_59 ht   hD
    · rw [c10_0, cond_false] at hD
      refine k_runB (pc' := 14) (loc' := [(0, .ref (37 * 1024 + 1)), (1, .int x1), (2, .ref (1 * 1024)), (3, .int x3)]) (st' := [.ref (1 * 1024)]) 1 rfl ?_
      refine k_gf 1 0 (K := 1) rfl rfl rfl rfl rfl ?_
      refine k_runB (pc' := 18) (loc' := [(0, .ref (37 * 1024 + 1)), (1, .int x1), (2, .ref (1 * 1024)), (3, .int x3)]) (st' := [.ref (37 * 1024 + 1), .ref (1 * 1024 + 1)]) 1 rfl ?_
      refine k_gf 37 1 (K := 11) rfl rfl rfl rfl rfl ?_
      obtain ⟨v2, hv2, hD⟩ := Option.bind_eq_some_iff.mp hD
      refine k_ldB rfl (c_get (r := 1) (o := 1) (K := 1) rfl (by decide)) hv2 ?_
      obtain ⟨v3, hv3, hD⟩ := Option.bind_eq_some_iff.mp hD
      refine k_runC rfl rfl rfl rfl (t_e_Scanner_isDigit (d := d) hv3) ?_
      refine k_if rfl (fun c25_3 => ?_) (fun c25_3 => ?_)
      · rw [c25_3, cond_true] at hD
        refine k_wk [0, 1, 3] (loc' := [(0, .ref (37 * 1024 + 1)), (1, .int x1), (3, .int x3)]) rfl rfl ?_
        exact t_e_Scanner_scanDigits_59 ht   hD
      · rw [c25_3, cond_false] at hD
        refine k_runB (pc' := 33) (loc' := [(0, .ref (37 * 1024 + 1)), (1, .int x1), (2, .ref (1 * 1024)), (3, .int x3)]) (st' := [.ref (1 * 1024), .int (x3 * 10)]) 4 rfl ?_
        refine k_gf 1 0 (K := 1) rfl rfl rfl rfl rfl ?_
        refine k_runB (pc' := 37) (loc' := [(0, .ref (37 * 1024 + 1)), (1, .int x1), (2, .ref (1 * 1024)), (3, .int x3)]) (st' := [.ref (37 * 1024 + 1), .ref (1 * 1024 + 1), .int (x3 * 10)]) 1 rfl ?_
        refine k_gf 37 1 (K := 11) rfl rfl rfl rfl rfl ?_
        obtain ⟨v5, hv5, hD⟩ := Option.bind_eq_some_iff.mp hD
        refine k_ldB rfl (c_get (r := 1) (o := 1) (K := 1) rfl (by decide)) hv5 ?_
        refine k_runB (pc' := 48) (loc' := [(0, .ref (37 * 1024 + 1)), (1, .int x1), (2, .ref (1 * 1024)), (3, .int (((x3 * 10) + v5) - 48))]) (st' := [.ref (37 * 1024 + 1), .ref (37 * 1024 + 1)]) 6 rfl ?_
        refine k_gf 37 1 (K := 11) rfl rfl rfl rfl rfl ?_
        refine k_runB (pc' := 53) (loc' := [(0, .ref (37 * 1024 + 1)), (1, .int x1), (2, .ref (1 * 1024)), (3, .int (((x3 * 10) + v5) - 48))]) (st' := [.int ((F 37 105) + 1), .ref (37 * 1024 + 1)]) 2 rfl ?_
        obtain ⟨F6, hF6, hD⟩ := Option.bind_eq_some_iff.mp hD
        refine k_cpt 37 1 (K := 11) (key := 105) rfl rfl (ht 5 5) rfl rfl rfl hF6 ?_
        refine k_runB (pc' := 2) (loc' := [(0, .ref (37 * 1024 + 1)), (1, .int x1), (2, .ref (1 * 1024)), (3, .int (((x3 * 10) + v5) - 48))]) (st' := []) 1 rfl ?_
        refine k_wk [0, 1, 2, 3] (loc' := [(0, .ref (37 * 1024 + 1)), (1, .int x1), (2, .ref (1 * 1024)), (3, .int (((x3 * 10) + v5) - 48))]) rfl rfl ?_
        exact hK2 _ _ _ _ _ _ _  hD
/-- SleepWork$Scanner.scanDigits(ILSleepWork$Tape;)V  -/
def e_Scanner_scanDigits (n : Nat) (P : Nat → Nat → Nat) (F : Nat → Nat → Int32) (A : Nat → Nat → Nat → Int32) (J : Nat → Nat → Nat → Int64) (x1 : Int32) : Option (Unit × (Nat → Nat → Nat) × (Nat → Nat → Int32) × (Nat → Nat → Nat → Int32) × (Nat → Nat → Nat → Int64)) :=
  e_Scanner_scanDigits_2 n P F A J x1 0
set_option maxRecDepth 10000 in
theorem t_e_Scanner_scanDigits (ht : ∀ ci k, t.1 ci k = k_ty ci k) {n : Nat} {P : Nat → Nat → Nat} {F : Nat → Nat → Int32} {A : Nat → Nat → Nat → Int32} {J : Nat → Nat → Nat → Int64} {x1 : Int32}  {w : Unit × (Nat → Nat → Nat) × (Nat → Nat → Int32) × (Nat → Nat → Nat → Int32) × (Nat → Nat → Nat → Int64)} : e_Scanner_scanDigits n P F A J x1 = some w → k_run t lg (d + 1) 70 0 [(0, .ref (37 * 1024 + 1)), (1, .int x1), (2, .ref (1 * 1024))] [] (c_h c B P F A J) (none, c_h c B w.2.1 w.2.2.1 w.2.2.2.1 w.2.2.2.2) := by
  intro hD
  unfold e_Scanner_scanDigits at hD
  refine k_runB (pc' := 2) (loc' := [(0, .ref (37 * 1024 + 1)), (1, .int x1), (2, .ref (1 * 1024)), (3, .int 0)]) (st' := []) 2 rfl ?_
  refine k_wk [0, 1, 2, 3] (loc' := [(0, .ref (37 * 1024 + 1)), (1, .int x1), (2, .ref (1 * 1024)), (3, .int 0)]) rfl rfl ?_
  exact t_e_Scanner_scanDigits_2 ht   hD
end MC
