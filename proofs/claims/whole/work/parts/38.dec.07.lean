/-! the class's methods as functions (printed by wip/dec2.py) -/
section MC
variable {t : gT} {lg : Nat → Nat} {d : Nat} {c : Nat × Nat} {B : Nat → List gE}
/-- SleepWork$House.hasStep(II)Z  -/
def e_House_hasStep (P : Nat → Nat → Nat) (F : Nat → Nat → Int32) (A : Nat → Nat → Nat → Int32) (J : Nat → Nat → Nat → Int64) (r0 : Nat) (x1 : Int32) (x2 : Int32) : Option (Int32) :=
  cond (g_cnd .lt x1 0)
  (some (0))
  (cond (g_cnd .ge x1 (F r0 16))
  (some (0))
  (cond (g_cnd .lt x2 0)
  (some (0))
  ((m_ld (A r0 5) 6 x1).bind fun v4 =>
  cond (g_cnd .ge x2 v4)
  (some (0))
  (some (1)))))
set_option maxRecDepth 10000 in
theorem t_e_House_hasStep {P : Nat → Nat → Nat} {F : Nat → Nat → Int32} {A : Nat → Nat → Nat → Int32} {J : Nat → Nat → Nat → Int64} {r0 : Nat} {x1 : Int32} {x2 : Int32} (hr0 : c_kind r0 = 6) {w : Int32} : e_House_hasStep P F A J r0 x1 x2 = some w → k_run t lg (d) 23 0 [(0, .ref (r0 * 1024)), (1, .int x1), (2, .int x2)] [] (c_h c B P F A J) (some (.int w), c_h c B P F A J) := by
  intro hD
  unfold e_House_hasStep at hD
  refine k_runB (pc' := 1) (loc' := [(0, .ref (r0 * 1024)), (1, .int x1), (2, .int x2)]) (st' := [.int x1]) 1 rfl ?_
  refine k_if rfl (fun c1_0 => ?_) (fun c1_0 => ?_)
  · rw [c1_0, cond_true] at hD
    refine k_runB (pc' := 31) (loc' := [(0, .ref (r0 * 1024)), (1, .int x1), (2, .int x2)]) (st' := [.int 0]) 1 rfl ?_
    cases hD
    exact k_zret rfl rfl (Or.inl rfl)
  · rw [c1_0, cond_false] at hD
    refine k_runB (pc' := 6) (loc' := [(0, .ref (r0 * 1024)), (1, .int x1), (2, .int x2)]) (st' := [.ref (r0 * 1024), .int x1]) 2 rfl ?_
    refine k_gf r0 0 (K := 6) hr0 rfl rfl rfl rfl ?_
    refine k_ic rfl (fun c9_1 => ?_) (fun c9_1 => ?_)
    · rw [c9_1, cond_true] at hD
      refine k_runB (pc' := 31) (loc' := [(0, .ref (r0 * 1024)), (1, .int x1), (2, .int x2)]) (st' := [.int 0]) 1 rfl ?_
      cases hD
      exact k_zret rfl rfl (Or.inl rfl)
    · rw [c9_1, cond_false] at hD
      refine k_runB (pc' := 13) (loc' := [(0, .ref (r0 * 1024)), (1, .int x1), (2, .int x2)]) (st' := [.int x2]) 1 rfl ?_
      refine k_if rfl (fun c13_2 => ?_) (fun c13_2 => ?_)
      · rw [c13_2, cond_true] at hD
        refine k_runB (pc' := 31) (loc' := [(0, .ref (r0 * 1024)), (1, .int x1), (2, .int x2)]) (st' := [.int 0]) 1 rfl ?_
        cases hD
        exact k_zret rfl rfl (Or.inl rfl)
      · rw [c13_2, cond_false] at hD
        refine k_runB (pc' := 18) (loc' := [(0, .ref (r0 * 1024)), (1, .int x1), (2, .int x2)]) (st' := [.ref (r0 * 1024), .int x2]) 2 rfl ?_
        refine k_gf r0 0 (K := 6) hr0 rfl rfl rfl rfl ?_
        refine k_runB (pc' := 22) (loc' := [(0, .ref (r0 * 1024)), (1, .int x1), (2, .int x2)]) (st' := [.int x1, .ref (r0 * 1024 + 5), .int x2]) 1 rfl ?_
        obtain ⟨v4, hv4, hD⟩ := Option.bind_eq_some_iff.mp hD
        refine k_ldI rfl (c_get (r := r0) (o := 5) (K := 6) hr0 (by decide)) hv4 ?_
        refine k_ic rfl (fun c23_4 => ?_) (fun c23_4 => ?_)
        · rw [c23_4, cond_true] at hD
          refine k_runB (pc' := 31) (loc' := [(0, .ref (r0 * 1024)), (1, .int x1), (2, .int x2)]) (st' := [.int 0]) 1 rfl ?_
          cases hD
          exact k_zret rfl rfl (Or.inl rfl)
        · rw [c23_4, cond_false] at hD
          refine k_runB (pc' := 31) (loc' := [(0, .ref (r0 * 1024)), (1, .int x1), (2, .int x2)]) (st' := [.int 1]) 2 rfl ?_
          cases hD
          exact k_zret rfl rfl (Or.inr rfl)
/-- SleepWork$Laws.add(II)I  -/
def e_Laws_add (P : Nat → Nat → Nat) (F : Nat → Nat → Int32) (A : Nat → Nat → Nat → Int32) (J : Nat → Nat → Nat → Int64) (r0 : Nat) (x1 : Int32) (x2 : Int32) : Option (Int32 × (Nat → Nat → Nat) × (Nat → Nat → Int32) × (Nat → Nat → Nat → Int32) × (Nat → Nat → Nat → Int64)) :=
  cond (g_cnd .ge (F r0 1304) 400)
  (some ((F r0 1304) - 1, P, F, A, J))
  ((c_st A r0 15 400 (F r0 1304) x1).bind fun A2 =>
  (c_st A2 r0 16 400 (F r0 1304) x2).bind fun A3 =>
  (c_pf F r0 1304 ((F r0 1304) + 1)).bind fun F4 =>
  some ((F4 r0 1304) - 1, P, F4, A3, J))
set_option maxRecDepth 10000 in
theorem t_e_Laws_add (ht : ∀ ci k, t.1 ci k = k_ty ci k) {P : Nat → Nat → Nat} {F : Nat → Nat → Int32} {A : Nat → Nat → Nat → Int32} {J : Nat → Nat → Nat → Int64} {r0 : Nat} {x1 : Int32} {x2 : Int32} (hr0 : c_kind r0 = 6) {w : Int32 × (Nat → Nat → Nat) × (Nat → Nat → Int32) × (Nat → Nat → Nat → Int32) × (Nat → Nat → Nat → Int64)} : e_Laws_add P F A J r0 x1 x2 = some w → k_run t lg (d) 31 0 [(0, .ref (r0 * 1024 + 13)), (1, .int x1), (2, .int x2)] [] (c_h c B P F A J) (some (.int w.1), c_h c B w.2.1 w.2.2.1 w.2.2.2.1 w.2.2.2.2) := by
  intro hD
  unfold e_Laws_add at hD
  refine k_runB (pc' := 1) (loc' := [(0, .ref (r0 * 1024 + 13)), (1, .int x1), (2, .int x2)]) (st' := [.ref (r0 * 1024 + 13)]) 1 rfl ?_
  refine k_gf r0 13 (K := 6) hr0 rfl rfl rfl rfl ?_
  refine k_runB (pc' := 7) (loc' := [(0, .ref (r0 * 1024 + 13)), (1, .int x1), (2, .int x2)]) (st' := [.int 400, .int (F r0 1304)]) 1 rfl ?_
  refine k_ic rfl (fun c7_0 => ?_) (fun c7_0 => ?_)
  · rw [c7_0, cond_true] at hD
    refine k_runB (pc' := 41) (loc' := [(0, .ref (r0 * 1024 + 13)), (1, .int x1), (2, .int x2)]) (st' := [.ref (r0 * 1024 + 13)]) 1 rfl ?_
    refine k_gf r0 13 (K := 6) hr0 rfl rfl rfl rfl ?_
    refine k_runB (pc' := 46) (loc' := [(0, .ref (r0 * 1024 + 13)), (1, .int x1), (2, .int x2)]) (st' := [.int ((F r0 1304) - 1)]) 2 rfl ?_
    cases hD
    exact k_iret rfl rfl
  · rw [c7_0, cond_false] at hD
    refine k_runB (pc' := 11) (loc' := [(0, .ref (r0 * 1024 + 13)), (1, .int x1), (2, .int x2)]) (st' := [.ref (r0 * 1024 + 13)]) 1 rfl ?_
    refine k_gf r0 13 (K := 6) hr0 rfl rfl rfl rfl ?_
    refine k_runB (pc' := 15) (loc' := [(0, .ref (r0 * 1024 + 13)), (1, .int x1), (2, .int x2)]) (st' := [.ref (r0 * 1024 + 13), .ref (r0 * 1024 + 15)]) 1 rfl ?_
    refine k_gf r0 13 (K := 6) hr0 rfl rfl rfl rfl ?_
    refine k_runB (pc' := 19) (loc' := [(0, .ref (r0 * 1024 + 13)), (1, .int x1), (2, .int x2)]) (st' := [.int x1, .int (F r0 1304), .ref (r0 * 1024 + 15)]) 1 rfl ?_
    obtain ⟨A2, hA2, hD⟩ := Option.bind_eq_some_iff.mp hD
    refine k_cstI r0 15 (K := 6) hr0 rfl rfl rfl (fun _ => rfl) hA2 ?_
    refine k_runB (pc' := 21) (loc' := [(0, .ref (r0 * 1024 + 13)), (1, .int x1), (2, .int x2)]) (st' := [.ref (r0 * 1024 + 13)]) 1 rfl ?_
    refine k_gf r0 13 (K := 6) hr0 rfl rfl rfl rfl ?_
    refine k_runB (pc' := 25) (loc' := [(0, .ref (r0 * 1024 + 13)), (1, .int x1), (2, .int x2)]) (st' := [.ref (r0 * 1024 + 13), .ref (r0 * 1024 + 16)]) 1 rfl ?_
    refine k_gf r0 13 (K := 6) hr0 rfl rfl rfl rfl ?_
    refine k_runB (pc' := 29) (loc' := [(0, .ref (r0 * 1024 + 13)), (1, .int x1), (2, .int x2)]) (st' := [.int x2, .int (F r0 1304), .ref (r0 * 1024 + 16)]) 1 rfl ?_
    obtain ⟨A3, hA3, hD⟩ := Option.bind_eq_some_iff.mp hD
    refine k_cstI r0 16 (K := 6) hr0 rfl rfl rfl (fun _ => rfl) hA3 ?_
    refine k_runB (pc' := 32) (loc' := [(0, .ref (r0 * 1024 + 13)), (1, .int x1), (2, .int x2)]) (st' := [.ref (r0 * 1024 + 13), .ref (r0 * 1024 + 13)]) 2 rfl ?_
    refine k_gf r0 13 (K := 6) hr0 rfl rfl rfl rfl ?_
    refine k_runB (pc' := 37) (loc' := [(0, .ref (r0 * 1024 + 13)), (1, .int x1), (2, .int x2)]) (st' := [.int ((F r0 1304) + 1), .ref (r0 * 1024 + 13)]) 2 rfl ?_
    obtain ⟨F4, hF4, hD⟩ := Option.bind_eq_some_iff.mp hD
    refine k_cpt r0 13 (K := 6) (key := 1304) hr0 rfl (ht 2 4) rfl rfl rfl hF4 ?_
    refine k_runB (pc' := 41) (loc' := [(0, .ref (r0 * 1024 + 13)), (1, .int x1), (2, .int x2)]) (st' := [.ref (r0 * 1024 + 13)]) 1 rfl ?_
    refine k_gf r0 13 (K := 6) hr0 rfl rfl rfl rfl ?_
    refine k_runB (pc' := 46) (loc' := [(0, .ref (r0 * 1024 + 13)), (1, .int x1), (2, .int x2)]) (st' := [.int ((F4 r0 1304) - 1)]) 2 rfl ?_
    cases hD
    exact k_iret rfl rfl
/-- SleepWork$Laws.aimHere(I)V  -/
def e_Laws_aimHere (P : Nat → Nat → Nat) (F : Nat → Nat → Int32) (A : Nat → Nat → Nat → Int32) (J : Nat → Nat → Nat → Int64) (r0 : Nat) (x1 : Int32) : Option (Unit × (Nat → Nat → Nat) × (Nat → Nat → Int32) × (Nat → Nat → Nat → Int32) × (Nat → Nat → Nat → Int64)) :=
  cond (g_cnd .lt x1 0)
  (some ((), P, F, A, J))
  (cond (g_cnd .ge x1 (F r0 1304))
  (some ((), P, F, A, J))
  ((c_st A r0 16 400 x1 (F r0 1304)).bind fun A3 =>
  some ((), P, F, A3, J)))
set_option maxRecDepth 10000 in
theorem t_e_Laws_aimHere {P : Nat → Nat → Nat} {F : Nat → Nat → Int32} {A : Nat → Nat → Nat → Int32} {J : Nat → Nat → Nat → Int64} {r0 : Nat} {x1 : Int32} (hr0 : c_kind r0 = 6) {w : Unit × (Nat → Nat → Nat) × (Nat → Nat → Int32) × (Nat → Nat → Nat → Int32) × (Nat → Nat → Nat → Int64)} : e_Laws_aimHere P F A J r0 x1 = some w → k_run t lg (d) 32 0 [(0, .ref (r0 * 1024 + 13)), (1, .int x1)] [] (c_h c B P F A J) (none, c_h c B w.2.1 w.2.2.1 w.2.2.2.1 w.2.2.2.2) := by
  intro hD
  unfold e_Laws_aimHere at hD
  refine k_runB (pc' := 1) (loc' := [(0, .ref (r0 * 1024 + 13)), (1, .int x1)]) (st' := [.int x1]) 1 rfl ?_
  refine k_if rfl (fun c1_0 => ?_) (fun c1_0 => ?_)
  · rw [c1_0, cond_true] at hD
    cases hD
    exact k_vret rfl rfl
  · rw [c1_0, cond_false] at hD
    refine k_runB (pc' := 6) (loc' := [(0, .ref (r0 * 1024 + 13)), (1, .int x1)]) (st' := [.ref (r0 * 1024 + 13), .int x1]) 2 rfl ?_
    refine k_gf r0 13 (K := 6) hr0 rfl rfl rfl rfl ?_
    refine k_ic rfl (fun c9_1 => ?_) (fun c9_1 => ?_)
    · rw [c9_1, cond_true] at hD
      cases hD
      exact k_vret rfl rfl
    · rw [c9_1, cond_false] at hD
      refine k_runB (pc' := 13) (loc' := [(0, .ref (r0 * 1024 + 13)), (1, .int x1)]) (st' := [.ref (r0 * 1024 + 13)]) 1 rfl ?_
      refine k_gf r0 13 (K := 6) hr0 rfl rfl rfl rfl ?_
      refine k_runB (pc' := 18) (loc' := [(0, .ref (r0 * 1024 + 13)), (1, .int x1)]) (st' := [.ref (r0 * 1024 + 13), .int x1, .ref (r0 * 1024 + 16)]) 2 rfl ?_
      refine k_gf r0 13 (K := 6) hr0 rfl rfl rfl rfl ?_
      obtain ⟨A3, hA3, hD⟩ := Option.bind_eq_some_iff.mp hD
      refine k_cstI r0 16 (K := 6) hr0 rfl rfl rfl (fun _ => rfl) hA3 ?_
      cases hD
      exact k_vret rfl rfl
def e_Past_push_35 (P : Nat → Nat → Nat) (F : Nat → Nat → Int32) (A : Nat → Nat → Nat → Int32) (J : Nat → Nat → Nat → Int64) (r1 : Nat) : Option (Unit × (Nat → Nat → Nat) × (Nat → Nat → Int32) × (Nat → Nat → Nat → Int32) × (Nat → Nat → Nat → Int64)) :=
    (m_rem (((F 4 1) + (F 4 2)) - 1) 20).bind fun v12 =>
    (c_ar 20 5 2 v12).bind fun q13 =>
    (e_State_copy P F A J q13 r1).bind fun (_, P15, F16, A17, J18) =>
    some ((), P15, F16, A17, J18)
set_option maxRecDepth 10000 in
theorem t_e_Past_push_35 (ht : ∀ ci k, t.1 ci k = k_ty ci k)  {P : Nat → Nat → Nat} {F : Nat → Nat → Int32} {A : Nat → Nat → Nat → Int32} {J : Nat → Nat → Nat → Int64} {r1 : Nat} (hr1 : c_kind r1 = 2) {w : Unit × (Nat → Nat → Nat) × (Nat → Nat → Int32) × (Nat → Nat → Nat → Int32) × (Nat → Nat → Nat → Int64)} : e_Past_push_35 P F A J r1 = some w → k_run t lg (d + 1) 36 35 [(0, .ref (4 * 1024)), (1, .ref (r1 * 1024))] [] (c_h c B P F A J) (none, c_h c B w.2.1 w.2.2.1 w.2.2.2.1 w.2.2.2.2) := by
  intro hD
  unfold e_Past_push_35 at hD
  refine k_runB (pc' := 36) (loc' := [(0, .ref (4 * 1024)), (1, .ref (r1 * 1024))]) (st' := [.ref (4 * 1024)]) 1 rfl ?_
  refine k_gf 4 0 (K := 3) rfl rfl rfl rfl rfl ?_
  refine k_runB (pc' := 40) (loc' := [(0, .ref (4 * 1024)), (1, .ref (r1 * 1024))]) (st' := [.ref (4 * 1024), .ref (4 * 1024 + 1)]) 1 rfl ?_
  refine k_gf 4 0 (K := 3) rfl rfl rfl rfl rfl ?_
  refine k_runB (pc' := 44) (loc' := [(0, .ref (4 * 1024)), (1, .ref (r1 * 1024))]) (st' := [.ref (4 * 1024), .int (F 4 1), .ref (4 * 1024 + 1)]) 1 rfl ?_
  refine k_gf 4 0 (K := 3) rfl rfl rfl rfl rfl ?_
  refine k_runB (pc' := 52) (loc' := [(0, .ref (4 * 1024)), (1, .ref (r1 * 1024))]) (st' := [.int 20, .int (((F 4 1) + (F 4 2)) - 1), .ref (4 * 1024 + 1)]) 4 rfl ?_
  obtain ⟨v12, hv12, hD⟩ := Option.bind_eq_some_iff.mp hD
  refine k_rmI rfl hv12 ?_
  obtain ⟨q13, hq13, hD⟩ := Option.bind_eq_some_iff.mp hD
  refine k_aal 4 1 (K := 3) rfl rfl rfl rfl hq13 (fun kq13 => ?_)
  refine k_runB (pc' := 55) (loc' := [(0, .ref (4 * 1024)), (1, .ref (r1 * 1024))]) (st' := [.ref (r1 * 1024), .ref (q13 * 1024)]) 1 rfl ?_
  obtain ⟨⟨v14, P15, F16, A17, J18⟩, hv14, hD⟩ := Option.bind_eq_some_iff.mp hD
  dsimp only at hD
  refine k_runV rfl rfl rfl (c_get (r := q13) (o := 0) (K := 2) kq13 (by decide)) rfl rfl (t_e_State_copy (d := d) ht kq13 hr1 hv14) ?_
  cases hD
  exact k_vret rfl rfl
/-- SleepWork$Past.push(LSleepWork$State;)V  -/
def e_Past_push (P : Nat → Nat → Nat) (F : Nat → Nat → Int32) (A : Nat → Nat → Nat → Int32) (J : Nat → Nat → Nat → Int64) (r1 : Nat) : Option (Unit × (Nat → Nat → Nat) × (Nat → Nat → Int32) × (Nat → Nat → Nat → Int32) × (Nat → Nat → Nat → Int64)) :=
  cond (g_cnd .ne (F 4 2) 20)
  ((c_pf F 4 2 ((F 4 2) + 1)).bind fun F2 =>
  (m_rem (((F2 4 1) + (F2 4 2)) - 1) 20).bind fun v3 =>
  (c_ar 20 5 2 v3).bind fun q4 =>
  (e_State_copy P F2 A J q4 r1).bind fun (_, P6, F7, A8, J9) =>
  some ((), P6, F7, A8, J9))
  ((m_rem ((F 4 1) + 1) 20).bind fun v10 =>
  (c_pf F 4 1 v10).bind fun F11 =>
  e_Past_push_35 P F11 A J r1)
set_option maxRecDepth 10000 in
theorem t_e_Past_push (ht : ∀ ci k, t.1 ci k = k_ty ci k) {P : Nat → Nat → Nat} {F : Nat → Nat → Int32} {A : Nat → Nat → Nat → Int32} {J : Nat → Nat → Nat → Int64} {r1 : Nat} (hr1 : c_kind r1 = 2) {w : Unit × (Nat → Nat → Nat) × (Nat → Nat → Int32) × (Nat → Nat → Nat → Int32) × (Nat → Nat → Nat → Int64)} : e_Past_push P F A J r1 = some w → k_run t lg (d + 1) 36 0 [(0, .ref (4 * 1024)), (1, .ref (r1 * 1024))] [] (c_h c B P F A J) (none, c_h c B w.2.1 w.2.2.1 w.2.2.2.1 w.2.2.2.2) := by
  intro hD
  unfold e_Past_push at hD
  refine k_runB (pc' := 1) (loc' := [(0, .ref (4 * 1024)), (1, .ref (r1 * 1024))]) (st' := [.ref (4 * 1024)]) 1 rfl ?_
  refine k_gf 4 0 (K := 3) rfl rfl rfl rfl rfl ?_
  refine k_runB (pc' := 6) (loc' := [(0, .ref (4 * 1024)), (1, .ref (r1 * 1024))]) (st' := [.int 20, .int (F 4 2)]) 1 rfl ?_
  refine k_ic rfl (fun c6_0 => ?_) (fun c6_0 => ?_)
  · rw [c6_0, cond_true] at hD
    refine k_runB (pc' := 27) (loc' := [(0, .ref (4 * 1024)), (1, .ref (r1 * 1024))]) (st' := [.ref (4 * 1024), .ref (4 * 1024)]) 2 rfl ?_
    refine k_gf 4 0 (K := 3) rfl rfl rfl rfl rfl ?_
    refine k_runB (pc' := 32) (loc' := [(0, .ref (4 * 1024)), (1, .ref (r1 * 1024))]) (st' := [.int ((F 4 2) + 1), .ref (4 * 1024)]) 2 rfl ?_
    obtain ⟨F2, hF2, hD⟩ := Option.bind_eq_some_iff.mp hD
    refine k_cpt 4 0 (K := 3) (key := 2) rfl rfl (ht 3 2) rfl rfl rfl hF2 ?_
    refine k_runB (pc' := 36) (loc' := [(0, .ref (4 * 1024)), (1, .ref (r1 * 1024))]) (st' := [.ref (4 * 1024)]) 1 rfl ?_
    refine k_gf 4 0 (K := 3) rfl rfl rfl rfl rfl ?_
    refine k_runB (pc' := 40) (loc' := [(0, .ref (4 * 1024)), (1, .ref (r1 * 1024))]) (st' := [.ref (4 * 1024), .ref (4 * 1024 + 1)]) 1 rfl ?_
    refine k_gf 4 0 (K := 3) rfl rfl rfl rfl rfl ?_
    refine k_runB (pc' := 44) (loc' := [(0, .ref (4 * 1024)), (1, .ref (r1 * 1024))]) (st' := [.ref (4 * 1024), .int (F2 4 1), .ref (4 * 1024 + 1)]) 1 rfl ?_
    refine k_gf 4 0 (K := 3) rfl rfl rfl rfl rfl ?_
    refine k_runB (pc' := 52) (loc' := [(0, .ref (4 * 1024)), (1, .ref (r1 * 1024))]) (st' := [.int 20, .int (((F2 4 1) + (F2 4 2)) - 1), .ref (4 * 1024 + 1)]) 4 rfl ?_
    obtain ⟨v3, hv3, hD⟩ := Option.bind_eq_some_iff.mp hD
    refine k_rmI rfl hv3 ?_
    obtain ⟨q4, hq4, hD⟩ := Option.bind_eq_some_iff.mp hD
    refine k_aal 4 1 (K := 3) rfl rfl rfl rfl hq4 (fun kq4 => ?_)
    refine k_runB (pc' := 55) (loc' := [(0, .ref (4 * 1024)), (1, .ref (r1 * 1024))]) (st' := [.ref (r1 * 1024), .ref (q4 * 1024)]) 1 rfl ?_
    obtain ⟨⟨v5, P6, F7, A8, J9⟩, hv5, hD⟩ := Option.bind_eq_some_iff.mp hD
    dsimp only at hD
    refine k_runV rfl rfl rfl (c_get (r := q4) (o := 0) (K := 2) kq4 (by decide)) rfl rfl (t_e_State_copy (d := d) ht kq4 hr1 hv5) ?_
    cases hD
    exact k_vret rfl rfl
  · rw [c6_0, cond_false] at hD
    refine k_runB (pc' := 11) (loc' := [(0, .ref (4 * 1024)), (1, .ref (r1 * 1024))]) (st' := [.ref (4 * 1024), .ref (4 * 1024)]) 2 rfl ?_
    refine k_gf 4 0 (K := 3) rfl rfl rfl rfl rfl ?_
    refine k_runB (pc' := 18) (loc' := [(0, .ref (4 * 1024)), (1, .ref (r1 * 1024))]) (st' := [.int 20, .int ((F 4 1) + 1), .ref (4 * 1024)]) 3 rfl ?_
    obtain ⟨v10, hv10, hD⟩ := Option.bind_eq_some_iff.mp hD
    refine k_rmI rfl hv10 ?_
    obtain ⟨F11, hF11, hD⟩ := Option.bind_eq_some_iff.mp hD
    refine k_cpt 4 0 (K := 3) (key := 1) rfl rfl (ht 3 1) rfl rfl rfl hF11 ?_
    refine k_runB (pc' := 35) (loc' := [(0, .ref (4 * 1024)), (1, .ref (r1 * 1024))]) (st' := []) 1 rfl ?_
    refine k_wk [0, 1] (loc' := [(0, .ref (4 * 1024)), (1, .ref (r1 * 1024))]) rfl rfl ?_
    exact t_e_Past_push_35 ht  hr1 hD
/-- SleepWork$Past.pull(LSleepWork$State;)Z  -/
def e_Past_pull (P : Nat → Nat → Nat) (F : Nat → Nat → Int32) (A : Nat → Nat → Nat → Int32) (J : Nat → Nat → Nat → Int64) (r1 : Nat) : Option (Int32 × (Nat → Nat → Nat) × (Nat → Nat → Int32) × (Nat → Nat → Nat → Int32) × (Nat → Nat → Nat → Int64)) :=
  cond (g_cnd .ne (F 4 2) 0)
  ((c_pf F 4 2 ((F 4 2) - 1)).bind fun F2 =>
  (m_rem ((F2 4 1) + (F2 4 2)) 20).bind fun v3 =>
  (c_ar 20 5 2 v3).bind fun q4 =>
  (e_State_copy P F2 A J r1 q4).bind fun (_, P6, F7, A8, J9) =>
  some (1, P6, F7, A8, J9))
  (some (0, P, F, A, J))
set_option maxRecDepth 10000 in
theorem t_e_Past_pull (ht : ∀ ci k, t.1 ci k = k_ty ci k) {P : Nat → Nat → Nat} {F : Nat → Nat → Int32} {A : Nat → Nat → Nat → Int32} {J : Nat → Nat → Nat → Int64} {r1 : Nat} (hr1 : c_kind r1 = 2) {w : Int32 × (Nat → Nat → Nat) × (Nat → Nat → Int32) × (Nat → Nat → Nat → Int32) × (Nat → Nat → Nat → Int64)} : e_Past_pull P F A J r1 = some w → k_run t lg (d + 1) 37 0 [(0, .ref (4 * 1024)), (1, .ref (r1 * 1024))] [] (c_h c B P F A J) (some (.int w.1), c_h c B w.2.1 w.2.2.1 w.2.2.2.1 w.2.2.2.2) := by
  intro hD
  unfold e_Past_pull at hD
  refine k_runB (pc' := 1) (loc' := [(0, .ref (4 * 1024)), (1, .ref (r1 * 1024))]) (st' := [.ref (4 * 1024)]) 1 rfl ?_
  refine k_gf 4 0 (K := 3) rfl rfl rfl rfl rfl ?_
  refine k_if rfl (fun c4_0 => ?_) (fun c4_0 => ?_)
  · rw [c4_0, cond_true] at hD
    refine k_runB (pc' := 11) (loc' := [(0, .ref (4 * 1024)), (1, .ref (r1 * 1024))]) (st' := [.ref (4 * 1024), .ref (4 * 1024)]) 2 rfl ?_
    refine k_gf 4 0 (K := 3) rfl rfl rfl rfl rfl ?_
    refine k_runB (pc' := 16) (loc' := [(0, .ref (4 * 1024)), (1, .ref (r1 * 1024))]) (st' := [.int ((F 4 2) - 1), .ref (4 * 1024)]) 2 rfl ?_
    obtain ⟨F2, hF2, hD⟩ := Option.bind_eq_some_iff.mp hD
    refine k_cpt 4 0 (K := 3) (key := 2) rfl rfl (ht 3 2) rfl rfl rfl hF2 ?_
    refine k_runB (pc' := 21) (loc' := [(0, .ref (4 * 1024)), (1, .ref (r1 * 1024))]) (st' := [.ref (4 * 1024), .ref (r1 * 1024)]) 2 rfl ?_
    refine k_gf 4 0 (K := 3) rfl rfl rfl rfl rfl ?_
    refine k_runB (pc' := 25) (loc' := [(0, .ref (4 * 1024)), (1, .ref (r1 * 1024))]) (st' := [.ref (4 * 1024), .ref (4 * 1024 + 1), .ref (r1 * 1024)]) 1 rfl ?_
    refine k_gf 4 0 (K := 3) rfl rfl rfl rfl rfl ?_
    refine k_runB (pc' := 29) (loc' := [(0, .ref (4 * 1024)), (1, .ref (r1 * 1024))]) (st' := [.ref (4 * 1024), .int (F2 4 1), .ref (4 * 1024 + 1), .ref (r1 * 1024)]) 1 rfl ?_
    refine k_gf 4 0 (K := 3) rfl rfl rfl rfl rfl ?_
    refine k_runB (pc' := 35) (loc' := [(0, .ref (4 * 1024)), (1, .ref (r1 * 1024))]) (st' := [.int 20, .int ((F2 4 1) + (F2 4 2)), .ref (4 * 1024 + 1), .ref (r1 * 1024)]) 2 rfl ?_
    obtain ⟨v3, hv3, hD⟩ := Option.bind_eq_some_iff.mp hD
    refine k_rmI rfl hv3 ?_
    obtain ⟨q4, hq4, hD⟩ := Option.bind_eq_some_iff.mp hD
    refine k_aal 4 1 (K := 3) rfl rfl rfl rfl hq4 (fun kq4 => ?_)
    obtain ⟨⟨v5, P6, F7, A8, J9⟩, hv5, hD⟩ := Option.bind_eq_some_iff.mp hD
    dsimp only at hD
    refine k_runV rfl rfl rfl (c_get (r := r1) (o := 0) (K := 2) hr1 (by decide)) rfl rfl (t_e_State_copy (d := d) ht hr1 kq4 hv5) ?_
    refine k_runB (pc' := 41) (loc' := [(0, .ref (4 * 1024)), (1, .ref (r1 * 1024))]) (st' := [.int 1]) 1 rfl ?_
    cases hD
    exact k_zret rfl rfl (Or.inr rfl)
  · rw [c4_0, cond_false] at hD
    refine k_runB (pc' := 8) (loc' := [(0, .ref (4 * 1024)), (1, .ref (r1 * 1024))]) (st' := [.int 0]) 1 rfl ?_
    cases hD
    exact k_zret rfl rfl (Or.inl rfl)
/-- SleepWork$State.clear()V  -/
def e_State_clear (P : Nat → Nat → Nat) (F : Nat → Nat → Int32) (A : Nat → Nat → Nat → Int32) (J : Nat → Nat → Nat → Int64) (r0 : Nat) : Option (Unit × (Nat → Nat → Nat) × (Nat → Nat → Int32) × (Nat → Nat → Nat → Int32) × (Nat → Nat → Nat → Int64)) :=
  (c_fi A r0 1 36 0).bind fun A1 =>
  (c_fi A1 r0 2 6 0).bind fun A2 =>
  (c_fi A2 r0 3 6 ((-1))).bind fun A3 =>
  (c_fi A3 r0 4 6 0).bind fun A4 =>
  (c_fi A4 r0 5 6 0).bind fun A5 =>
  (c_fi A5 r0 6 6 0).bind fun A6 =>
  (c_fi A6 r0 7 6 ((-2))).bind fun A7 =>
  (c_pf F r0 7 0).bind fun F8 =>
  (c_pf F8 r0 8 0).bind fun F9 =>
  some ((), P, F9, A7, J)
set_option maxRecDepth 10000 in
theorem t_e_State_clear (ht : ∀ ci k, t.1 ci k = k_ty ci k) {P : Nat → Nat → Nat} {F : Nat → Nat → Int32} {A : Nat → Nat → Nat → Int32} {J : Nat → Nat → Nat → Int64} {r0 : Nat} (hr0 : c_kind r0 = 2) {w : Unit × (Nat → Nat → Nat) × (Nat → Nat → Int32) × (Nat → Nat → Nat → Int32) × (Nat → Nat → Nat → Int64)} : e_State_clear P F A J r0 = some w → k_run t lg (d + 1) 84 0 [(0, .ref (r0 * 1024))] [] (c_h c B P F A J) (none, c_h c B w.2.1 w.2.2.1 w.2.2.2.1 w.2.2.2.2) := by
  intro hD
  unfold e_State_clear at hD
  refine k_runB (pc' := 1) (loc' := [(0, .ref (r0 * 1024))]) (st' := [.ref (r0 * 1024)]) 1 rfl ?_
  refine k_gf r0 0 (K := 2) hr0 rfl rfl rfl rfl ?_
  refine k_runB (pc' := 5) (loc' := [(0, .ref (r0 * 1024))]) (st' := [.int 0, .ref (r0 * 1024 + 1)]) 1 rfl ?_
  obtain ⟨A1, hA1, hD⟩ := Option.bind_eq_some_iff.mp hD
  refine k_runC rfl rfl rfl rfl (t_fillI r0 1 (K := 2) (n := 36) hr0 (fun _ => rfl) (fun _ _ => rfl) (by decide) hA1) ?_
  refine k_runB (pc' := 9) (loc' := [(0, .ref (r0 * 1024))]) (st' := [.ref (r0 * 1024)]) 1 rfl ?_
  refine k_gf r0 0 (K := 2) hr0 rfl rfl rfl rfl ?_
  refine k_runB (pc' := 13) (loc' := [(0, .ref (r0 * 1024))]) (st' := [.int 0, .ref (r0 * 1024 + 2)]) 1 rfl ?_
  obtain ⟨A2, hA2, hD⟩ := Option.bind_eq_some_iff.mp hD
  refine k_runC rfl rfl rfl rfl (t_fillI r0 2 (K := 2) (n := 6) hr0 (fun _ => rfl) (fun _ _ => rfl) (by decide) hA2) ?_
  refine k_runB (pc' := 17) (loc' := [(0, .ref (r0 * 1024))]) (st' := [.ref (r0 * 1024)]) 1 rfl ?_
  refine k_gf r0 0 (K := 2) hr0 rfl rfl rfl rfl ?_
  refine k_runB (pc' := 21) (loc' := [(0, .ref (r0 * 1024))]) (st' := [.int ((-1)), .ref (r0 * 1024 + 3)]) 1 rfl ?_
  obtain ⟨A3, hA3, hD⟩ := Option.bind_eq_some_iff.mp hD
  refine k_runC rfl rfl rfl rfl (t_fillI r0 3 (K := 2) (n := 6) hr0 (fun _ => rfl) (fun _ _ => rfl) (by decide) hA3) ?_
  refine k_runB (pc' := 25) (loc' := [(0, .ref (r0 * 1024))]) (st' := [.ref (r0 * 1024)]) 1 rfl ?_
  refine k_gf r0 0 (K := 2) hr0 rfl rfl rfl rfl ?_
  refine k_runB (pc' := 29) (loc' := [(0, .ref (r0 * 1024))]) (st' := [.int 0, .ref (r0 * 1024 + 4)]) 1 rfl ?_
  obtain ⟨A4, hA4, hD⟩ := Option.bind_eq_some_iff.mp hD
  refine k_runC rfl rfl rfl rfl (t_fillI r0 4 (K := 2) (n := 6) hr0 (fun _ => rfl) (fun _ _ => rfl) (by decide) hA4) ?_
  refine k_runB (pc' := 33) (loc' := [(0, .ref (r0 * 1024))]) (st' := [.ref (r0 * 1024)]) 1 rfl ?_
  refine k_gf r0 0 (K := 2) hr0 rfl rfl rfl rfl ?_
  refine k_runB (pc' := 37) (loc' := [(0, .ref (r0 * 1024))]) (st' := [.int 0, .ref (r0 * 1024 + 5)]) 1 rfl ?_
  obtain ⟨A5, hA5, hD⟩ := Option.bind_eq_some_iff.mp hD
  refine k_runC rfl rfl rfl rfl (t_fillI r0 5 (K := 2) (n := 6) hr0 (fun _ => rfl) (fun _ _ => rfl) (by decide) hA5) ?_
  refine k_runB (pc' := 41) (loc' := [(0, .ref (r0 * 1024))]) (st' := [.ref (r0 * 1024)]) 1 rfl ?_
  refine k_gf r0 0 (K := 2) hr0 rfl rfl rfl rfl ?_
  refine k_runB (pc' := 45) (loc' := [(0, .ref (r0 * 1024))]) (st' := [.int 0, .ref (r0 * 1024 + 6)]) 1 rfl ?_
  obtain ⟨A6, hA6, hD⟩ := Option.bind_eq_some_iff.mp hD
  refine k_runC rfl rfl rfl rfl (t_fillI r0 6 (K := 2) (n := 6) hr0 (fun _ => rfl) (fun _ _ => rfl) (by decide) hA6) ?_
  refine k_runB (pc' := 49) (loc' := [(0, .ref (r0 * 1024))]) (st' := [.ref (r0 * 1024)]) 1 rfl ?_
  refine k_gf r0 0 (K := 2) hr0 rfl rfl rfl rfl ?_
  refine k_runB (pc' := 54) (loc' := [(0, .ref (r0 * 1024))]) (st' := [.int ((-2)), .ref (r0 * 1024 + 7)]) 1 rfl ?_
  obtain ⟨A7, hA7, hD⟩ := Option.bind_eq_some_iff.mp hD
  refine k_runC rfl rfl rfl rfl (t_fillI r0 7 (K := 2) (n := 6) hr0 (fun _ => rfl) (fun _ _ => rfl) (by decide) hA7) ?_
  refine k_runB (pc' := 59) (loc' := [(0, .ref (r0 * 1024))]) (st' := [.int 0, .ref (r0 * 1024)]) 2 rfl ?_
  obtain ⟨F8, hF8, hD⟩ := Option.bind_eq_some_iff.mp hD
  refine k_cpt r0 0 (K := 2) (key := 7) hr0 rfl (ht 7 7) rfl rfl rfl hF8 ?_
  refine k_runB (pc' := 64) (loc' := [(0, .ref (r0 * 1024))]) (st' := [.int 0, .ref (r0 * 1024)]) 2 rfl ?_
  obtain ⟨F9, hF9, hD⟩ := Option.bind_eq_some_iff.mp hD
  refine k_cpt r0 0 (K := 2) (key := 8) hr0 rfl (ht 7 8) rfl rfl rfl hF9 ?_
  cases hD
  exact k_vret rfl rfl
/-- SleepWork$Scanner.isBlank(I)Z  -/
def e_Scanner_isBlank (P : Nat → Nat → Nat) (F : Nat → Nat → Int32) (A : Nat → Nat → Nat → Int32) (J : Nat → Nat → Nat → Int64) (x0 : Int32) : Option (Int32) :=
  cond (g_cnd .eq x0 9)
  (some (1))
  (cond (g_cnd .eq x0 10)
  (some (1))
  (cond (g_cnd .eq x0 13)
  (some (1))
  (cond (g_cnd .ne x0 32)
  (some (0))
  (some (1)))))
set_option maxRecDepth 10000 in
theorem t_e_Scanner_isBlank {P : Nat → Nat → Nat} {F : Nat → Nat → Int32} {A : Nat → Nat → Nat → Int32} {J : Nat → Nat → Nat → Int64} {x0 : Int32}  {w : Int32} : e_Scanner_isBlank P F A J x0 = some w → k_run t lg (d) 71 0 [(0, .int x0)] [] (c_h c B P F A J) (some (.int w), c_h c B P F A J) := by
  intro hD
  unfold e_Scanner_isBlank at hD
  refine k_runB (pc' := 3) (loc' := [(0, .int x0)]) (st' := [.int 9, .int x0]) 2 rfl ?_
  refine k_ic rfl (fun c3_0 => ?_) (fun c3_0 => ?_)
  · rw [c3_0, cond_true] at hD
    refine k_runB (pc' := 29) (loc' := [(0, .int x0)]) (st' := [.int 1]) 2 rfl ?_
    cases hD
    exact k_zret rfl rfl (Or.inr rfl)
  · rw [c3_0, cond_false] at hD
    refine k_runB (pc' := 9) (loc' := [(0, .int x0)]) (st' := [.int 10, .int x0]) 2 rfl ?_
    refine k_ic rfl (fun c9_1 => ?_) (fun c9_1 => ?_)
    · rw [c9_1, cond_true] at hD
      refine k_runB (pc' := 29) (loc' := [(0, .int x0)]) (st' := [.int 1]) 2 rfl ?_
      cases hD
      exact k_zret rfl rfl (Or.inr rfl)
    · rw [c9_1, cond_false] at hD
      refine k_runB (pc' := 15) (loc' := [(0, .int x0)]) (st' := [.int 13, .int x0]) 2 rfl ?_
      refine k_ic rfl (fun c15_2 => ?_) (fun c15_2 => ?_)
      · rw [c15_2, cond_true] at hD
        refine k_runB (pc' := 29) (loc' := [(0, .int x0)]) (st' := [.int 1]) 2 rfl ?_
        cases hD
        exact k_zret rfl rfl (Or.inr rfl)
      · rw [c15_2, cond_false] at hD
        refine k_runB (pc' := 21) (loc' := [(0, .int x0)]) (st' := [.int 32, .int x0]) 2 rfl ?_
        refine k_ic rfl (fun c21_3 => ?_) (fun c21_3 => ?_)
        · rw [c21_3, cond_true] at hD
          refine k_runB (pc' := 29) (loc' := [(0, .int x0)]) (st' := [.int 0]) 1 rfl ?_
          cases hD
          exact k_zret rfl rfl (Or.inl rfl)
        · rw [c21_3, cond_false] at hD
          refine k_runB (pc' := 29) (loc' := [(0, .int x0)]) (st' := [.int 1]) 2 rfl ?_
          cases hD
          exact k_zret rfl rfl (Or.inr rfl)
/-- SleepWork$Scanner.isLetter(I)Z  -/
def e_Scanner_isLetter (P : Nat → Nat → Nat) (F : Nat → Nat → Int32) (A : Nat → Nat → Nat → Int32) (J : Nat → Nat → Nat → Int64) (x0 : Int32) : Option (Int32) :=
  cond (g_cnd .lt x0 97)
  (some (0))
  (cond (g_cnd .gt x0 122)
  (some (0))
  (some (1)))
set_option maxRecDepth 10000 in
theorem t_e_Scanner_isLetter {P : Nat → Nat → Nat} {F : Nat → Nat → Int32} {A : Nat → Nat → Nat → Int32} {J : Nat → Nat → Nat → Int64} {x0 : Int32}  {w : Int32} : e_Scanner_isLetter P F A J x0 = some w → k_run t lg (d) 72 0 [(0, .int x0)] [] (c_h c B P F A J) (some (.int w), c_h c B P F A J) := by
  intro hD
  unfold e_Scanner_isLetter at hD
  refine k_runB (pc' := 3) (loc' := [(0, .int x0)]) (st' := [.int 97, .int x0]) 2 rfl ?_
  refine k_ic rfl (fun c3_0 => ?_) (fun c3_0 => ?_)
  · rw [c3_0, cond_true] at hD
    refine k_runB (pc' := 17) (loc' := [(0, .int x0)]) (st' := [.int 0]) 1 rfl ?_
    cases hD
    exact k_zret rfl rfl (Or.inl rfl)
  · rw [c3_0, cond_false] at hD
    refine k_runB (pc' := 9) (loc' := [(0, .int x0)]) (st' := [.int 122, .int x0]) 2 rfl ?_
    refine k_ic rfl (fun c9_1 => ?_) (fun c9_1 => ?_)
    · rw [c9_1, cond_true] at hD
      refine k_runB (pc' := 17) (loc' := [(0, .int x0)]) (st' := [.int 0]) 1 rfl ?_
      cases hD
      exact k_zret rfl rfl (Or.inl rfl)
    · rw [c9_1, cond_false] at hD
      refine k_runB (pc' := 17) (loc' := [(0, .int x0)]) (st' := [.int 1]) 2 rfl ?_
      cases hD
      exact k_zret rfl rfl (Or.inr rfl)
/-- SleepWork$Scanner.isDigit(I)Z  -/
def e_Scanner_isDigit (P : Nat → Nat → Nat) (F : Nat → Nat → Int32) (A : Nat → Nat → Nat → Int32) (J : Nat → Nat → Nat → Int64) (x0 : Int32) : Option (Int32) :=
  cond (g_cnd .lt x0 48)
  (some (0))
  (cond (g_cnd .gt x0 57)
  (some (0))
  (some (1)))
set_option maxRecDepth 10000 in
theorem t_e_Scanner_isDigit {P : Nat → Nat → Nat} {F : Nat → Nat → Int32} {A : Nat → Nat → Nat → Int32} {J : Nat → Nat → Nat → Int64} {x0 : Int32}  {w : Int32} : e_Scanner_isDigit P F A J x0 = some w → k_run t lg (d) 73 0 [(0, .int x0)] [] (c_h c B P F A J) (some (.int w), c_h c B P F A J) := by
  intro hD
  unfold e_Scanner_isDigit at hD
  refine k_runB (pc' := 3) (loc' := [(0, .int x0)]) (st' := [.int 48, .int x0]) 2 rfl ?_
  refine k_ic rfl (fun c3_0 => ?_) (fun c3_0 => ?_)
  · rw [c3_0, cond_true] at hD
    refine k_runB (pc' := 17) (loc' := [(0, .int x0)]) (st' := [.int 0]) 1 rfl ?_
    cases hD
    exact k_zret rfl rfl (Or.inl rfl)
  · rw [c3_0, cond_false] at hD
    refine k_runB (pc' := 9) (loc' := [(0, .int x0)]) (st' := [.int 57, .int x0]) 2 rfl ?_
    refine k_ic rfl (fun c9_1 => ?_) (fun c9_1 => ?_)
    · rw [c9_1, cond_true] at hD
      refine k_runB (pc' := 17) (loc' := [(0, .int x0)]) (st' := [.int 0]) 1 rfl ?_
      cases hD
      exact k_zret rfl rfl (Or.inl rfl)
    · rw [c9_1, cond_false] at hD
      refine k_runB (pc' := 17) (loc' := [(0, .int x0)]) (st' := [.int 1]) 2 rfl ?_
      cases hD
      exact k_zret rfl rfl (Or.inr rfl)
/-- SleepWork$Reader.placeOfFault()I  -/
def e_Reader_placeOfFault (P : Nat → Nat → Nat) (F : Nat → Nat → Int32) (A : Nat → Nat → Nat → Int32) (J : Nat → Nat → Nat → Int64) : Option (Int32) :=
  cond (g_cnd .ne (F 37 10) 0)
  (some (F 37 11))
  (some ((-1)))
set_option maxRecDepth 10000 in
theorem t_e_Reader_placeOfFault {P : Nat → Nat → Nat} {F : Nat → Nat → Int32} {A : Nat → Nat → Nat → Int32} {J : Nat → Nat → Nat → Int64}   {w : Int32} : e_Reader_placeOfFault P F A J = some w → k_run t lg (d) 40 0 [(0, .ref (37 * 1024))] [] (c_h c B P F A J) (some (.int w), c_h c B P F A J) := by
  intro hD
  unfold e_Reader_placeOfFault at hD
  refine k_runB (pc' := 1) (loc' := [(0, .ref (37 * 1024))]) (st' := [.ref (37 * 1024)]) 1 rfl ?_
  refine k_gf 37 0 (K := 11) rfl rfl rfl rfl rfl ?_
  refine k_if rfl (fun c4_0 => ?_) (fun c4_0 => ?_)
  · rw [c4_0, cond_true] at hD
    refine k_runB (pc' := 12) (loc' := [(0, .ref (37 * 1024))]) (st' := [.ref (37 * 1024)]) 1 rfl ?_
    refine k_gf 37 0 (K := 11) rfl rfl rfl rfl rfl ?_
    cases hD
    exact k_iret rfl rfl
  · rw [c4_0, cond_false] at hD
    refine k_runB (pc' := 15) (loc' := [(0, .ref (37 * 1024))]) (st' := [.int ((-1))]) 2 rfl ?_
    cases hD
    exact k_iret rfl rfl
def e_Reader_fail_15 (P : Nat → Nat → Nat) (F : Nat → Nat → Int32) (A : Nat → Nat → Nat → Int32) (J : Nat → Nat → Nat → Int64) (x1 : Int32) (x2 : Int32) : Option (Unit × (Nat → Nat → Nat) × (Nat → Nat → Int32) × (Nat → Nat → Nat → Int32) × (Nat → Nat → Nat → Int64)) :=
    (c_pf F 37 10 x1).bind fun F3 =>
    (c_pf F3 37 11 x2).bind fun F4 =>
    some ((), P, F4, A, J)
set_option maxRecDepth 10000 in
theorem t_e_Reader_fail_15 (ht : ∀ ci k, t.1 ci k = k_ty ci k)  {P : Nat → Nat → Nat} {F : Nat → Nat → Int32} {A : Nat → Nat → Nat → Int32} {J : Nat → Nat → Nat → Int64} {x1 : Int32} {x2 : Int32}  {w : Unit × (Nat → Nat → Nat) × (Nat → Nat → Int32) × (Nat → Nat → Nat → Int32) × (Nat → Nat → Nat → Int64)} : e_Reader_fail_15 P F A J x1 x2 = some w → k_run t lg (d) 42 15 [(0, .ref (37 * 1024)), (1, .int x1), (2, .int x2)] [] (c_h c B P F A J) (none, c_h c B w.2.1 w.2.2.1 w.2.2.2.1 w.2.2.2.2) := by
  intro hD
  unfold e_Reader_fail_15 at hD
  refine k_runB (pc' := 17) (loc' := [(0, .ref (37 * 1024)), (1, .int x1), (2, .int x2)]) (st' := [.int x1, .ref (37 * 1024)]) 2 rfl ?_
  obtain ⟨F3, hF3, hD⟩ := Option.bind_eq_some_iff.mp hD
  refine k_cpt 37 0 (K := 11) (key := 10) rfl rfl (ht 4 10) rfl rfl rfl hF3 ?_
  refine k_runB (pc' := 22) (loc' := [(0, .ref (37 * 1024)), (1, .int x1), (2, .int x2)]) (st' := [.int x2, .ref (37 * 1024)]) 2 rfl ?_
  obtain ⟨F4, hF4, hD⟩ := Option.bind_eq_some_iff.mp hD
  refine k_cpt 37 0 (K := 11) (key := 11) rfl rfl (ht 4 11) rfl rfl rfl hF4 ?_
  cases hD
  exact k_vret rfl rfl
/-- SleepWork$Reader.fail(II)V  -/
def e_Reader_fail (P : Nat → Nat → Nat) (F : Nat → Nat → Int32) (A : Nat → Nat → Nat → Int32) (J : Nat → Nat → Nat → Int64) (x1 : Int32) (x2 : Int32) : Option (Unit × (Nat → Nat → Nat) × (Nat → Nat → Int32) × (Nat → Nat → Nat → Int32) × (Nat → Nat → Nat → Int64)) :=
  cond (g_cnd .eq (F 37 10) 0)
  (e_Reader_fail_15 P F A J x1 x2)
  (cond (g_cnd .ge x2 (F 37 11))
  (some ((), P, F, A, J))
  (e_Reader_fail_15 P F A J x1 x2))
set_option maxRecDepth 10000 in
theorem t_e_Reader_fail (ht : ∀ ci k, t.1 ci k = k_ty ci k) {P : Nat → Nat → Nat} {F : Nat → Nat → Int32} {A : Nat → Nat → Nat → Int32} {J : Nat → Nat → Nat → Int64} {x1 : Int32} {x2 : Int32}  {w : Unit × (Nat → Nat → Nat) × (Nat → Nat → Int32) × (Nat → Nat → Nat → Int32) × (Nat → Nat → Nat → Int64)} : e_Reader_fail P F A J x1 x2 = some w → k_run t lg (d) 42 0 [(0, .ref (37 * 1024)), (1, .int x1), (2, .int x2)] [] (c_h c B P F A J) (none, c_h c B w.2.1 w.2.2.1 w.2.2.2.1 w.2.2.2.2) := by
  intro hD
  unfold e_Reader_fail at hD
  refine k_runB (pc' := 1) (loc' := [(0, .ref (37 * 1024)), (1, .int x1), (2, .int x2)]) (st' := [.ref (37 * 1024)]) 1 rfl ?_
  refine k_gf 37 0 (K := 11) rfl rfl rfl rfl rfl ?_
  refine k_if rfl (fun c4_0 => ?_) (fun c4_0 => ?_)
  · rw [c4_0, cond_true] at hD
    refine k_wk [0, 1, 2] (loc' := [(0, .ref (37 * 1024)), (1, .int x1), (2, .int x2)]) rfl rfl ?_
    exact t_e_Reader_fail_15 ht   hD
  · rw [c4_0, cond_false] at hD
    refine k_runB (pc' := 9) (loc' := [(0, .ref (37 * 1024)), (1, .int x1), (2, .int x2)]) (st' := [.ref (37 * 1024), .int x2]) 2 rfl ?_
    refine k_gf 37 0 (K := 11) rfl rfl rfl rfl rfl ?_
    refine k_ic rfl (fun c12_1 => ?_) (fun c12_1 => ?_)
    · rw [c12_1, cond_true] at hD
      cases hD
      exact k_vret rfl rfl
    · rw [c12_1, cond_false] at hD
      refine k_wk [0, 1, 2] (loc' := [(0, .ref (37 * 1024)), (1, .int x1), (2, .int x2)]) rfl rfl ?_
      exact t_e_Reader_fail_15 ht   hD
/-- SleepWork$Reader.failLate(I)V  -/
def e_Reader_failLate (P : Nat → Nat → Nat) (F : Nat → Nat → Int32) (A : Nat → Nat → Nat → Int32) (J : Nat → Nat → Nat → Int64) (x1 : Int32) : Option (Unit × (Nat → Nat → Nat) × (Nat → Nat → Int32) × (Nat → Nat → Nat → Int32) × (Nat → Nat → Nat → Int64)) :=
  cond (g_cnd .ne (F 37 12) 0)
  (some ((), P, F, A, J))
  ((c_pf F 37 12 x1).bind fun F2 =>
  (m_ld (A 37 3) 401 (F2 37 8)).bind fun v3 =>
  (c_pf F2 37 13 v3).bind fun F4 =>
  some ((), P, F4, A, J))
set_option maxRecDepth 10000 in
theorem t_e_Reader_failLate (ht : ∀ ci k, t.1 ci k = k_ty ci k) {P : Nat → Nat → Nat} {F : Nat → Nat → Int32} {A : Nat → Nat → Nat → Int32} {J : Nat → Nat → Nat → Int64} {x1 : Int32}  {w : Unit × (Nat → Nat → Nat) × (Nat → Nat → Int32) × (Nat → Nat → Nat → Int32) × (Nat → Nat → Nat → Int64)} : e_Reader_failLate P F A J x1 = some w → k_run t lg (d) 43 0 [(0, .ref (37 * 1024)), (1, .int x1)] [] (c_h c B P F A J) (none, c_h c B w.2.1 w.2.2.1 w.2.2.2.1 w.2.2.2.2) := by
  intro hD
  unfold e_Reader_failLate at hD
  refine k_runB (pc' := 1) (loc' := [(0, .ref (37 * 1024)), (1, .int x1)]) (st' := [.ref (37 * 1024)]) 1 rfl ?_
  refine k_gf 37 0 (K := 11) rfl rfl rfl rfl rfl ?_
  refine k_if rfl (fun c4_0 => ?_) (fun c4_0 => ?_)
  · rw [c4_0, cond_true] at hD
    cases hD
    exact k_vret rfl rfl
  · rw [c4_0, cond_false] at hD
    refine k_runB (pc' := 9) (loc' := [(0, .ref (37 * 1024)), (1, .int x1)]) (st' := [.int x1, .ref (37 * 1024)]) 2 rfl ?_
    obtain ⟨F2, hF2, hD⟩ := Option.bind_eq_some_iff.mp hD
    refine k_cpt 37 0 (K := 11) (key := 12) rfl rfl (ht 4 12) rfl rfl rfl hF2 ?_
    refine k_runB (pc' := 14) (loc' := [(0, .ref (37 * 1024)), (1, .int x1)]) (st' := [.ref (37 * 1024), .ref (37 * 1024)]) 2 rfl ?_
    refine k_gf 37 0 (K := 11) rfl rfl rfl rfl rfl ?_
    refine k_gf 37 1 (K := 11) rfl rfl rfl rfl rfl ?_
    refine k_runB (pc' := 21) (loc' := [(0, .ref (37 * 1024)), (1, .int x1)]) (st' := [.ref (37 * 1024), .ref (37 * 1024 + 3), .ref (37 * 1024)]) 1 rfl ?_
    refine k_gf 37 0 (K := 11) rfl rfl rfl rfl rfl ?_
    obtain ⟨v3, hv3, hD⟩ := Option.bind_eq_some_iff.mp hD
    refine k_ldI rfl (c_get (r := 37) (o := 3) (K := 11) rfl (by decide)) hv3 ?_
    obtain ⟨F4, hF4, hD⟩ := Option.bind_eq_some_iff.mp hD
    refine k_cpt 37 0 (K := 11) (key := 13) rfl rfl (ht 4 13) rfl rfl rfl hF4 ?_
    cases hD
    exact k_vret rfl rfl
/-- SleepWork$Reader.isNext(I)Z  -/
def e_Reader_isNext (P : Nat → Nat → Nat) (F : Nat → Nat → Int32) (A : Nat → Nat → Nat → Int32) (J : Nat → Nat → Nat → Int64) (x1 : Int32) : Option (Int32) :=
  cond (g_cnd .ne (F 37 10) 0)
  (some (0))
  ((m_ld (A 37 2) 401 (F 37 7)).bind fun v2 =>
  cond (g_cnd .ne v2 x1)
  (some (0))
  (some (1)))
set_option maxRecDepth 10000 in
theorem t_e_Reader_isNext {P : Nat → Nat → Nat} {F : Nat → Nat → Int32} {A : Nat → Nat → Nat → Int32} {J : Nat → Nat → Nat → Int64} {x1 : Int32}  {w : Int32} : e_Reader_isNext P F A J x1 = some w → k_run t lg (d) 44 0 [(0, .ref (37 * 1024)), (1, .int x1)] [] (c_h c B P F A J) (some (.int w), c_h c B P F A J) := by
  intro hD
  unfold e_Reader_isNext at hD
  refine k_runB (pc' := 1) (loc' := [(0, .ref (37 * 1024)), (1, .int x1)]) (st' := [.ref (37 * 1024)]) 1 rfl ?_
  refine k_gf 37 0 (K := 11) rfl rfl rfl rfl rfl ?_
  refine k_if rfl (fun c4_0 => ?_) (fun c4_0 => ?_)
  · rw [c4_0, cond_true] at hD
    refine k_runB (pc' := 28) (loc' := [(0, .ref (37 * 1024)), (1, .int x1)]) (st' := [.int 0]) 1 rfl ?_
    cases hD
    exact k_zret rfl rfl (Or.inl rfl)
  · rw [c4_0, cond_false] at hD
    refine k_runB (pc' := 8) (loc' := [(0, .ref (37 * 1024)), (1, .int x1)]) (st' := [.ref (37 * 1024)]) 1 rfl ?_
    refine k_gf 37 0 (K := 11) rfl rfl rfl rfl rfl ?_
    refine k_gf 37 1 (K := 11) rfl rfl rfl rfl rfl ?_
    refine k_runB (pc' := 15) (loc' := [(0, .ref (37 * 1024)), (1, .int x1)]) (st' := [.ref (37 * 1024), .ref (37 * 1024 + 2)]) 1 rfl ?_
    refine k_gf 37 0 (K := 11) rfl rfl rfl rfl rfl ?_
    obtain ⟨v2, hv2, hD⟩ := Option.bind_eq_some_iff.mp hD
    refine k_ldI rfl (c_get (r := 37) (o := 2) (K := 11) rfl (by decide)) hv2 ?_
    refine k_runB (pc' := 20) (loc' := [(0, .ref (37 * 1024)), (1, .int x1)]) (st' := [.int x1, .int v2]) 1 rfl ?_
    refine k_ic rfl (fun c20_2 => ?_) (fun c20_2 => ?_)
    · rw [c20_2, cond_true] at hD
      refine k_runB (pc' := 28) (loc' := [(0, .ref (37 * 1024)), (1, .int x1)]) (st' := [.int 0]) 1 rfl ?_
      cases hD
      exact k_zret rfl rfl (Or.inl rfl)
    · rw [c20_2, cond_false] at hD
      refine k_runB (pc' := 28) (loc' := [(0, .ref (37 * 1024)), (1, .int x1)]) (st' := [.int 1]) 2 rfl ?_
      cases hD
      exact k_zret rfl rfl (Or.inr rfl)
/-- SleepWork$Reader.take(I)Z  -/
def e_Reader_take (P : Nat → Nat → Nat) (F : Nat → Nat → Int32) (A : Nat → Nat → Nat → Int32) (J : Nat → Nat → Nat → Int64) (x1 : Int32) : Option (Int32 × (Nat → Nat → Nat) × (Nat → Nat → Int32) × (Nat → Nat → Nat → Int32) × (Nat → Nat → Nat → Int64)) :=
  cond (g_cnd .eq (F 37 10) 0)
  ((m_ld (A 37 2) 401 (F 37 7)).bind fun v2 =>
  cond (g_cnd .eq v2 x1)
  (cond (g_cnd .lt (F 37 7) 400)
  ((c_pf F 37 8 (F 37 7)).bind fun F5 =>
  (c_pf F5 37 7 ((F5 37 7) + 1)).bind fun F6 =>
  some (1, P, F6, A, J))
  ((m_ld (A 37 3) 401 (F 37 7)).bind fun v7 =>
  (e_Reader_fail P F A J 2 v7).bind fun (_, P9, F10, A11, J12) =>
  some (0, P9, F10, A11, J12)))
  ((m_ld (A 37 3) 401 (F 37 7)).bind fun v13 =>
  (e_Reader_fail P F A J 1 v13).bind fun (_, P15, F16, A17, J18) =>
  some (0, P15, F16, A17, J18)))
  (some (0, P, F, A, J))
set_option maxRecDepth 10000 in
theorem t_e_Reader_take (ht : ∀ ci k, t.1 ci k = k_ty ci k) {P : Nat → Nat → Nat} {F : Nat → Nat → Int32} {A : Nat → Nat → Nat → Int32} {J : Nat → Nat → Nat → Int64} {x1 : Int32}  {w : Int32 × (Nat → Nat → Nat) × (Nat → Nat → Int32) × (Nat → Nat → Nat → Int32) × (Nat → Nat → Nat → Int64)} : e_Reader_take P F A J x1 = some w → k_run t lg (d + 1) 45 0 [(0, .ref (37 * 1024)), (1, .int x1)] [] (c_h c B P F A J) (some (.int w.1), c_h c B w.2.1 w.2.2.1 w.2.2.2.1 w.2.2.2.2) := by
  intro hD
  unfold e_Reader_take at hD
  refine k_runB (pc' := 1) (loc' := [(0, .ref (37 * 1024)), (1, .int x1)]) (st' := [.ref (37 * 1024)]) 1 rfl ?_
  refine k_gf 37 0 (K := 11) rfl rfl rfl rfl rfl ?_
  refine k_if rfl (fun c4_0 => ?_) (fun c4_0 => ?_)
  · rw [c4_0, cond_true] at hD
    refine k_runB (pc' := 10) (loc' := [(0, .ref (37 * 1024)), (1, .int x1)]) (st' := [.ref (37 * 1024)]) 1 rfl ?_
    refine k_gf 37 0 (K := 11) rfl rfl rfl rfl rfl ?_
    refine k_gf 37 1 (K := 11) rfl rfl rfl rfl rfl ?_
    refine k_runB (pc' := 17) (loc' := [(0, .ref (37 * 1024)), (1, .int x1)]) (st' := [.ref (37 * 1024), .ref (37 * 1024 + 2)]) 1 rfl ?_
    refine k_gf 37 0 (K := 11) rfl rfl rfl rfl rfl ?_
    obtain ⟨v2, hv2, hD⟩ := Option.bind_eq_some_iff.mp hD
    refine k_ldI rfl (c_get (r := 37) (o := 2) (K := 11) rfl (by decide)) hv2 ?_
    refine k_runB (pc' := 22) (loc' := [(0, .ref (37 * 1024)), (1, .int x1)]) (st' := [.int x1, .int v2]) 1 rfl ?_
    refine k_ic rfl (fun c22_2 => ?_) (fun c22_2 => ?_)
    · rw [c22_2, cond_true] at hD
      refine k_runB (pc' := 45) (loc' := [(0, .ref (37 * 1024)), (1, .int x1)]) (st' := [.ref (37 * 1024)]) 1 rfl ?_
      refine k_gf 37 0 (K := 11) rfl rfl rfl rfl rfl ?_
      refine k_runB (pc' := 51) (loc' := [(0, .ref (37 * 1024)), (1, .int x1)]) (st' := [.int 400, .int (F 37 7)]) 1 rfl ?_
      refine k_ic rfl (fun c51_3 => ?_) (fun c51_3 => ?_)
      · rw [c51_3, cond_true] at hD
        refine k_runB (pc' := 75) (loc' := [(0, .ref (37 * 1024)), (1, .int x1)]) (st' := [.ref (37 * 1024), .ref (37 * 1024)]) 2 rfl ?_
        refine k_gf 37 0 (K := 11) rfl rfl rfl rfl rfl ?_
        obtain ⟨F5, hF5, hD⟩ := Option.bind_eq_some_iff.mp hD
        refine k_cpt 37 0 (K := 11) (key := 8) rfl rfl (ht 4 8) rfl rfl rfl hF5 ?_
        refine k_runB (pc' := 83) (loc' := [(0, .ref (37 * 1024)), (1, .int x1)]) (st' := [.ref (37 * 1024), .ref (37 * 1024)]) 2 rfl ?_
        refine k_gf 37 0 (K := 11) rfl rfl rfl rfl rfl ?_
        refine k_runB (pc' := 88) (loc' := [(0, .ref (37 * 1024)), (1, .int x1)]) (st' := [.int ((F5 37 7) + 1), .ref (37 * 1024)]) 2 rfl ?_
        obtain ⟨F6, hF6, hD⟩ := Option.bind_eq_some_iff.mp hD
        refine k_cpt 37 0 (K := 11) (key := 7) rfl rfl (ht 4 7) rfl rfl rfl hF6 ?_
        refine k_runB (pc' := 92) (loc' := [(0, .ref (37 * 1024)), (1, .int x1)]) (st' := [.int 1]) 1 rfl ?_
        cases hD
        exact k_zret rfl rfl (Or.inr rfl)
      · rw [c51_3, cond_false] at hD
        refine k_runB (pc' := 57) (loc' := [(0, .ref (37 * 1024)), (1, .int x1)]) (st' := [.ref (37 * 1024), .int 2, .ref (37 * 1024)]) 3 rfl ?_
        refine k_gf 37 0 (K := 11) rfl rfl rfl rfl rfl ?_
        refine k_gf 37 1 (K := 11) rfl rfl rfl rfl rfl ?_
        refine k_runB (pc' := 64) (loc' := [(0, .ref (37 * 1024)), (1, .int x1)]) (st' := [.ref (37 * 1024), .ref (37 * 1024 + 3), .int 2, .ref (37 * 1024)]) 1 rfl ?_
        refine k_gf 37 0 (K := 11) rfl rfl rfl rfl rfl ?_
        obtain ⟨v7, hv7, hD⟩ := Option.bind_eq_some_iff.mp hD
        refine k_ldI rfl (c_get (r := 37) (o := 3) (K := 11) rfl (by decide)) hv7 ?_
        obtain ⟨⟨v8, P9, F10, A11, J12⟩, hv8, hD⟩ := Option.bind_eq_some_iff.mp hD
        dsimp only at hD
        refine k_runV rfl rfl rfl (c_get (r := 37) (o := 0) (K := 11) rfl (by decide)) rfl rfl (t_e_Reader_fail (d := d) ht hv8) ?_
        refine k_runB (pc' := 72) (loc' := [(0, .ref (37 * 1024)), (1, .int x1)]) (st' := [.int 0]) 1 rfl ?_
        cases hD
        exact k_zret rfl rfl (Or.inl rfl)
    · rw [c22_2, cond_false] at hD
      refine k_runB (pc' := 28) (loc' := [(0, .ref (37 * 1024)), (1, .int x1)]) (st' := [.ref (37 * 1024), .int 1, .ref (37 * 1024)]) 3 rfl ?_
      refine k_gf 37 0 (K := 11) rfl rfl rfl rfl rfl ?_
      refine k_gf 37 1 (K := 11) rfl rfl rfl rfl rfl ?_
      refine k_runB (pc' := 35) (loc' := [(0, .ref (37 * 1024)), (1, .int x1)]) (st' := [.ref (37 * 1024), .ref (37 * 1024 + 3), .int 1, .ref (37 * 1024)]) 1 rfl ?_
      refine k_gf 37 0 (K := 11) rfl rfl rfl rfl rfl ?_
      obtain ⟨v13, hv13, hD⟩ := Option.bind_eq_some_iff.mp hD
      refine k_ldI rfl (c_get (r := 37) (o := 3) (K := 11) rfl (by decide)) hv13 ?_
      obtain ⟨⟨v14, P15, F16, A17, J18⟩, hv14, hD⟩ := Option.bind_eq_some_iff.mp hD
      dsimp only at hD
      refine k_runV rfl rfl rfl (c_get (r := 37) (o := 0) (K := 11) rfl (by decide)) rfl rfl (t_e_Reader_fail (d := d) ht hv14) ?_
      refine k_runB (pc' := 43) (loc' := [(0, .ref (37 * 1024)), (1, .int x1)]) (st' := [.int 0]) 1 rfl ?_
      cases hD
      exact k_zret rfl rfl (Or.inl rfl)
  · rw [c4_0, cond_false] at hD
    refine k_runB (pc' := 8) (loc' := [(0, .ref (37 * 1024)), (1, .int x1)]) (st' := [.int 0]) 1 rfl ?_
    cases hD
    exact k_zret rfl rfl (Or.inl rfl)
def e_Reader_takeFirst_22 (P : Nat → Nat → Nat) (F : Nat → Nat → Int32) (A : Nat → Nat → Nat → Int32) (J : Nat → Nat → Nat → Int64) (x1 : Int32) : Option (Unit × (Nat → Nat → Nat) × (Nat → Nat → Int32) × (Nat → Nat → Nat → Int32) × (Nat → Nat → Nat → Int64)) :=
    (e_Reader_take P F A J x1).bind fun (v13, P14, F15, A16, J17) =>
    some ((), P14, F15, A16, J17)
set_option maxRecDepth 10000 in
theorem t_e_Reader_takeFirst_22 (ht : ∀ ci k, t.1 ci k = k_ty ci k)  {P : Nat → Nat → Nat} {F : Nat → Nat → Int32} {A : Nat → Nat → Nat → Int32} {J : Nat → Nat → Nat → Int64} {x1 : Int32}  {w : Unit × (Nat → Nat → Nat) × (Nat → Nat → Int32) × (Nat → Nat → Nat → Int32) × (Nat → Nat → Nat → Int64)} : e_Reader_takeFirst_22 P F A J x1 = some w → k_run t lg (d + 2) 46 22 [(0, .ref (37 * 1024)), (1, .int x1)] [] (c_h c B P F A J) (none, c_h c B w.2.1 w.2.2.1 w.2.2.2.1 w.2.2.2.2) := by
  intro hD
  unfold e_Reader_takeFirst_22 at hD
  refine k_runB (pc' := 24) (loc' := [(0, .ref (37 * 1024)), (1, .int x1)]) (st' := [.int x1, .ref (37 * 1024)]) 2 rfl ?_
  obtain ⟨⟨v13, P14, F15, A16, J17⟩, hv13, hD⟩ := Option.bind_eq_some_iff.mp hD
  dsimp only at hD
  refine k_runV rfl rfl rfl (c_get (r := 37) (o := 0) (K := 11) rfl (by decide)) rfl rfl (t_e_Reader_take (d := d) ht hv13) ?_
  refine k_runB (pc' := 28) (loc' := [(0, .ref (37 * 1024)), (1, .int x1)]) (st' := []) 1 rfl ?_
  cases hD
  exact k_vret rfl rfl
/-- SleepWork$Reader.takeFirst(III)V  -/
def e_Reader_takeFirst (P : Nat → Nat → Nat) (F : Nat → Nat → Int32) (A : Nat → Nat → Nat → Int32) (J : Nat → Nat → Nat → Int64) (x1 : Int32) (x2 : Int32) (x3 : Int32) : Option (Unit × (Nat → Nat → Nat) × (Nat → Nat → Int32) × (Nat → Nat → Nat → Int32) × (Nat → Nat → Nat → Int64)) :=
  cond (g_cnd .lt x2 x3)
  (e_Reader_takeFirst_22 P F A J x1)
  ((m_ld (A 37 3) 401 (F 37 7)).bind fun v2 =>
  (e_Reader_fail P F A J 2 v2).bind fun (_, P4, F5, A6, J7) =>
  (e_Reader_take P4 F5 A6 J7 x1).bind fun (v8, P9, F10, A11, J12) =>
  some ((), P9, F10, A11, J12))
set_option maxRecDepth 10000 in
theorem t_e_Reader_takeFirst (ht : ∀ ci k, t.1 ci k = k_ty ci k) {P : Nat → Nat → Nat} {F : Nat → Nat → Int32} {A : Nat → Nat → Nat → Int32} {J : Nat → Nat → Nat → Int64} {x1 : Int32} {x2 : Int32} {x3 : Int32}  {w : Unit × (Nat → Nat → Nat) × (Nat → Nat → Int32) × (Nat → Nat → Nat → Int32) × (Nat → Nat → Nat → Int64)} : e_Reader_takeFirst P F A J x1 x2 x3 = some w → k_run t lg (d + 2) 46 0 [(0, .ref (37 * 1024)), (1, .int x1), (2, .int x2), (3, .int x3)] [] (c_h c B P F A J) (none, c_h c B w.2.1 w.2.2.1 w.2.2.2.1 w.2.2.2.2) := by
  intro hD
  unfold e_Reader_takeFirst at hD
  refine k_runB (pc' := 2) (loc' := [(0, .ref (37 * 1024)), (1, .int x1), (2, .int x2), (3, .int x3)]) (st' := [.int x3, .int x2]) 2 rfl ?_
  refine k_ic rfl (fun c2_0 => ?_) (fun c2_0 => ?_)
  · rw [c2_0, cond_true] at hD
    refine k_wk [0, 1] (loc' := [(0, .ref (37 * 1024)), (1, .int x1)]) rfl rfl ?_
    exact t_e_Reader_takeFirst_22 ht   hD
  · rw [c2_0, cond_false] at hD
    refine k_runB (pc' := 8) (loc' := [(0, .ref (37 * 1024)), (1, .int x1), (2, .int x2), (3, .int x3)]) (st' := [.ref (37 * 1024), .int 2, .ref (37 * 1024)]) 3 rfl ?_
    refine k_gf 37 0 (K := 11) rfl rfl rfl rfl rfl ?_
    refine k_gf 37 1 (K := 11) rfl rfl rfl rfl rfl ?_
    refine k_runB (pc' := 15) (loc' := [(0, .ref (37 * 1024)), (1, .int x1), (2, .int x2), (3, .int x3)]) (st' := [.ref (37 * 1024), .ref (37 * 1024 + 3), .int 2, .ref (37 * 1024)]) 1 rfl ?_
    refine k_gf 37 0 (K := 11) rfl rfl rfl rfl rfl ?_
    obtain ⟨v2, hv2, hD⟩ := Option.bind_eq_some_iff.mp hD
    refine k_ldI rfl (c_get (r := 37) (o := 3) (K := 11) rfl (by decide)) hv2 ?_
    obtain ⟨⟨v3, P4, F5, A6, J7⟩, hv3, hD⟩ := Option.bind_eq_some_iff.mp hD
    dsimp only at hD
    refine k_runV rfl rfl rfl (c_get (r := 37) (o := 0) (K := 11) rfl (by decide)) rfl rfl (t_e_Reader_fail (d := d + 1) ht hv3) ?_
    refine k_runB (pc' := 24) (loc' := [(0, .ref (37 * 1024)), (1, .int x1), (2, .int x2), (3, .int x3)]) (st' := [.int x1, .ref (37 * 1024)]) 2 rfl ?_
    obtain ⟨⟨v8, P9, F10, A11, J12⟩, hv8, hD⟩ := Option.bind_eq_some_iff.mp hD
    dsimp only at hD
    refine k_runV rfl rfl rfl (c_get (r := 37) (o := 0) (K := 11) rfl (by decide)) rfl rfl (t_e_Reader_take (d := d) ht hv8) ?_
    refine k_runB (pc' := 28) (loc' := [(0, .ref (37 * 1024)), (1, .int x1), (2, .int x2), (3, .int x3)]) (st' := []) 1 rfl ?_
    cases hD
    exact k_vret rfl rfl
def e_Reader_takeNumber_34 (P : Nat → Nat → Nat) (F : Nat → Nat → Int32) (A : Nat → Nat → Nat → Int32) (J : Nat → Nat → Nat → Int64) (x3 : Int32) : Option (Int32 × (Nat → Nat → Nat) × (Nat → Nat → Int32) × (Nat → Nat → Nat → Int32) × (Nat → Nat → Nat → Int64)) :=
    (e_Reader_failLate P F A J 5).bind fun (_, P11, F12, A13, J14) =>
    some (x3, P11, F12, A13, J14)
set_option maxRecDepth 10000 in
theorem t_e_Reader_takeNumber_34 (ht : ∀ ci k, t.1 ci k = k_ty ci k)  {P : Nat → Nat → Nat} {F : Nat → Nat → Int32} {A : Nat → Nat → Nat → Int32} {J : Nat → Nat → Nat → Int64} {x3 : Int32}  {w : Int32 × (Nat → Nat → Nat) × (Nat → Nat → Int32) × (Nat → Nat → Nat → Int32) × (Nat → Nat → Nat → Int64)} : e_Reader_takeNumber_34 P F A J x3 = some w → k_run t lg (d + 2) 50 34 [(0, .ref (37 * 1024)), (3, .int x3)] [] (c_h c B P F A J) (some (.int w.1), c_h c B w.2.1 w.2.2.1 w.2.2.2.1 w.2.2.2.2) := by
  intro hD
  unfold e_Reader_takeNumber_34 at hD
  refine k_runB (pc' := 36) (loc' := [(0, .ref (37 * 1024)), (3, .int x3)]) (st' := [.int 5, .ref (37 * 1024)]) 2 rfl ?_
  obtain ⟨⟨v10, P11, F12, A13, J14⟩, hv10, hD⟩ := Option.bind_eq_some_iff.mp hD
  dsimp only at hD
  refine k_runV rfl rfl rfl (c_get (r := 37) (o := 0) (K := 11) rfl (by decide)) rfl rfl (t_e_Reader_failLate (d := d + 1) ht hv10) ?_
  refine k_runB (pc' := 40) (loc' := [(0, .ref (37 * 1024)), (3, .int x3)]) (st' := [.int x3]) 1 rfl ?_
  cases hD
  exact k_iret rfl rfl
/-- SleepWork$Reader.takeNumber(II)I  -/
def e_Reader_takeNumber (P : Nat → Nat → Nat) (F : Nat → Nat → Int32) (A : Nat → Nat → Nat → Int32) (J : Nat → Nat → Nat → Int64) (x1 : Int32) (x2 : Int32) : Option (Int32 × (Nat → Nat → Nat) × (Nat → Nat → Int32) × (Nat → Nat → Nat → Int32) × (Nat → Nat → Nat → Int64)) :=
  (e_Reader_take P F A J 101).bind fun (v1, P2, F3, A4, J5) =>
  cond (g_cnd .ne v1 0)
  ((m_ld (A4 37 4) 401 (F3 37 8)).bind fun v7 =>
  cond (g_cnd .lt v7 x1)
  (e_Reader_takeNumber_34 P2 F3 A4 J5 v7)
  (cond (g_cnd .le v7 x2)
  (some (v7, P2, F3, A4, J5))
  (e_Reader_takeNumber_34 P2 F3 A4 J5 v7)))
  (some (x1, P2, F3, A4, J5))
set_option maxRecDepth 10000 in
theorem t_e_Reader_takeNumber (ht : ∀ ci k, t.1 ci k = k_ty ci k) {P : Nat → Nat → Nat} {F : Nat → Nat → Int32} {A : Nat → Nat → Nat → Int32} {J : Nat → Nat → Nat → Int64} {x1 : Int32} {x2 : Int32}  {w : Int32 × (Nat → Nat → Nat) × (Nat → Nat → Int32) × (Nat → Nat → Nat → Int32) × (Nat → Nat → Nat → Int64)} : e_Reader_takeNumber P F A J x1 x2 = some w → k_run t lg (d + 2) 50 0 [(0, .ref (37 * 1024)), (1, .int x1), (2, .int x2)] [] (c_h c B P F A J) (some (.int w.1), c_h c B w.2.1 w.2.2.1 w.2.2.2.1 w.2.2.2.2) := by
  intro hD
  unfold e_Reader_takeNumber at hD
  refine k_runB (pc' := 3) (loc' := [(0, .ref (37 * 1024)), (1, .int x1), (2, .int x2)]) (st' := [.int 101, .ref (37 * 1024)]) 2 rfl ?_
  obtain ⟨⟨v1, P2, F3, A4, J5⟩, hv1, hD⟩ := Option.bind_eq_some_iff.mp hD
  dsimp only at hD
  refine k_runV rfl rfl rfl (c_get (r := 37) (o := 0) (K := 11) rfl (by decide)) rfl rfl (t_e_Reader_take (d := d) ht hv1) ?_
  refine k_if rfl (fun c6_5 => ?_) (fun c6_5 => ?_)
  · rw [c6_5, cond_true] at hD
    refine k_runB (pc' := 12) (loc' := [(0, .ref (37 * 1024)), (1, .int x1), (2, .int x2)]) (st' := [.ref (37 * 1024)]) 1 rfl ?_
    refine k_gf 37 0 (K := 11) rfl rfl rfl rfl rfl ?_
    refine k_gf 37 1 (K := 11) rfl rfl rfl rfl rfl ?_
    refine k_runB (pc' := 19) (loc' := [(0, .ref (37 * 1024)), (1, .int x1), (2, .int x2)]) (st' := [.ref (37 * 1024), .ref (37 * 1024 + 4)]) 1 rfl ?_
    refine k_gf 37 0 (K := 11) rfl rfl rfl rfl rfl ?_
    obtain ⟨v7, hv7, hD⟩ := Option.bind_eq_some_iff.mp hD
    refine k_ldI rfl (c_get (r := 37) (o := 4) (K := 11) rfl (by decide)) hv7 ?_
    refine k_runB (pc' := 26) (loc' := [(0, .ref (37 * 1024)), (1, .int x1), (2, .int x2), (3, .int v7)]) (st' := [.int x1, .int v7]) 3 rfl ?_
    refine k_ic rfl (fun c26_7 => ?_) (fun c26_7 => ?_)
    · rw [c26_7, cond_true] at hD
      refine k_wk [0, 3] (loc' := [(0, .ref (37 * 1024)), (3, .int v7)]) rfl rfl ?_
      exact t_e_Reader_takeNumber_34 ht   hD
    · rw [c26_7, cond_false] at hD
      refine k_runB (pc' := 31) (loc' := [(0, .ref (37 * 1024)), (1, .int x1), (2, .int x2), (3, .int v7)]) (st' := [.int x2, .int v7]) 2 rfl ?_
      refine k_ic rfl (fun c31_8 => ?_) (fun c31_8 => ?_)
      · rw [c31_8, cond_true] at hD
        refine k_runB (pc' := 40) (loc' := [(0, .ref (37 * 1024)), (1, .int x1), (2, .int x2), (3, .int v7)]) (st' := [.int v7]) 1 rfl ?_
        cases hD
        exact k_iret rfl rfl
      · rw [c31_8, cond_false] at hD
        refine k_wk [0, 3] (loc' := [(0, .ref (37 * 1024)), (3, .int v7)]) rfl rfl ?_
        exact t_e_Reader_takeNumber_34 ht   hD
  · rw [c6_5, cond_false] at hD
    refine k_runB (pc' := 10) (loc' := [(0, .ref (37 * 1024)), (1, .int x1), (2, .int x2)]) (st' := [.int x1]) 1 rfl ?_
    cases hD
    exact k_iret rfl rfl
end MC
