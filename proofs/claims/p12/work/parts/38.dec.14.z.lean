section Qz30
/-! the class's methods as functions (printed by wip/dec2.py) -/
section MC
variable {t : gT} {lg : Nat → Nat} {d : Nat} {c : Nat × Nat} {B : Nat → List gE}
/-- SleepWork$Told.isFull()Z  -/
def e_Told_isFull (P : Nat → Nat → Nat) (F : Nat → Nat → Int32) (A : Nat → Nat → Nat → Int32) (J : Nat → Nat → Nat → Int64) : Option (Int32) :=
  cond (g_cnd .lt (F 25 2) 30)
  (some (0))
  (some (1))
set_option maxRecDepth 10000 in
theorem t_e_Told_isFull {P : Nat → Nat → Nat} {F : Nat → Nat → Int32} {A : Nat → Nat → Nat → Int32} {J : Nat → Nat → Nat → Int64}   {w : Int32} : e_Told_isFull P F A J = some w → k_run t lg (d) 90 0 [(0, .ref (25 * 1024))] [] (c_h c B P F A J) (some (.int w), c_h c B P F A J) := by
  intro hD
  unfold e_Told_isFull at hD
  refine k_runB (pc' := 1) (loc' := [(0, .ref (25 * 1024))]) (st' := [.ref (25 * 1024)]) 1 rfl ?_
  refine k_gf 25 0 (K := 4) rfl rfl rfl rfl rfl ?_
  refine k_runB (pc' := 6) (loc' := [(0, .ref (25 * 1024))]) (st' := [.int 30, .int (F 25 2)]) 1 rfl ?_
  refine k_ic rfl (fun c6_0 => ?_) (fun c6_0 => ?_)
  · rw [c6_0, cond_true] at hD
    refine k_runB (pc' := 14) (loc' := [(0, .ref (25 * 1024))]) (st' := [.int 0]) 1 rfl ?_
    cases hD
    exact k_zret rfl rfl (Or.inl rfl)
  · rw [c6_0, cond_false] at hD
    refine k_runB (pc' := 14) (loc' := [(0, .ref (25 * 1024))]) (st' := [.int 1]) 2 rfl ?_
    cases hD
    exact k_zret rfl rfl (Or.inr rfl)
/-- SleepWork$Told.add(II)I  -/
def e_Told_add (P : Nat → Nat → Nat) (F : Nat → Nat → Int32) (A : Nat → Nat → Nat → Int32) (J : Nat → Nat → Nat → Int64) (x1 : Int32) (x2 : Int32) : Option (Int32 × (Nat → Nat → Nat) × (Nat → Nat → Int32) × (Nat → Nat → Nat → Int32) × (Nat → Nat → Nat → Int64)) :=
  (c_st A 25 1 30 (F 25 2) x1).bind fun A1 =>
  (c_st A1 25 2 30 (F 25 2) x2).bind fun A2 =>
  (c_pf F 25 2 ((F 25 2) + 1)).bind fun F3 =>
  some ((F3 25 2) - 1, P, F3, A2, J)
set_option maxRecDepth 10000 in
theorem t_e_Told_add (ht : ∀ ci k, t.1 ci k = k_ty ci k) {P : Nat → Nat → Nat} {F : Nat → Nat → Int32} {A : Nat → Nat → Nat → Int32} {J : Nat → Nat → Nat → Int64} {x1 : Int32} {x2 : Int32}  {w : Int32 × (Nat → Nat → Nat) × (Nat → Nat → Int32) × (Nat → Nat → Nat → Int32) × (Nat → Nat → Nat → Int64)} : e_Told_add P F A J x1 x2 = some w → k_run t lg (d) 91 0 [(0, .ref (25 * 1024)), (1, .int x1), (2, .int x2)] [] (c_h c B P F A J) (some (.int w.1), c_h c B w.2.1 w.2.2.1 w.2.2.2.1 w.2.2.2.2) := by
  intro hD
  unfold e_Told_add at hD
  refine k_runB (pc' := 1) (loc' := [(0, .ref (25 * 1024)), (1, .int x1), (2, .int x2)]) (st' := [.ref (25 * 1024)]) 1 rfl ?_
  refine k_gf 25 0 (K := 4) rfl rfl rfl rfl rfl ?_
  refine k_runB (pc' := 5) (loc' := [(0, .ref (25 * 1024)), (1, .int x1), (2, .int x2)]) (st' := [.ref (25 * 1024), .ref (25 * 1024 + 1)]) 1 rfl ?_
  refine k_gf 25 0 (K := 4) rfl rfl rfl rfl rfl ?_
  refine k_runB (pc' := 9) (loc' := [(0, .ref (25 * 1024)), (1, .int x1), (2, .int x2)]) (st' := [.int x1, .int (F 25 2), .ref (25 * 1024 + 1)]) 1 rfl ?_
  obtain ⟨A1, hA1, hD⟩ := Option.bind_eq_some_iff.mp hD
  refine k_cstI 25 1 (K := 4) rfl rfl rfl rfl (fun _ => rfl) hA1 ?_
  refine k_runB (pc' := 11) (loc' := [(0, .ref (25 * 1024)), (1, .int x1), (2, .int x2)]) (st' := [.ref (25 * 1024)]) 1 rfl ?_
  refine k_gf 25 0 (K := 4) rfl rfl rfl rfl rfl ?_
  refine k_runB (pc' := 15) (loc' := [(0, .ref (25 * 1024)), (1, .int x1), (2, .int x2)]) (st' := [.ref (25 * 1024), .ref (25 * 1024 + 2)]) 1 rfl ?_
  refine k_gf 25 0 (K := 4) rfl rfl rfl rfl rfl ?_
  refine k_runB (pc' := 19) (loc' := [(0, .ref (25 * 1024)), (1, .int x1), (2, .int x2)]) (st' := [.int x2, .int (F 25 2), .ref (25 * 1024 + 2)]) 1 rfl ?_
  obtain ⟨A2, hA2, hD⟩ := Option.bind_eq_some_iff.mp hD
  refine k_cstI 25 2 (K := 4) rfl rfl rfl rfl (fun _ => rfl) hA2 ?_
  refine k_runB (pc' := 22) (loc' := [(0, .ref (25 * 1024)), (1, .int x1), (2, .int x2)]) (st' := [.ref (25 * 1024), .ref (25 * 1024)]) 2 rfl ?_
  refine k_gf 25 0 (K := 4) rfl rfl rfl rfl rfl ?_
  refine k_runB (pc' := 27) (loc' := [(0, .ref (25 * 1024)), (1, .int x1), (2, .int x2)]) (st' := [.int ((F 25 2) + 1), .ref (25 * 1024)]) 2 rfl ?_
  obtain ⟨F3, hF3, hD⟩ := Option.bind_eq_some_iff.mp hD
  refine k_cpt 25 0 (K := 4) (key := 2) rfl rfl (ht 9 2) rfl rfl rfl hF3 ?_
  refine k_runB (pc' := 31) (loc' := [(0, .ref (25 * 1024)), (1, .int x1), (2, .int x2)]) (st' := [.ref (25 * 1024)]) 1 rfl ?_
  refine k_gf 25 0 (K := 4) rfl rfl rfl rfl rfl ?_
  refine k_runB (pc' := 36) (loc' := [(0, .ref (25 * 1024)), (1, .int x1), (2, .int x2)]) (st' := [.int ((F3 25 2) - 1)]) 2 rfl ?_
  cases hD
  exact k_iret rfl rfl
/-- SleepWork.feed(IIIII)I  -/
def e_SleepWork_feed (n : Nat) (P : Nat → Nat → Nat) (F : Nat → Nat → Int32) (A : Nat → Nat → Nat → Int32) (J : Nat → Nat → Nat → Int64) (x1 : Int32) (x2 : Int32) (x3 : Int32) (x4 : Int32) (x5 : Int32) : Option (Int32 × (Nat → Nat → Nat) × (Nat → Nat → Int32) × (Nat → Nat → Nat → Int32) × (Nat → Nat → Nat → Int64)) :=
  (e_Tape_hasSpace P F A J).bind fun v1 =>
  cond (g_cnd .ne v1 0)
  ((e_Tape_addWord n P F A J x1).bind fun (_, P4, F5, A6, J7) =>
  (e_Tape_addWord n P4 F5 A6 J7 x2).bind fun (_, P9, F10, A11, J12) =>
  (e_Tape_addWord n P9 F10 A11 J12 x3).bind fun (_, P14, F15, A16, J17) =>
  (e_Tape_addWord n P14 F15 A16 J17 x4).bind fun (_, P19, F20, A21, J22) =>
  (e_Tape_addWord n P19 F20 A21 J22 x5).bind fun (_, P24, F25, A26, J27) =>
  some (F25 1 1, P24, F25, A26, J27))
  (some ((-1), P, F, A, J))
set_option maxRecDepth 10000 in
theorem t_e_SleepWork_feed (ht : ∀ ci k, t.1 ci k = k_ty ci k) {n : Nat} {P : Nat → Nat → Nat} {F : Nat → Nat → Int32} {A : Nat → Nat → Nat → Int32} {J : Nat → Nat → Nat → Int64} {x1 : Int32} {x2 : Int32} {x3 : Int32} {x4 : Int32} {x5 : Int32}  {w : Int32 × (Nat → Nat → Nat) × (Nat → Nat → Int32) × (Nat → Nat → Nat → Int32) × (Nat → Nat → Nat → Int64)} : e_SleepWork_feed n P F A J x1 x2 x3 x4 x5 = some w → k_run t lg (d + 1) 99 0 [(0, .ref (0 * 1024)), (1, .int x1), (2, .int x2), (3, .int x3), (4, .int x4), (5, .int x5)] [] (c_h c B P F A J) (some (.int w.1), c_h c B w.2.1 w.2.2.1 w.2.2.2.1 w.2.2.2.2) := by
  intro hD
  unfold e_SleepWork_feed at hD
  refine k_runB (pc' := 1) (loc' := [(0, .ref (0 * 1024)), (1, .int x1), (2, .int x2), (3, .int x3), (4, .int x4), (5, .int x5)]) (st' := [.ref (0 * 1024)]) 1 rfl ?_
  refine k_gf 0 0 (K := 0) rfl rfl rfl rfl rfl ?_
  obtain ⟨v1, hv1, hD⟩ := Option.bind_eq_some_iff.mp hD
  refine k_runV rfl rfl rfl (c_get (r := 1) (o := 0) (K := 1) rfl (by decide)) rfl rfl (t_e_Tape_hasSpace (d := d) hv1) ?_
  refine k_if rfl (fun c7_1 => ?_) (fun c7_1 => ?_)
  · rw [c7_1, cond_true] at hD
    refine k_runB (pc' := 13) (loc' := [(0, .ref (0 * 1024)), (1, .int x1), (2, .int x2), (3, .int x3), (4, .int x4), (5, .int x5)]) (st' := [.ref (0 * 1024)]) 1 rfl ?_
    refine k_gf 0 0 (K := 0) rfl rfl rfl rfl rfl ?_
    refine k_runB (pc' := 17) (loc' := [(0, .ref (0 * 1024)), (1, .int x1), (2, .int x2), (3, .int x3), (4, .int x4), (5, .int x5)]) (st' := [.int x1, .ref (1 * 1024)]) 1 rfl ?_
    obtain ⟨⟨v3, P4, F5, A6, J7⟩, hv3, hD⟩ := Option.bind_eq_some_iff.mp hD
    dsimp only at hD
    refine k_runV rfl rfl rfl (c_get (r := 1) (o := 0) (K := 1) rfl (by decide)) rfl rfl (t_e_Tape_addWord (d := d) ht hv3) ?_
    refine k_runB (pc' := 21) (loc' := [(0, .ref (0 * 1024)), (1, .int x1), (2, .int x2), (3, .int x3), (4, .int x4), (5, .int x5)]) (st' := [.ref (0 * 1024)]) 1 rfl ?_
    refine k_gf 0 0 (K := 0) rfl rfl rfl rfl rfl ?_
    refine k_runB (pc' := 25) (loc' := [(0, .ref (0 * 1024)), (1, .int x1), (2, .int x2), (3, .int x3), (4, .int x4), (5, .int x5)]) (st' := [.int x2, .ref (1 * 1024)]) 1 rfl ?_
    obtain ⟨⟨v8, P9, F10, A11, J12⟩, hv8, hD⟩ := Option.bind_eq_some_iff.mp hD
    dsimp only at hD
    refine k_runV rfl rfl rfl (c_get (r := 1) (o := 0) (K := 1) rfl (by decide)) rfl rfl (t_e_Tape_addWord (d := d) ht hv8) ?_
    refine k_runB (pc' := 29) (loc' := [(0, .ref (0 * 1024)), (1, .int x1), (2, .int x2), (3, .int x3), (4, .int x4), (5, .int x5)]) (st' := [.ref (0 * 1024)]) 1 rfl ?_
    refine k_gf 0 0 (K := 0) rfl rfl rfl rfl rfl ?_
    refine k_runB (pc' := 33) (loc' := [(0, .ref (0 * 1024)), (1, .int x1), (2, .int x2), (3, .int x3), (4, .int x4), (5, .int x5)]) (st' := [.int x3, .ref (1 * 1024)]) 1 rfl ?_
    obtain ⟨⟨v13, P14, F15, A16, J17⟩, hv13, hD⟩ := Option.bind_eq_some_iff.mp hD
    dsimp only at hD
    refine k_runV rfl rfl rfl (c_get (r := 1) (o := 0) (K := 1) rfl (by decide)) rfl rfl (t_e_Tape_addWord (d := d) ht hv13) ?_
    refine k_runB (pc' := 37) (loc' := [(0, .ref (0 * 1024)), (1, .int x1), (2, .int x2), (3, .int x3), (4, .int x4), (5, .int x5)]) (st' := [.ref (0 * 1024)]) 1 rfl ?_
    refine k_gf 0 0 (K := 0) rfl rfl rfl rfl rfl ?_
    refine k_runB (pc' := 42) (loc' := [(0, .ref (0 * 1024)), (1, .int x1), (2, .int x2), (3, .int x3), (4, .int x4), (5, .int x5)]) (st' := [.int x4, .ref (1 * 1024)]) 1 rfl ?_
    obtain ⟨⟨v18, P19, F20, A21, J22⟩, hv18, hD⟩ := Option.bind_eq_some_iff.mp hD
    dsimp only at hD
    refine k_runV rfl rfl rfl (c_get (r := 1) (o := 0) (K := 1) rfl (by decide)) rfl rfl (t_e_Tape_addWord (d := d) ht hv18) ?_
    refine k_runB (pc' := 46) (loc' := [(0, .ref (0 * 1024)), (1, .int x1), (2, .int x2), (3, .int x3), (4, .int x4), (5, .int x5)]) (st' := [.ref (0 * 1024)]) 1 rfl ?_
    refine k_gf 0 0 (K := 0) rfl rfl rfl rfl rfl ?_
    refine k_runB (pc' := 51) (loc' := [(0, .ref (0 * 1024)), (1, .int x1), (2, .int x2), (3, .int x3), (4, .int x4), (5, .int x5)]) (st' := [.int x5, .ref (1 * 1024)]) 1 rfl ?_
    obtain ⟨⟨v23, P24, F25, A26, J27⟩, hv23, hD⟩ := Option.bind_eq_some_iff.mp hD
    dsimp only at hD
    refine k_runV rfl rfl rfl (c_get (r := 1) (o := 0) (K := 1) rfl (by decide)) rfl rfl (t_e_Tape_addWord (d := d) ht hv23) ?_
    refine k_runB (pc' := 55) (loc' := [(0, .ref (0 * 1024)), (1, .int x1), (2, .int x2), (3, .int x3), (4, .int x4), (5, .int x5)]) (st' := [.ref (0 * 1024)]) 1 rfl ?_
    refine k_gf 0 0 (K := 0) rfl rfl rfl rfl rfl ?_
    refine k_gf 1 0 (K := 1) rfl rfl rfl rfl rfl ?_
    cases hD
    exact k_iret rfl rfl
  · rw [c7_1, cond_false] at hD
    refine k_runB (pc' := 11) (loc' := [(0, .ref (0 * 1024)), (1, .int x1), (2, .int x2), (3, .int x3), (4, .int x4), (5, .int x5)]) (st' := [.int ((-1))]) 1 rfl ?_
    cases hD
    exact k_iret rfl rfl
/-- SleepWork.back(I)I  -/
def e_SleepWork_back (P : Nat → Nat → Nat) (F : Nat → Nat → Int32) (A : Nat → Nat → Nat → Int32) (J : Nat → Nat → Nat → Int64) (x1 : Int32) : Option (Int32 × (Nat → Nat → Nat) × (Nat → Nat → Int32) × (Nat → Nat → Nat → Int32) × (Nat → Nat → Nat → Int64)) :=
  cond (g_cnd .lt x1 0)
  (some ((-1), P, F, A, J))
  (cond (g_cnd .le x1 (F 1 1))
  ((c_pf F 1 1 ((F 1 1) - x1)).bind fun F3 =>
  some (F3 1 1, P, F3, A, J))
  (some ((-1), P, F, A, J)))
set_option maxRecDepth 10000 in
theorem t_e_SleepWork_back (ht : ∀ ci k, t.1 ci k = k_ty ci k) {P : Nat → Nat → Nat} {F : Nat → Nat → Int32} {A : Nat → Nat → Nat → Int32} {J : Nat → Nat → Nat → Int64} {x1 : Int32}  {w : Int32 × (Nat → Nat → Nat) × (Nat → Nat → Int32) × (Nat → Nat → Nat → Int32) × (Nat → Nat → Nat → Int64)} : e_SleepWork_back P F A J x1 = some w → k_run t lg (d) 100 0 [(0, .ref (0 * 1024)), (1, .int x1)] [] (c_h c B P F A J) (some (.int w.1), c_h c B w.2.1 w.2.2.1 w.2.2.2.1 w.2.2.2.2) := by
  intro hD
  unfold e_SleepWork_back at hD
  refine k_runB (pc' := 1) (loc' := [(0, .ref (0 * 1024)), (1, .int x1)]) (st' := [.int x1]) 1 rfl ?_
  refine k_if rfl (fun c1_0 => ?_) (fun c1_0 => ?_)
  · rw [c1_0, cond_true] at hD
    refine k_runB (pc' := 16) (loc' := [(0, .ref (0 * 1024)), (1, .int x1)]) (st' := [.int ((-1))]) 1 rfl ?_
    cases hD
    exact k_iret rfl rfl
  · rw [c1_0, cond_false] at hD
    refine k_runB (pc' := 6) (loc' := [(0, .ref (0 * 1024)), (1, .int x1)]) (st' := [.ref (0 * 1024), .int x1]) 2 rfl ?_
    refine k_gf 0 0 (K := 0) rfl rfl rfl rfl rfl ?_
    refine k_gf 1 0 (K := 1) rfl rfl rfl rfl rfl ?_
    refine k_ic rfl (fun c12_1 => ?_) (fun c12_1 => ?_)
    · rw [c12_1, cond_true] at hD
      refine k_runB (pc' := 18) (loc' := [(0, .ref (0 * 1024)), (1, .int x1)]) (st' := [.ref (0 * 1024)]) 1 rfl ?_
      refine k_gf 0 0 (K := 0) rfl rfl rfl rfl rfl ?_
      refine k_runB (pc' := 22) (loc' := [(0, .ref (0 * 1024)), (1, .int x1)]) (st' := [.ref (1 * 1024), .ref (1 * 1024)]) 1 rfl ?_
      refine k_gf 1 0 (K := 1) rfl rfl rfl rfl rfl ?_
      refine k_runB (pc' := 27) (loc' := [(0, .ref (0 * 1024)), (1, .int x1)]) (st' := [.int ((F 1 1) - x1), .ref (1 * 1024)]) 2 rfl ?_
      obtain ⟨F3, hF3, hD⟩ := Option.bind_eq_some_iff.mp hD
      refine k_cpt 1 0 (K := 1) (key := 1) rfl rfl (ht 8 1) rfl rfl rfl hF3 ?_
      refine k_runB (pc' := 31) (loc' := [(0, .ref (0 * 1024)), (1, .int x1)]) (st' := [.ref (0 * 1024)]) 1 rfl ?_
      refine k_gf 0 0 (K := 0) rfl rfl rfl rfl rfl ?_
      refine k_gf 1 0 (K := 1) rfl rfl rfl rfl rfl ?_
      cases hD
      exact k_iret rfl rfl
    · rw [c12_1, cond_false] at hD
      refine k_runB (pc' := 16) (loc' := [(0, .ref (0 * 1024)), (1, .int x1)]) (st' := [.int ((-1))]) 1 rfl ?_
      cases hD
      exact k_iret rfl rfl
/-- SleepWork.moveIn()V  -/
def e_SleepWork_moveIn (P : Nat → Nat → Nat) (F : Nat → Nat → Int32) (A : Nat → Nat → Nat → Int32) (J : Nat → Nat → Nat → Int64) : Option (Unit × (Nat → Nat → Nat) × (Nat → Nat → Int32) × (Nat → Nat → Nat → Int32) × (Nat → Nat → Nat → Int64)) :=
  (c_chk 6 (P 0 8)).bind fun q1 =>
  (c_chk 6 (P 0 9)).bind fun q2 =>
  (c_pp P 0 8 q2).bind fun P3 =>
  (c_pp P3 0 9 q1).bind fun P4 =>
  (e_State_copy P4 F A J 2 3).bind fun (_, P6, F7, A8, J9) =>
  (c_pf F7 4 2 0).bind fun F10 =>
  (c_pf F10 25 2 0).bind fun F11 =>
  (c_pf F11 0 10 0).bind fun F12 =>
  (c_chk 6 (P6 0 8)).bind fun q13 =>
  (e_Evening_enter P6 F12 A8 J9 q13).bind fun (_, P15, F16, A17, J18) =>
  some ((), P15, F16, A17, J18)
set_option maxRecDepth 10000 in
theorem t_e_SleepWork_moveIn (ht : ∀ ci k, t.1 ci k = k_ty ci k) {P : Nat → Nat → Nat} {F : Nat → Nat → Int32} {A : Nat → Nat → Nat → Int32} {J : Nat → Nat → Nat → Int64}   {w : Unit × (Nat → Nat → Nat) × (Nat → Nat → Int32) × (Nat → Nat → Nat → Int32) × (Nat → Nat → Nat → Int64)} : e_SleepWork_moveIn P F A J = some w → k_run t lg (d + 2) 102 0 [(0, .ref (0 * 1024))] [] (c_h c B P F A J) (none, c_h c B w.2.1 w.2.2.1 w.2.2.2.1 w.2.2.2.2) := by
  intro hD
  unfold e_SleepWork_moveIn at hD
  refine k_runB (pc' := 1) (loc' := [(0, .ref (0 * 1024))]) (st' := [.ref (0 * 1024)]) 1 rfl ?_
  obtain ⟨q1, hq1, hD⟩ := Option.bind_eq_some_iff.mp hD
  refine k_gq 0 0 (K := 0) (K2 := 6) (key := 8) rfl rfl rfl rfl rfl hq1 (fun kq1 => ?_)
  refine k_runB (pc' := 7) (loc' := [(0, .ref (0 * 1024)), (1, .ref (q1 * 1024))]) (st' := [.ref (0 * 1024), .ref (0 * 1024)]) 3 rfl ?_
  obtain ⟨q2, hq2, hD⟩ := Option.bind_eq_some_iff.mp hD
  refine k_gq 0 0 (K := 0) (K2 := 6) (key := 9) rfl rfl rfl rfl rfl hq2 (fun kq2 => ?_)
  obtain ⟨P3, hP3, hD⟩ := Option.bind_eq_some_iff.mp hD
  refine k_cpp 0 0 (K := 0) (key := 8) (C := "SleepWork$House") (q := q2) rfl rfl (ht 11 8) rfl rfl rfl hP3 ?_
  refine k_runB (pc' := 15) (loc' := [(0, .ref (0 * 1024)), (1, .ref (q1 * 1024))]) (st' := [.ref (q1 * 1024), .ref (0 * 1024)]) 2 rfl ?_
  obtain ⟨P4, hP4, hD⟩ := Option.bind_eq_some_iff.mp hD
  refine k_cpp 0 0 (K := 0) (key := 9) (C := "SleepWork$House") (q := q1) rfl rfl (ht 11 9) rfl rfl rfl hP4 ?_
  refine k_runB (pc' := 19) (loc' := [(0, .ref (0 * 1024)), (1, .ref (q1 * 1024))]) (st' := [.ref (0 * 1024)]) 1 rfl ?_
  refine k_gf 0 0 (K := 0) rfl rfl rfl rfl rfl ?_
  refine k_runB (pc' := 23) (loc' := [(0, .ref (0 * 1024)), (1, .ref (q1 * 1024))]) (st' := [.ref (0 * 1024), .ref (2 * 1024)]) 1 rfl ?_
  refine k_gf 0 0 (K := 0) rfl rfl rfl rfl rfl ?_
  obtain ⟨⟨v5, P6, F7, A8, J9⟩, hv5, hD⟩ := Option.bind_eq_some_iff.mp hD
  dsimp only at hD
  refine k_runV rfl rfl rfl (c_get (r := 2) (o := 0) (K := 2) rfl (by decide)) rfl rfl (t_e_State_copy (d := d + 1) ht rfl rfl hv5) ?_
  refine k_runB (pc' := 30) (loc' := [(0, .ref (0 * 1024)), (1, .ref (q1 * 1024))]) (st' := [.ref (0 * 1024)]) 1 rfl ?_
  refine k_gf 0 0 (K := 0) rfl rfl rfl rfl rfl ?_
  refine k_runB (pc' := 34) (loc' := [(0, .ref (0 * 1024)), (1, .ref (q1 * 1024))]) (st' := [.int 0, .ref (4 * 1024)]) 1 rfl ?_
  obtain ⟨F10, hF10, hD⟩ := Option.bind_eq_some_iff.mp hD
  refine k_cpt 4 0 (K := 3) (key := 2) rfl rfl (ht 3 2) rfl rfl rfl hF10 ?_
  refine k_runB (pc' := 38) (loc' := [(0, .ref (0 * 1024)), (1, .ref (q1 * 1024))]) (st' := [.ref (0 * 1024)]) 1 rfl ?_
  refine k_gf 0 0 (K := 0) rfl rfl rfl rfl rfl ?_
  refine k_runB (pc' := 42) (loc' := [(0, .ref (0 * 1024)), (1, .ref (q1 * 1024))]) (st' := [.int 0, .ref (25 * 1024)]) 1 rfl ?_
  obtain ⟨F11, hF11, hD⟩ := Option.bind_eq_some_iff.mp hD
  refine k_cpt 25 0 (K := 4) (key := 2) rfl rfl (ht 9 2) rfl rfl rfl hF11 ?_
  refine k_runB (pc' := 47) (loc' := [(0, .ref (0 * 1024)), (1, .ref (q1 * 1024))]) (st' := [.int 0, .ref (0 * 1024)]) 2 rfl ?_
  obtain ⟨F12, hF12, hD⟩ := Option.bind_eq_some_iff.mp hD
  refine k_cpt 0 0 (K := 0) (key := 10) rfl rfl (ht 11 10) rfl rfl rfl hF12 ?_
  refine k_runB (pc' := 51) (loc' := [(0, .ref (0 * 1024)), (1, .ref (q1 * 1024))]) (st' := [.ref (0 * 1024)]) 1 rfl ?_
  refine k_gf 0 0 (K := 0) rfl rfl rfl rfl rfl ?_
  refine k_runB (pc' := 55) (loc' := [(0, .ref (0 * 1024)), (1, .ref (q1 * 1024))]) (st' := [.ref (0 * 1024), .ref (32 * 1024)]) 1 rfl ?_
  obtain ⟨q13, hq13, hD⟩ := Option.bind_eq_some_iff.mp hD
  refine k_gq 0 0 (K := 0) (K2 := 6) (key := 8) rfl rfl rfl rfl rfl hq13 (fun kq13 => ?_)
  obtain ⟨⟨v14, P15, F16, A17, J18⟩, hv14, hD⟩ := Option.bind_eq_some_iff.mp hD
  dsimp only at hD
  refine k_runV rfl rfl rfl (c_get (r := 32) (o := 0) (K := 7) rfl (by decide)) rfl rfl (t_e_Evening_enter (d := d) ht kq13 hv14) ?_
  cases hD
  exact k_vret rfl rfl
/-- SleepWork.read()I  -/
def e_SleepWork_read (n : Nat) (P : Nat → Nat → Nat) (F : Nat → Nat → Int32) (A : Nat → Nat → Nat → Int32) (J : Nat → Nat → Nat → Int64) : Option (Int32 × (Nat → Nat → Nat) × (Nat → Nat → Int32) × (Nat → Nat → Nat → Int32) × (Nat → Nat → Nat → Int64)) :=
  (c_chk 6 (P 0 9)).bind fun q1 =>
  (e_Reader_readText n P F A J q1 3).bind fun (v2, P3, F4, A5, J6) =>
  (e_Reader_placeOfFault P3 F4 A5 J6).bind fun v7 =>
  (c_pf F4 0 11 v7).bind fun F8 =>
  (c_pf F8 1 1 0).bind fun F9 =>
  cond (g_cnd .ne v2 0)
  (some (v2, P3, F9, A5, J6))
  ((e_SleepWork_moveIn P3 F9 A5 J6).bind fun (_, P12, F13, A14, J15) =>
  some (v2, P12, F13, A14, J15))
set_option maxRecDepth 10000 in
theorem t_e_SleepWork_read (ht : ∀ ci k, t.1 ci k = k_ty ci k) {n : Nat} {P : Nat → Nat → Nat} {F : Nat → Nat → Int32} {A : Nat → Nat → Nat → Int32} {J : Nat → Nat → Nat → Int64}   {w : Int32 × (Nat → Nat → Nat) × (Nat → Nat → Int32) × (Nat → Nat → Nat → Int32) × (Nat → Nat → Nat → Int64)} : e_SleepWork_read n P F A J = some w → k_run t lg (d + 24) 101 0 [(0, .ref (0 * 1024))] [] (c_h c B P F A J) (some (.int w.1), c_h c B w.2.1 w.2.2.1 w.2.2.2.1 w.2.2.2.2) := by
  intro hD
  unfold e_SleepWork_read at hD
  refine k_runB (pc' := 1) (loc' := [(0, .ref (0 * 1024))]) (st' := [.ref (0 * 1024)]) 1 rfl ?_
  refine k_gf 0 0 (K := 0) rfl rfl rfl rfl rfl ?_
  refine k_runB (pc' := 5) (loc' := [(0, .ref (0 * 1024))]) (st' := [.ref (0 * 1024), .ref (37 * 1024)]) 1 rfl ?_
  refine k_gf 0 0 (K := 0) rfl rfl rfl rfl rfl ?_
  refine k_runB (pc' := 9) (loc' := [(0, .ref (0 * 1024))]) (st' := [.ref (0 * 1024), .ref (1 * 1024), .ref (37 * 1024)]) 1 rfl ?_
  obtain ⟨q1, hq1, hD⟩ := Option.bind_eq_some_iff.mp hD
  refine k_gq 0 0 (K := 0) (K2 := 6) (key := 9) rfl rfl rfl rfl rfl hq1 (fun kq1 => ?_)
  refine k_runB (pc' := 13) (loc' := [(0, .ref (0 * 1024))]) (st' := [.ref (0 * 1024), .ref (q1 * 1024), .ref (1 * 1024), .ref (37 * 1024)]) 1 rfl ?_
  refine k_gf 0 0 (K := 0) rfl rfl rfl rfl rfl ?_
  obtain ⟨⟨v2, P3, F4, A5, J6⟩, hv2, hD⟩ := Option.bind_eq_some_iff.mp hD
  dsimp only at hD
  refine k_runV rfl rfl rfl (c_get (r := 37) (o := 0) (K := 11) rfl (by decide)) rfl rfl (t_e_Reader_readText (d := d) ht kq1 rfl hv2) ?_
  refine k_runB (pc' := 22) (loc' := [(0, .ref (0 * 1024)), (1, .int v2)]) (st' := [.ref (0 * 1024), .ref (0 * 1024)]) 3 rfl ?_
  refine k_gf 0 0 (K := 0) rfl rfl rfl rfl rfl ?_
  obtain ⟨v7, hv7, hD⟩ := Option.bind_eq_some_iff.mp hD
  refine k_runV rfl rfl rfl (c_get (r := 37) (o := 0) (K := 11) rfl (by decide)) rfl rfl (t_e_Reader_placeOfFault (d := d + 23) hv7) ?_
  obtain ⟨F8, hF8, hD⟩ := Option.bind_eq_some_iff.mp hD
  refine k_cpt 0 0 (K := 0) (key := 11) rfl rfl (ht 11 11) rfl rfl rfl hF8 ?_
  refine k_runB (pc' := 32) (loc' := [(0, .ref (0 * 1024)), (1, .int v2)]) (st' := [.ref (0 * 1024)]) 1 rfl ?_
  refine k_gf 0 0 (K := 0) rfl rfl rfl rfl rfl ?_
  refine k_runB (pc' := 36) (loc' := [(0, .ref (0 * 1024)), (1, .int v2)]) (st' := [.int 0, .ref (1 * 1024)]) 1 rfl ?_
  obtain ⟨F9, hF9, hD⟩ := Option.bind_eq_some_iff.mp hD
  refine k_cpt 1 0 (K := 1) (key := 1) rfl rfl (ht 8 1) rfl rfl rfl hF9 ?_
  refine k_runB (pc' := 40) (loc' := [(0, .ref (0 * 1024)), (1, .int v2)]) (st' := [.int v2]) 1 rfl ?_
  refine k_if rfl (fun c40_9 => ?_) (fun c40_9 => ?_)
  · rw [c40_9, cond_true] at hD
    refine k_runB (pc' := 48) (loc' := [(0, .ref (0 * 1024)), (1, .int v2)]) (st' := [.int v2]) 1 rfl ?_
    cases hD
    exact k_iret rfl rfl
  · rw [c40_9, cond_false] at hD
    refine k_runB (pc' := 44) (loc' := [(0, .ref (0 * 1024)), (1, .int v2)]) (st' := [.ref (0 * 1024)]) 1 rfl ?_
    obtain ⟨⟨v11, P12, F13, A14, J15⟩, hv11, hD⟩ := Option.bind_eq_some_iff.mp hD
    dsimp only at hD
    refine k_runV rfl rfl rfl (c_get (r := 0) (o := 0) (K := 0) rfl (by decide)) rfl rfl (t_e_SleepWork_moveIn (d := d + 21) ht hv11) ?_
    refine k_runB (pc' := 48) (loc' := [(0, .ref (0 * 1024)), (1, .int v2)]) (st' := [.int v2]) 1 rfl ?_
    cases hD
    exact k_iret rfl rfl
/-- SleepWork.place()I  -/
def e_SleepWork_place (P : Nat → Nat → Nat) (F : Nat → Nat → Int32) (A : Nat → Nat → Nat → Int32) (J : Nat → Nat → Nat → Int64) : Option (Int32) :=
  some (F 0 11)
set_option maxRecDepth 10000 in
theorem t_e_SleepWork_place {P : Nat → Nat → Nat} {F : Nat → Nat → Int32} {A : Nat → Nat → Nat → Int32} {J : Nat → Nat → Nat → Int64}   {w : Int32} : e_SleepWork_place P F A J = some w → k_run t lg (d) 103 0 [(0, .ref (0 * 1024))] [] (c_h c B P F A J) (some (.int w), c_h c B P F A J) := by
  intro hD
  unfold e_SleepWork_place at hD
  refine k_runB (pc' := 1) (loc' := [(0, .ref (0 * 1024))]) (st' := [.ref (0 * 1024)]) 1 rfl ?_
  refine k_gf 0 0 (K := 0) rfl rfl rfl rfl rfl ?_
  cases hD
  exact k_iret rfl rfl
/-- SleepWork.task(II)I  -/
def e_SleepWork_task (n : Nat) (P : Nat → Nat → Nat) (F : Nat → Nat → Int32) (A : Nat → Nat → Nat → Int32) (J : Nat → Nat → Nat → Int64) (x1 : Int32) (x2 : Int32) : Option (Int32) :=
  cond (g_cnd .lt x1 0)
  (some ((-1)))
  ((c_chk 6 (P 0 8)).bind fun q2 =>
  cond (g_cnd .lt x1 (F q2 16))
  (cond (decide (x2 = 0))
  ((c_chk 6 (P 0 8)).bind fun q5 =>
  (m_ld (A q5 4) 6 x1).bind fun v6 =>
  some (v6))
  (cond (decide (x2 = 1))
  ((c_chk 6 (P 0 8)).bind fun q7 =>
  (m_ld (A q7 5) 6 x1).bind fun v8 =>
  some (v8))
  (cond (decide (x2 = 2))
  ((m_ld (A 2 2) 6 x1).bind fun v9 =>
  some (v9))
  (cond (decide (x2 = 3))
  ((c_chk 6 (P 0 8)).bind fun q10 =>
  (e_House_worth n P F A J q10 2 x1).bind fun v11 =>
  some (v11))
  (cond (decide (x2 = 4))
  ((c_chk 6 (P 0 8)).bind fun q12 =>
  (e_House_isEnded n P F A J q12 2 x1).bind fun v13 =>
  cond (g_cnd .eq v13 0)
  (some (0))
  (some (1)))
  (some ((-1))))))))
  (some ((-1))))
set_option maxRecDepth 10000 in
theorem t_e_SleepWork_task {n : Nat} {P : Nat → Nat → Nat} {F : Nat → Nat → Int32} {A : Nat → Nat → Nat → Int32} {J : Nat → Nat → Nat → Int64} {x1 : Int32} {x2 : Int32}  {w : Int32} : e_SleepWork_task n P F A J x1 x2 = some w → k_run t lg (d + 1) 104 0 [(0, .ref (0 * 1024)), (1, .int x1), (2, .int x2)] [] (c_h c B P F A J) (some (.int w), c_h c B P F A J) := by
  intro hD
  unfold e_SleepWork_task at hD
  refine k_runB (pc' := 1) (loc' := [(0, .ref (0 * 1024)), (1, .int x1), (2, .int x2)]) (st' := [.int x1]) 1 rfl ?_
  refine k_if rfl (fun c1_0 => ?_) (fun c1_0 => ?_)
  · rw [c1_0, cond_true] at hD
    refine k_runB (pc' := 16) (loc' := [(0, .ref (0 * 1024)), (1, .int x1), (2, .int x2)]) (st' := [.int ((-1))]) 1 rfl ?_
    cases hD
    exact k_iret rfl rfl
  · rw [c1_0, cond_false] at hD
    refine k_runB (pc' := 6) (loc' := [(0, .ref (0 * 1024)), (1, .int x1), (2, .int x2)]) (st' := [.ref (0 * 1024), .int x1]) 2 rfl ?_
    obtain ⟨q2, hq2, hD⟩ := Option.bind_eq_some_iff.mp hD
    refine k_gq 0 0 (K := 0) (K2 := 6) (key := 8) rfl rfl rfl rfl rfl hq2 (fun kq2 => ?_)
    refine k_gf q2 0 (K := 6) kq2 rfl rfl rfl rfl ?_
    refine k_ic rfl (fun c12_2 => ?_) (fun c12_2 => ?_)
    · rw [c12_2, cond_true] at hD
      refine k_runB (pc' := 18) (loc' := [(0, .ref (0 * 1024)), (1, .int x1), (2, .int x2)]) (st' := [.int x2]) 1 rfl ?_
      cases c18_3_0 : decide (x2 = 0) with
      | true =>
        rw [c18_3_0, cond_true] at hD
        refine k_tab (tgt := 52) rfl (by rw [of_decide_eq_true c18_3_0]; decide) ?_
        refine k_runB (pc' := 53) (loc' := [(0, .ref (0 * 1024)), (1, .int x1), (2, .int x2)]) (st' := [.ref (0 * 1024)]) 1 rfl ?_
        obtain ⟨q5, hq5, hD⟩ := Option.bind_eq_some_iff.mp hD
        refine k_gq 0 0 (K := 0) (K2 := 6) (key := 8) rfl rfl rfl rfl rfl hq5 (fun kq5 => ?_)
        refine k_gf q5 0 (K := 6) kq5 rfl rfl rfl rfl ?_
        refine k_runB (pc' := 60) (loc' := [(0, .ref (0 * 1024)), (1, .int x1), (2, .int x2)]) (st' := [.int x1, .ref (q5 * 1024 + 4)]) 1 rfl ?_
        obtain ⟨v6, hv6, hD⟩ := Option.bind_eq_some_iff.mp hD
        refine k_ldI rfl (c_get (r := q5) (o := 4) (K := 6) kq5 (by decide)) hv6 ?_
        cases hD
        exact k_iret rfl rfl
      | false =>
        rw [c18_3_0, cond_false] at hD
        cases c18_3_1 : decide (x2 = 1) with
        | true =>
          rw [c18_3_1, cond_true] at hD
          refine k_tab (tgt := 62) rfl (by rw [of_decide_eq_true c18_3_1]; decide) ?_
          refine k_runB (pc' := 63) (loc' := [(0, .ref (0 * 1024)), (1, .int x1), (2, .int x2)]) (st' := [.ref (0 * 1024)]) 1 rfl ?_
          obtain ⟨q7, hq7, hD⟩ := Option.bind_eq_some_iff.mp hD
          refine k_gq 0 0 (K := 0) (K2 := 6) (key := 8) rfl rfl rfl rfl rfl hq7 (fun kq7 => ?_)
          refine k_gf q7 0 (K := 6) kq7 rfl rfl rfl rfl ?_
          refine k_runB (pc' := 70) (loc' := [(0, .ref (0 * 1024)), (1, .int x1), (2, .int x2)]) (st' := [.int x1, .ref (q7 * 1024 + 5)]) 1 rfl ?_
          obtain ⟨v8, hv8, hD⟩ := Option.bind_eq_some_iff.mp hD
          refine k_ldI rfl (c_get (r := q7) (o := 5) (K := 6) kq7 (by decide)) hv8 ?_
          cases hD
          exact k_iret rfl rfl
        | false =>
          rw [c18_3_1, cond_false] at hD
          cases c18_3_2 : decide (x2 = 2) with
          | true =>
            rw [c18_3_2, cond_true] at hD
            refine k_tab (tgt := 72) rfl (by rw [of_decide_eq_true c18_3_2]; decide) ?_
            refine k_runB (pc' := 73) (loc' := [(0, .ref (0 * 1024)), (1, .int x1), (2, .int x2)]) (st' := [.ref (0 * 1024)]) 1 rfl ?_
            refine k_gf 0 0 (K := 0) rfl rfl rfl rfl rfl ?_
            refine k_gf 2 0 (K := 2) rfl rfl rfl rfl rfl ?_
            refine k_runB (pc' := 80) (loc' := [(0, .ref (0 * 1024)), (1, .int x1), (2, .int x2)]) (st' := [.int x1, .ref (2 * 1024 + 2)]) 1 rfl ?_
            obtain ⟨v9, hv9, hD⟩ := Option.bind_eq_some_iff.mp hD
            refine k_ldI rfl (c_get (r := 2) (o := 2) (K := 2) rfl (by decide)) hv9 ?_
            cases hD
            exact k_iret rfl rfl
          | false =>
            rw [c18_3_2, cond_false] at hD
            cases c18_3_3 : decide (x2 = 3) with
            | true =>
              rw [c18_3_3, cond_true] at hD
              refine k_tab (tgt := 82) rfl (by rw [of_decide_eq_true c18_3_3]; decide) ?_
              refine k_runB (pc' := 83) (loc' := [(0, .ref (0 * 1024)), (1, .int x1), (2, .int x2)]) (st' := [.ref (0 * 1024)]) 1 rfl ?_
              obtain ⟨q10, hq10, hD⟩ := Option.bind_eq_some_iff.mp hD
              refine k_gq 0 0 (K := 0) (K2 := 6) (key := 8) rfl rfl rfl rfl rfl hq10 (fun kq10 => ?_)
              refine k_runB (pc' := 87) (loc' := [(0, .ref (0 * 1024)), (1, .int x1), (2, .int x2)]) (st' := [.ref (0 * 1024), .ref (q10 * 1024)]) 1 rfl ?_
              refine k_gf 0 0 (K := 0) rfl rfl rfl rfl rfl ?_
              refine k_runB (pc' := 91) (loc' := [(0, .ref (0 * 1024)), (1, .int x1), (2, .int x2)]) (st' := [.int x1, .ref (2 * 1024), .ref (q10 * 1024)]) 1 rfl ?_
              obtain ⟨v11, hv11, hD⟩ := Option.bind_eq_some_iff.mp hD
              refine k_runV rfl rfl rfl (c_get (r := q10) (o := 0) (K := 6) kq10 (by decide)) rfl rfl (t_e_House_worth (d := d) kq10 rfl hv11) ?_
              cases hD
              exact k_iret rfl rfl
            | false =>
              rw [c18_3_3, cond_false] at hD
              cases c18_3_4 : decide (x2 = 4) with
              | true =>
                rw [c18_3_4, cond_true] at hD
                refine k_tab (tgt := 95) rfl (by rw [of_decide_eq_true c18_3_4]; decide) ?_
                refine k_runB (pc' := 96) (loc' := [(0, .ref (0 * 1024)), (1, .int x1), (2, .int x2)]) (st' := [.ref (0 * 1024)]) 1 rfl ?_
                obtain ⟨q12, hq12, hD⟩ := Option.bind_eq_some_iff.mp hD
                refine k_gq 0 0 (K := 0) (K2 := 6) (key := 8) rfl rfl rfl rfl rfl hq12 (fun kq12 => ?_)
                refine k_runB (pc' := 100) (loc' := [(0, .ref (0 * 1024)), (1, .int x1), (2, .int x2)]) (st' := [.ref (0 * 1024), .ref (q12 * 1024)]) 1 rfl ?_
                refine k_gf 0 0 (K := 0) rfl rfl rfl rfl rfl ?_
                refine k_runB (pc' := 104) (loc' := [(0, .ref (0 * 1024)), (1, .int x1), (2, .int x2)]) (st' := [.int x1, .ref (2 * 1024), .ref (q12 * 1024)]) 1 rfl ?_
                obtain ⟨v13, hv13, hD⟩ := Option.bind_eq_some_iff.mp hD
                refine k_runV rfl rfl rfl (c_get (r := q12) (o := 0) (K := 6) kq12 (by decide)) rfl rfl (t_e_House_isEnded (d := d) kq12 rfl hv13) ?_
                refine k_if rfl (fun c107_13 => ?_) (fun c107_13 => ?_)
                · rw [c107_13, cond_true] at hD
                  refine k_runB (pc' := 115) (loc' := [(0, .ref (0 * 1024)), (1, .int x1), (2, .int x2)]) (st' := [.int 0]) 1 rfl ?_
                  cases hD
                  exact k_iret rfl rfl
                · rw [c107_13, cond_false] at hD
                  refine k_runB (pc' := 115) (loc' := [(0, .ref (0 * 1024)), (1, .int x1), (2, .int x2)]) (st' := [.int 1]) 2 rfl ?_
                  cases hD
                  exact k_iret rfl rfl
              | false =>
                rw [c18_3_4, cond_false] at hD
                refine k_tab (tgt := 116) rfl (by rw [if_pos (m_out (lo := 0) (hi := 4) [0, 1, 2, 3, 4] (by decide) (by decide) (List.forall_mem_cons.mpr ⟨of_decide_eq_false c18_3_0, List.forall_mem_cons.mpr ⟨of_decide_eq_false c18_3_1, List.forall_mem_cons.mpr ⟨of_decide_eq_false c18_3_2, List.forall_mem_cons.mpr ⟨of_decide_eq_false c18_3_3, List.forall_mem_cons.mpr ⟨of_decide_eq_false c18_3_4, fun _ h => absurd h List.not_mem_nil⟩⟩⟩⟩⟩))]; rfl) ?_
                refine k_runB (pc' := 117) (loc' := [(0, .ref (0 * 1024)), (1, .int x1), (2, .int x2)]) (st' := [.int ((-1))]) 1 rfl ?_
                cases hD
                exact k_iret rfl rfl
    · rw [c12_2, cond_false] at hD
      refine k_runB (pc' := 16) (loc' := [(0, .ref (0 * 1024)), (1, .int x1), (2, .int x2)]) (st' := [.int ((-1))]) 1 rfl ?_
      cases hD
      exact k_iret rfl rfl
/-- SleepWork.step(III)I  -/
def e_SleepWork_step (P : Nat → Nat → Nat) (F : Nat → Nat → Int32) (A : Nat → Nat → Nat → Int32) (J : Nat → Nat → Nat → Int64) (x1 : Int32) (x2 : Int32) (x3 : Int32) : Option (Int32) :=
  (c_chk 6 (P 0 8)).bind fun q1 =>
  (e_House_hasStep P F A J q1 x1 x2).bind fun v2 =>
  cond (g_cnd .ne v2 0)
  (cond (decide (x3 = 0))
  ((m_ld (A 2 1) 36 ((x1 * 6) + x2)).bind fun v5 =>
  some (v5))
  (cond (decide (x3 = 1))
  ((c_chk 6 (P 0 8)).bind fun q6 =>
  (m_ld (A q6 6) 36 ((x1 * 6) + x2)).bind fun v7 =>
  some (v7))
  (cond (decide (x3 = 2))
  ((c_chk 6 (P 0 8)).bind fun q8 =>
  (m_ld (A q8 7) 36 ((x1 * 6) + x2)).bind fun v9 =>
  some (v9))
  (cond (decide (x3 = 3))
  ((c_chk 6 (P 0 8)).bind fun q10 =>
  (m_ld (A q10 8) 36 ((x1 * 6) + x2)).bind fun v11 =>
  some (v11))
  (cond (decide (x3 = 4))
  ((c_chk 6 (P 0 8)).bind fun q12 =>
  (m_ld (A q12 9) 36 ((x1 * 6) + x2)).bind fun v13 =>
  some (v13))
  (cond (decide (x3 = 5))
  ((c_chk 6 (P 0 8)).bind fun q14 =>
  (m_ld (A q14 10) 36 ((x1 * 6) + x2)).bind fun v15 =>
  some (v15))
  (cond (decide (x3 = 6))
  ((c_chk 6 (P 0 8)).bind fun q16 =>
  (m_ld (A q16 11) 36 ((x1 * 6) + x2)).bind fun v17 =>
  some (v17))
  (some ((-1))))))))))
  (some ((-1)))
set_option maxRecDepth 10000 in
theorem t_e_SleepWork_step {P : Nat → Nat → Nat} {F : Nat → Nat → Int32} {A : Nat → Nat → Nat → Int32} {J : Nat → Nat → Nat → Int64} {x1 : Int32} {x2 : Int32} {x3 : Int32}  {w : Int32} : e_SleepWork_step P F A J x1 x2 x3 = some w → k_run t lg (d + 1) 105 0 [(0, .ref (0 * 1024)), (1, .int x1), (2, .int x2), (3, .int x3)] [] (c_h c B P F A J) (some (.int w), c_h c B P F A J) := by
  intro hD
  unfold e_SleepWork_step at hD
  refine k_runB (pc' := 1) (loc' := [(0, .ref (0 * 1024)), (1, .int x1), (2, .int x2), (3, .int x3)]) (st' := [.ref (0 * 1024)]) 1 rfl ?_
  obtain ⟨q1, hq1, hD⟩ := Option.bind_eq_some_iff.mp hD
  refine k_gq 0 0 (K := 0) (K2 := 6) (key := 8) rfl rfl rfl rfl rfl hq1 (fun kq1 => ?_)
  refine k_runB (pc' := 6) (loc' := [(0, .ref (0 * 1024)), (1, .int x1), (2, .int x2), (3, .int x3)]) (st' := [.int x2, .int x1, .ref (q1 * 1024)]) 2 rfl ?_
  obtain ⟨v2, hv2, hD⟩ := Option.bind_eq_some_iff.mp hD
  refine k_runV rfl rfl rfl (c_get (r := q1) (o := 0) (K := 6) kq1 (by decide)) rfl rfl (t_e_House_hasStep (d := d) kq1 hv2) ?_
  refine k_if rfl (fun c9_2 => ?_) (fun c9_2 => ?_)
  · rw [c9_2, cond_true] at hD
    refine k_runB (pc' := 23) (loc' := [(0, .ref (0 * 1024)), (1, .int x1), (2, .int x2), (3, .int x3), (4, .int ((x1 * 6) + x2))]) (st' := [.int x3]) 7 rfl ?_
    cases c23_3_0 : decide (x3 = 0) with
    | true =>
      rw [c23_3_0, cond_true] at hD
      refine k_tab (tgt := 64) rfl (by rw [of_decide_eq_true c23_3_0]; decide) ?_
      refine k_runB (pc' := 65) (loc' := [(0, .ref (0 * 1024)), (1, .int x1), (2, .int x2), (3, .int x3), (4, .int ((x1 * 6) + x2))]) (st' := [.ref (0 * 1024)]) 1 rfl ?_
      refine k_gf 0 0 (K := 0) rfl rfl rfl rfl rfl ?_
      refine k_gf 2 0 (K := 2) rfl rfl rfl rfl rfl ?_
      refine k_runB (pc' := 73) (loc' := [(0, .ref (0 * 1024)), (1, .int x1), (2, .int x2), (3, .int x3), (4, .int ((x1 * 6) + x2))]) (st' := [.int ((x1 * 6) + x2), .ref (2 * 1024 + 1)]) 1 rfl ?_
      obtain ⟨v5, hv5, hD⟩ := Option.bind_eq_some_iff.mp hD
      refine k_ldI rfl (c_get (r := 2) (o := 1) (K := 2) rfl (by decide)) hv5 ?_
      cases hD
      exact k_iret rfl rfl
    | false =>
      rw [c23_3_0, cond_false] at hD
      cases c23_3_1 : decide (x3 = 1) with
      | true =>
        rw [c23_3_1, cond_true] at hD
        refine k_tab (tgt := 75) rfl (by rw [of_decide_eq_true c23_3_1]; decide) ?_
        refine k_runB (pc' := 76) (loc' := [(0, .ref (0 * 1024)), (1, .int x1), (2, .int x2), (3, .int x3), (4, .int ((x1 * 6) + x2))]) (st' := [.ref (0 * 1024)]) 1 rfl ?_
        obtain ⟨q6, hq6, hD⟩ := Option.bind_eq_some_iff.mp hD
        refine k_gq 0 0 (K := 0) (K2 := 6) (key := 8) rfl rfl rfl rfl rfl hq6 (fun kq6 => ?_)
        refine k_gf q6 0 (K := 6) kq6 rfl rfl rfl rfl ?_
        refine k_runB (pc' := 84) (loc' := [(0, .ref (0 * 1024)), (1, .int x1), (2, .int x2), (3, .int x3), (4, .int ((x1 * 6) + x2))]) (st' := [.int ((x1 * 6) + x2), .ref (q6 * 1024 + 6)]) 1 rfl ?_
        obtain ⟨v7, hv7, hD⟩ := Option.bind_eq_some_iff.mp hD
        refine k_ldI rfl (c_get (r := q6) (o := 6) (K := 6) kq6 (by decide)) hv7 ?_
        cases hD
        exact k_iret rfl rfl
      | false =>
        rw [c23_3_1, cond_false] at hD
        cases c23_3_2 : decide (x3 = 2) with
        | true =>
          rw [c23_3_2, cond_true] at hD
          refine k_tab (tgt := 86) rfl (by rw [of_decide_eq_true c23_3_2]; decide) ?_
          refine k_runB (pc' := 87) (loc' := [(0, .ref (0 * 1024)), (1, .int x1), (2, .int x2), (3, .int x3), (4, .int ((x1 * 6) + x2))]) (st' := [.ref (0 * 1024)]) 1 rfl ?_
          obtain ⟨q8, hq8, hD⟩ := Option.bind_eq_some_iff.mp hD
          refine k_gq 0 0 (K := 0) (K2 := 6) (key := 8) rfl rfl rfl rfl rfl hq8 (fun kq8 => ?_)
          refine k_gf q8 0 (K := 6) kq8 rfl rfl rfl rfl ?_
          refine k_runB (pc' := 95) (loc' := [(0, .ref (0 * 1024)), (1, .int x1), (2, .int x2), (3, .int x3), (4, .int ((x1 * 6) + x2))]) (st' := [.int ((x1 * 6) + x2), .ref (q8 * 1024 + 7)]) 1 rfl ?_
          obtain ⟨v9, hv9, hD⟩ := Option.bind_eq_some_iff.mp hD
          refine k_ldI rfl (c_get (r := q8) (o := 7) (K := 6) kq8 (by decide)) hv9 ?_
          cases hD
          exact k_iret rfl rfl
        | false =>
          rw [c23_3_2, cond_false] at hD
          cases c23_3_3 : decide (x3 = 3) with
          | true =>
            rw [c23_3_3, cond_true] at hD
            refine k_tab (tgt := 97) rfl (by rw [of_decide_eq_true c23_3_3]; decide) ?_
            refine k_runB (pc' := 98) (loc' := [(0, .ref (0 * 1024)), (1, .int x1), (2, .int x2), (3, .int x3), (4, .int ((x1 * 6) + x2))]) (st' := [.ref (0 * 1024)]) 1 rfl ?_
            obtain ⟨q10, hq10, hD⟩ := Option.bind_eq_some_iff.mp hD
            refine k_gq 0 0 (K := 0) (K2 := 6) (key := 8) rfl rfl rfl rfl rfl hq10 (fun kq10 => ?_)
            refine k_gf q10 0 (K := 6) kq10 rfl rfl rfl rfl ?_
            refine k_runB (pc' := 106) (loc' := [(0, .ref (0 * 1024)), (1, .int x1), (2, .int x2), (3, .int x3), (4, .int ((x1 * 6) + x2))]) (st' := [.int ((x1 * 6) + x2), .ref (q10 * 1024 + 8)]) 1 rfl ?_
            obtain ⟨v11, hv11, hD⟩ := Option.bind_eq_some_iff.mp hD
            refine k_ldI rfl (c_get (r := q10) (o := 8) (K := 6) kq10 (by decide)) hv11 ?_
            cases hD
            exact k_iret rfl rfl
          | false =>
            rw [c23_3_3, cond_false] at hD
            cases c23_3_4 : decide (x3 = 4) with
            | true =>
              rw [c23_3_4, cond_true] at hD
              refine k_tab (tgt := 108) rfl (by rw [of_decide_eq_true c23_3_4]; decide) ?_
              refine k_runB (pc' := 109) (loc' := [(0, .ref (0 * 1024)), (1, .int x1), (2, .int x2), (3, .int x3), (4, .int ((x1 * 6) + x2))]) (st' := [.ref (0 * 1024)]) 1 rfl ?_
              obtain ⟨q12, hq12, hD⟩ := Option.bind_eq_some_iff.mp hD
              refine k_gq 0 0 (K := 0) (K2 := 6) (key := 8) rfl rfl rfl rfl rfl hq12 (fun kq12 => ?_)
              refine k_gf q12 0 (K := 6) kq12 rfl rfl rfl rfl ?_
              refine k_runB (pc' := 117) (loc' := [(0, .ref (0 * 1024)), (1, .int x1), (2, .int x2), (3, .int x3), (4, .int ((x1 * 6) + x2))]) (st' := [.int ((x1 * 6) + x2), .ref (q12 * 1024 + 9)]) 1 rfl ?_
              obtain ⟨v13, hv13, hD⟩ := Option.bind_eq_some_iff.mp hD
              refine k_ldI rfl (c_get (r := q12) (o := 9) (K := 6) kq12 (by decide)) hv13 ?_
              cases hD
              exact k_iret rfl rfl
            | false =>
              rw [c23_3_4, cond_false] at hD
              cases c23_3_5 : decide (x3 = 5) with
              | true =>
                rw [c23_3_5, cond_true] at hD
                refine k_tab (tgt := 119) rfl (by rw [of_decide_eq_true c23_3_5]; decide) ?_
                refine k_runB (pc' := 120) (loc' := [(0, .ref (0 * 1024)), (1, .int x1), (2, .int x2), (3, .int x3), (4, .int ((x1 * 6) + x2))]) (st' := [.ref (0 * 1024)]) 1 rfl ?_
                obtain ⟨q14, hq14, hD⟩ := Option.bind_eq_some_iff.mp hD
                refine k_gq 0 0 (K := 0) (K2 := 6) (key := 8) rfl rfl rfl rfl rfl hq14 (fun kq14 => ?_)
                refine k_gf q14 0 (K := 6) kq14 rfl rfl rfl rfl ?_
                refine k_runB (pc' := 128) (loc' := [(0, .ref (0 * 1024)), (1, .int x1), (2, .int x2), (3, .int x3), (4, .int ((x1 * 6) + x2))]) (st' := [.int ((x1 * 6) + x2), .ref (q14 * 1024 + 10)]) 1 rfl ?_
                obtain ⟨v15, hv15, hD⟩ := Option.bind_eq_some_iff.mp hD
                refine k_ldI rfl (c_get (r := q14) (o := 10) (K := 6) kq14 (by decide)) hv15 ?_
                cases hD
                exact k_iret rfl rfl
              | false =>
                rw [c23_3_5, cond_false] at hD
                cases c23_3_6 : decide (x3 = 6) with
                | true =>
                  rw [c23_3_6, cond_true] at hD
                  refine k_tab (tgt := 130) rfl (by rw [of_decide_eq_true c23_3_6]; decide) ?_
                  refine k_runB (pc' := 131) (loc' := [(0, .ref (0 * 1024)), (1, .int x1), (2, .int x2), (3, .int x3), (4, .int ((x1 * 6) + x2))]) (st' := [.ref (0 * 1024)]) 1 rfl ?_
                  obtain ⟨q16, hq16, hD⟩ := Option.bind_eq_some_iff.mp hD
                  refine k_gq 0 0 (K := 0) (K2 := 6) (key := 8) rfl rfl rfl rfl rfl hq16 (fun kq16 => ?_)
                  refine k_gf q16 0 (K := 6) kq16 rfl rfl rfl rfl ?_
                  refine k_runB (pc' := 139) (loc' := [(0, .ref (0 * 1024)), (1, .int x1), (2, .int x2), (3, .int x3), (4, .int ((x1 * 6) + x2))]) (st' := [.int ((x1 * 6) + x2), .ref (q16 * 1024 + 11)]) 1 rfl ?_
                  obtain ⟨v17, hv17, hD⟩ := Option.bind_eq_some_iff.mp hD
                  refine k_ldI rfl (c_get (r := q16) (o := 11) (K := 6) kq16 (by decide)) hv17 ?_
                  cases hD
                  exact k_iret rfl rfl
                | false =>
                  rw [c23_3_6, cond_false] at hD
                  refine k_tab (tgt := 141) rfl (by rw [if_pos (m_out (lo := 0) (hi := 6) [0, 1, 2, 3, 4, 5, 6] (by decide) (by decide) (List.forall_mem_cons.mpr ⟨of_decide_eq_false c23_3_0, List.forall_mem_cons.mpr ⟨of_decide_eq_false c23_3_1, List.forall_mem_cons.mpr ⟨of_decide_eq_false c23_3_2, List.forall_mem_cons.mpr ⟨of_decide_eq_false c23_3_3, List.forall_mem_cons.mpr ⟨of_decide_eq_false c23_3_4, List.forall_mem_cons.mpr ⟨of_decide_eq_false c23_3_5, List.forall_mem_cons.mpr ⟨of_decide_eq_false c23_3_6, fun _ h => absurd h List.not_mem_nil⟩⟩⟩⟩⟩⟩⟩))]; rfl) ?_
                  refine k_runB (pc' := 142) (loc' := [(0, .ref (0 * 1024)), (1, .int x1), (2, .int x2), (3, .int x3), (4, .int ((x1 * 6) + x2))]) (st' := [.int ((-1))]) 1 rfl ?_
                  cases hD
                  exact k_iret rfl rfl
  · rw [c9_2, cond_false] at hD
    refine k_runB (pc' := 13) (loc' := [(0, .ref (0 * 1024)), (1, .int x1), (2, .int x2), (3, .int x3)]) (st' := [.int ((-1))]) 1 rfl ?_
    cases hD
    exact k_iret rfl rfl
/-- SleepWork.isMan(I)Z  -/
def e_SleepWork_isMan (P : Nat → Nat → Nat) (F : Nat → Nat → Int32) (A : Nat → Nat → Nat → Int32) (J : Nat → Nat → Nat → Int64) (x1 : Int32) : Option (Int32) :=
  cond (g_cnd .lt x1 0)
  (some (0))
  ((c_chk 6 (P 0 8)).bind fun q2 =>
  cond (g_cnd .ge x1 (F q2 17))
  (some (0))
  (some (1)))
set_option maxRecDepth 10000 in
theorem t_e_SleepWork_isMan {P : Nat → Nat → Nat} {F : Nat → Nat → Int32} {A : Nat → Nat → Nat → Int32} {J : Nat → Nat → Nat → Int64} {x1 : Int32}  {w : Int32} : e_SleepWork_isMan P F A J x1 = some w → k_run t lg (d) 107 0 [(0, .ref (0 * 1024)), (1, .int x1)] [] (c_h c B P F A J) (some (.int w), c_h c B P F A J) := by
  intro hD
  unfold e_SleepWork_isMan at hD
  refine k_runB (pc' := 1) (loc' := [(0, .ref (0 * 1024)), (1, .int x1)]) (st' := [.int x1]) 1 rfl ?_
  refine k_if rfl (fun c1_0 => ?_) (fun c1_0 => ?_)
  · rw [c1_0, cond_true] at hD
    refine k_runB (pc' := 20) (loc' := [(0, .ref (0 * 1024)), (1, .int x1)]) (st' := [.int 0]) 1 rfl ?_
    cases hD
    exact k_zret rfl rfl (Or.inl rfl)
  · rw [c1_0, cond_false] at hD
    refine k_runB (pc' := 6) (loc' := [(0, .ref (0 * 1024)), (1, .int x1)]) (st' := [.ref (0 * 1024), .int x1]) 2 rfl ?_
    obtain ⟨q2, hq2, hD⟩ := Option.bind_eq_some_iff.mp hD
    refine k_gq 0 0 (K := 0) (K2 := 6) (key := 8) rfl rfl rfl rfl rfl hq2 (fun kq2 => ?_)
    refine k_gf q2 0 (K := 6) kq2 rfl rfl rfl rfl ?_
    refine k_ic rfl (fun c12_2 => ?_) (fun c12_2 => ?_)
    · rw [c12_2, cond_true] at hD
      refine k_runB (pc' := 20) (loc' := [(0, .ref (0 * 1024)), (1, .int x1)]) (st' := [.int 0]) 1 rfl ?_
      cases hD
      exact k_zret rfl rfl (Or.inl rfl)
    · rw [c12_2, cond_false] at hD
      refine k_runB (pc' := 20) (loc' := [(0, .ref (0 * 1024)), (1, .int x1)]) (st' := [.int 1]) 2 rfl ?_
      cases hD
      exact k_zret rfl rfl (Or.inr rfl)
/-- SleepWork.man(II)I  -/
def e_SleepWork_man (P : Nat → Nat → Nat) (F : Nat → Nat → Int32) (A : Nat → Nat → Nat → Int32) (J : Nat → Nat → Nat → Int64) (x1 : Int32) (x2 : Int32) : Option (Int32) :=
  (e_SleepWork_isMan P F A J x1).bind fun v1 =>
  cond (g_cnd .ne v1 0)
  ((m_ld (A 2 3) 6 x1).bind fun v3 =>
  cond (decide (x2 = 0))
  ((c_chk 6 (P 0 8)).bind fun q5 =>
  (m_ld (A q5 12) 6 x1).bind fun v6 =>
  some (v6))
  (cond (decide (x2 = 1))
  (cond (g_cnd .ge v3 0)
  ((m_div v3 6).bind fun v8 =>
  some (v8))
  (some ((-2))))
  (cond (decide (x2 = 2))
  (cond (g_cnd .ge v3 0)
  ((m_rem v3 6).bind fun v10 =>
  some (v10))
  (some ((-2))))
  (cond (decide (x2 = 3))
  ((m_ld (A 2 5) 6 x1).bind fun v11 =>
  some (v11))
  (cond (decide (x2 = 4))
  ((m_ld (A 2 6) 6 x1).bind fun v12 =>
  some (v12))
  (cond (decide (x2 = 5))
  ((m_ld (A 2 7) 6 x1).bind fun v13 =>
  some (v13))
  (some ((-1)))))))))
  (some ((-1)))
set_option maxRecDepth 10000 in
theorem t_e_SleepWork_man {P : Nat → Nat → Nat} {F : Nat → Nat → Int32} {A : Nat → Nat → Nat → Int32} {J : Nat → Nat → Nat → Int64} {x1 : Int32} {x2 : Int32}  {w : Int32} : e_SleepWork_man P F A J x1 x2 = some w → k_run t lg (d + 1) 106 0 [(0, .ref (0 * 1024)), (1, .int x1), (2, .int x2)] [] (c_h c B P F A J) (some (.int w), c_h c B P F A J) := by
  intro hD
  unfold e_SleepWork_man at hD
  refine k_runB (pc' := 2) (loc' := [(0, .ref (0 * 1024)), (1, .int x1), (2, .int x2)]) (st' := [.int x1, .ref (0 * 1024)]) 2 rfl ?_
  obtain ⟨v1, hv1, hD⟩ := Option.bind_eq_some_iff.mp hD
  refine k_runV rfl rfl rfl (c_get (r := 0) (o := 0) (K := 0) rfl (by decide)) rfl rfl (t_e_SleepWork_isMan (d := d) hv1) ?_
  refine k_if rfl (fun c5_1 => ?_) (fun c5_1 => ?_)
  · rw [c5_1, cond_true] at hD
    refine k_runB (pc' := 11) (loc' := [(0, .ref (0 * 1024)), (1, .int x1), (2, .int x2)]) (st' := [.ref (0 * 1024)]) 1 rfl ?_
    refine k_gf 0 0 (K := 0) rfl rfl rfl rfl rfl ?_
    refine k_gf 2 0 (K := 2) rfl rfl rfl rfl rfl ?_
    refine k_runB (pc' := 18) (loc' := [(0, .ref (0 * 1024)), (1, .int x1), (2, .int x2)]) (st' := [.int x1, .ref (2 * 1024 + 3)]) 1 rfl ?_
    obtain ⟨v3, hv3, hD⟩ := Option.bind_eq_some_iff.mp hD
    refine k_ldI rfl (c_get (r := 2) (o := 3) (K := 2) rfl (by decide)) hv3 ?_
    refine k_runB (pc' := 21) (loc' := [(0, .ref (0 * 1024)), (1, .int x1), (2, .int x2), (3, .int v3)]) (st' := [.int x2]) 2 rfl ?_
    cases c21_3_0 : decide (x2 = 0) with
    | true =>
      rw [c21_3_0, cond_true] at hD
      refine k_tab (tgt := 60) rfl (by rw [of_decide_eq_true c21_3_0]; decide) ?_
      refine k_runB (pc' := 61) (loc' := [(0, .ref (0 * 1024)), (1, .int x1), (2, .int x2), (3, .int v3)]) (st' := [.ref (0 * 1024)]) 1 rfl ?_
      obtain ⟨q5, hq5, hD⟩ := Option.bind_eq_some_iff.mp hD
      refine k_gq 0 0 (K := 0) (K2 := 6) (key := 8) rfl rfl rfl rfl rfl hq5 (fun kq5 => ?_)
      refine k_gf q5 0 (K := 6) kq5 rfl rfl rfl rfl ?_
      refine k_runB (pc' := 68) (loc' := [(0, .ref (0 * 1024)), (1, .int x1), (2, .int x2), (3, .int v3)]) (st' := [.int x1, .ref (q5 * 1024 + 12)]) 1 rfl ?_
      obtain ⟨v6, hv6, hD⟩ := Option.bind_eq_some_iff.mp hD
      refine k_ldI rfl (c_get (r := q5) (o := 12) (K := 6) kq5 (by decide)) hv6 ?_
      cases hD
      exact k_iret rfl rfl
    | false =>
      rw [c21_3_0, cond_false] at hD
      cases c21_3_1 : decide (x2 = 1) with
      | true =>
        rw [c21_3_1, cond_true] at hD
        refine k_tab (tgt := 70) rfl (by rw [of_decide_eq_true c21_3_1]; decide) ?_
        refine k_runB (pc' := 71) (loc' := [(0, .ref (0 * 1024)), (1, .int x1), (2, .int x2), (3, .int v3)]) (st' := [.int v3]) 1 rfl ?_
        refine k_if rfl (fun c71_6 => ?_) (fun c71_6 => ?_)
        · rw [c71_6, cond_true] at hD
          refine k_runB (pc' := 82) (loc' := [(0, .ref (0 * 1024)), (1, .int x1), (2, .int x2), (3, .int v3)]) (st' := [.int 6, .int v3]) 2 rfl ?_
          obtain ⟨v8, hv8, hD⟩ := Option.bind_eq_some_iff.mp hD
          refine k_dvI rfl hv8 ?_
          cases hD
          exact k_iret rfl rfl
        · rw [c71_6, cond_false] at hD
          refine k_runB (pc' := 83) (loc' := [(0, .ref (0 * 1024)), (1, .int x1), (2, .int x2), (3, .int v3)]) (st' := [.int ((-2))]) 2 rfl ?_
          cases hD
          exact k_iret rfl rfl
      | false =>
        rw [c21_3_1, cond_false] at hD
        cases c21_3_2 : decide (x2 = 2) with
        | true =>
          rw [c21_3_2, cond_true] at hD
          refine k_tab (tgt := 84) rfl (by rw [of_decide_eq_true c21_3_2]; decide) ?_
          refine k_runB (pc' := 85) (loc' := [(0, .ref (0 * 1024)), (1, .int x1), (2, .int x2), (3, .int v3)]) (st' := [.int v3]) 1 rfl ?_
          refine k_if rfl (fun c85_8 => ?_) (fun c85_8 => ?_)
          · rw [c85_8, cond_true] at hD
            refine k_runB (pc' := 96) (loc' := [(0, .ref (0 * 1024)), (1, .int x1), (2, .int x2), (3, .int v3)]) (st' := [.int 6, .int v3]) 2 rfl ?_
            obtain ⟨v10, hv10, hD⟩ := Option.bind_eq_some_iff.mp hD
            refine k_rmI rfl hv10 ?_
            cases hD
            exact k_iret rfl rfl
          · rw [c85_8, cond_false] at hD
            refine k_runB (pc' := 97) (loc' := [(0, .ref (0 * 1024)), (1, .int x1), (2, .int x2), (3, .int v3)]) (st' := [.int ((-2))]) 2 rfl ?_
            cases hD
            exact k_iret rfl rfl
        | false =>
          rw [c21_3_2, cond_false] at hD
          cases c21_3_3 : decide (x2 = 3) with
          | true =>
            rw [c21_3_3, cond_true] at hD
            refine k_tab (tgt := 98) rfl (by rw [of_decide_eq_true c21_3_3]; decide) ?_
            refine k_runB (pc' := 99) (loc' := [(0, .ref (0 * 1024)), (1, .int x1), (2, .int x2), (3, .int v3)]) (st' := [.ref (0 * 1024)]) 1 rfl ?_
            refine k_gf 0 0 (K := 0) rfl rfl rfl rfl rfl ?_
            refine k_gf 2 0 (K := 2) rfl rfl rfl rfl rfl ?_
            refine k_runB (pc' := 106) (loc' := [(0, .ref (0 * 1024)), (1, .int x1), (2, .int x2), (3, .int v3)]) (st' := [.int x1, .ref (2 * 1024 + 5)]) 1 rfl ?_
            obtain ⟨v11, hv11, hD⟩ := Option.bind_eq_some_iff.mp hD
            refine k_ldI rfl (c_get (r := 2) (o := 5) (K := 2) rfl (by decide)) hv11 ?_
            cases hD
            exact k_iret rfl rfl
          | false =>
            rw [c21_3_3, cond_false] at hD
            cases c21_3_4 : decide (x2 = 4) with
            | true =>
              rw [c21_3_4, cond_true] at hD
              refine k_tab (tgt := 108) rfl (by rw [of_decide_eq_true c21_3_4]; decide) ?_
              refine k_runB (pc' := 109) (loc' := [(0, .ref (0 * 1024)), (1, .int x1), (2, .int x2), (3, .int v3)]) (st' := [.ref (0 * 1024)]) 1 rfl ?_
              refine k_gf 0 0 (K := 0) rfl rfl rfl rfl rfl ?_
              refine k_gf 2 0 (K := 2) rfl rfl rfl rfl rfl ?_
              refine k_runB (pc' := 116) (loc' := [(0, .ref (0 * 1024)), (1, .int x1), (2, .int x2), (3, .int v3)]) (st' := [.int x1, .ref (2 * 1024 + 6)]) 1 rfl ?_
              obtain ⟨v12, hv12, hD⟩ := Option.bind_eq_some_iff.mp hD
              refine k_ldI rfl (c_get (r := 2) (o := 6) (K := 2) rfl (by decide)) hv12 ?_
              cases hD
              exact k_iret rfl rfl
            | false =>
              rw [c21_3_4, cond_false] at hD
              cases c21_3_5 : decide (x2 = 5) with
              | true =>
                rw [c21_3_5, cond_true] at hD
                refine k_tab (tgt := 118) rfl (by rw [of_decide_eq_true c21_3_5]; decide) ?_
                refine k_runB (pc' := 119) (loc' := [(0, .ref (0 * 1024)), (1, .int x1), (2, .int x2), (3, .int v3)]) (st' := [.ref (0 * 1024)]) 1 rfl ?_
                refine k_gf 0 0 (K := 0) rfl rfl rfl rfl rfl ?_
                refine k_gf 2 0 (K := 2) rfl rfl rfl rfl rfl ?_
                refine k_runB (pc' := 126) (loc' := [(0, .ref (0 * 1024)), (1, .int x1), (2, .int x2), (3, .int v3)]) (st' := [.int x1, .ref (2 * 1024 + 7)]) 1 rfl ?_
                obtain ⟨v13, hv13, hD⟩ := Option.bind_eq_some_iff.mp hD
                refine k_ldI rfl (c_get (r := 2) (o := 7) (K := 2) rfl (by decide)) hv13 ?_
                cases hD
                exact k_iret rfl rfl
              | false =>
                rw [c21_3_5, cond_false] at hD
                refine k_tab (tgt := 128) rfl (by rw [if_pos (m_out (lo := 0) (hi := 5) [0, 1, 2, 3, 4, 5] (by decide) (by decide) (List.forall_mem_cons.mpr ⟨of_decide_eq_false c21_3_0, List.forall_mem_cons.mpr ⟨of_decide_eq_false c21_3_1, List.forall_mem_cons.mpr ⟨of_decide_eq_false c21_3_2, List.forall_mem_cons.mpr ⟨of_decide_eq_false c21_3_3, List.forall_mem_cons.mpr ⟨of_decide_eq_false c21_3_4, List.forall_mem_cons.mpr ⟨of_decide_eq_false c21_3_5, fun _ h => absurd h List.not_mem_nil⟩⟩⟩⟩⟩⟩))]; rfl) ?_
                refine k_runB (pc' := 129) (loc' := [(0, .ref (0 * 1024)), (1, .int x1), (2, .int x2), (3, .int v3)]) (st' := [.int ((-1))]) 1 rfl ?_
                cases hD
                exact k_iret rfl rfl
  · rw [c5_1, cond_false] at hD
    refine k_runB (pc' := 9) (loc' := [(0, .ref (0 * 1024)), (1, .int x1), (2, .int x2)]) (st' := [.int ((-1))]) 1 rfl ?_
    cases hD
    exact k_iret rfl rfl
end MC
end Qz30
section Qz31
/-! the class's methods as functions (printed by wip/dec2.py) -/
section MC
variable {t : gT} {lg : Nat → Nat} {d : Nat} {c : Nat × Nat} {B : Nat → List gE}
/-- SleepWork.isTool(I)Z  -/
def e_SleepWork_isTool (P : Nat → Nat → Nat) (F : Nat → Nat → Int32) (A : Nat → Nat → Nat → Int32) (J : Nat → Nat → Nat → Int64) (x1 : Int32) : Option (Int32) :=
  cond (g_cnd .lt x1 0)
  (some (0))
  ((c_chk 6 (P 0 8)).bind fun q2 =>
  cond (g_cnd .ge x1 (F q2 15))
  (some (0))
  (some (1)))
set_option maxRecDepth 10000 in
theorem t_e_SleepWork_isTool {P : Nat → Nat → Nat} {F : Nat → Nat → Int32} {A : Nat → Nat → Nat → Int32} {J : Nat → Nat → Nat → Int64} {x1 : Int32}  {w : Int32} : e_SleepWork_isTool P F A J x1 = some w → k_run t lg (d) 108 0 [(0, .ref (0 * 1024)), (1, .int x1)] [] (c_h c B P F A J) (some (.int w), c_h c B P F A J) := by
  intro hD
  unfold e_SleepWork_isTool at hD
  refine k_runB (pc' := 1) (loc' := [(0, .ref (0 * 1024)), (1, .int x1)]) (st' := [.int x1]) 1 rfl ?_
  refine k_if rfl (fun c1_0 => ?_) (fun c1_0 => ?_)
  · rw [c1_0, cond_true] at hD
    refine k_runB (pc' := 20) (loc' := [(0, .ref (0 * 1024)), (1, .int x1)]) (st' := [.int 0]) 1 rfl ?_
    cases hD
    exact k_zret rfl rfl (Or.inl rfl)
  · rw [c1_0, cond_false] at hD
    refine k_runB (pc' := 6) (loc' := [(0, .ref (0 * 1024)), (1, .int x1)]) (st' := [.ref (0 * 1024), .int x1]) 2 rfl ?_
    obtain ⟨q2, hq2, hD⟩ := Option.bind_eq_some_iff.mp hD
    refine k_gq 0 0 (K := 0) (K2 := 6) (key := 8) rfl rfl rfl rfl rfl hq2 (fun kq2 => ?_)
    refine k_gf q2 0 (K := 6) kq2 rfl rfl rfl rfl ?_
    refine k_ic rfl (fun c12_2 => ?_) (fun c12_2 => ?_)
    · rw [c12_2, cond_true] at hD
      refine k_runB (pc' := 20) (loc' := [(0, .ref (0 * 1024)), (1, .int x1)]) (st' := [.int 0]) 1 rfl ?_
      cases hD
      exact k_zret rfl rfl (Or.inl rfl)
    · rw [c12_2, cond_false] at hD
      refine k_runB (pc' := 20) (loc' := [(0, .ref (0 * 1024)), (1, .int x1)]) (st' := [.int 1]) 2 rfl ?_
      cases hD
      exact k_zret rfl rfl (Or.inr rfl)
/-- SleepWork.isRoom(I)Z  -/
def e_SleepWork_isRoom (P : Nat → Nat → Nat) (F : Nat → Nat → Int32) (A : Nat → Nat → Nat → Int32) (J : Nat → Nat → Nat → Int64) (x1 : Int32) : Option (Int32) :=
  cond (g_cnd .lt x1 0)
  (some (0))
  ((c_chk 6 (P 0 8)).bind fun q2 =>
  cond (g_cnd .ge x1 (F q2 13))
  (some (0))
  (some (1)))
set_option maxRecDepth 10000 in
theorem t_e_SleepWork_isRoom {P : Nat → Nat → Nat} {F : Nat → Nat → Int32} {A : Nat → Nat → Nat → Int32} {J : Nat → Nat → Nat → Int64} {x1 : Int32}  {w : Int32} : e_SleepWork_isRoom P F A J x1 = some w → k_run t lg (d) 109 0 [(0, .ref (0 * 1024)), (1, .int x1)] [] (c_h c B P F A J) (some (.int w), c_h c B P F A J) := by
  intro hD
  unfold e_SleepWork_isRoom at hD
  refine k_runB (pc' := 1) (loc' := [(0, .ref (0 * 1024)), (1, .int x1)]) (st' := [.int x1]) 1 rfl ?_
  refine k_if rfl (fun c1_0 => ?_) (fun c1_0 => ?_)
  · rw [c1_0, cond_true] at hD
    refine k_runB (pc' := 20) (loc' := [(0, .ref (0 * 1024)), (1, .int x1)]) (st' := [.int 0]) 1 rfl ?_
    cases hD
    exact k_zret rfl rfl (Or.inl rfl)
  · rw [c1_0, cond_false] at hD
    refine k_runB (pc' := 6) (loc' := [(0, .ref (0 * 1024)), (1, .int x1)]) (st' := [.ref (0 * 1024), .int x1]) 2 rfl ?_
    obtain ⟨q2, hq2, hD⟩ := Option.bind_eq_some_iff.mp hD
    refine k_gq 0 0 (K := 0) (K2 := 6) (key := 8) rfl rfl rfl rfl rfl hq2 (fun kq2 => ?_)
    refine k_gf q2 0 (K := 6) kq2 rfl rfl rfl rfl ?_
    refine k_ic rfl (fun c12_2 => ?_) (fun c12_2 => ?_)
    · rw [c12_2, cond_true] at hD
      refine k_runB (pc' := 20) (loc' := [(0, .ref (0 * 1024)), (1, .int x1)]) (st' := [.int 0]) 1 rfl ?_
      cases hD
      exact k_zret rfl rfl (Or.inl rfl)
    · rw [c12_2, cond_false] at hD
      refine k_runB (pc' := 20) (loc' := [(0, .ref (0 * 1024)), (1, .int x1)]) (st' := [.int 1]) 2 rfl ?_
      cases hD
      exact k_zret rfl rfl (Or.inr rfl)
/-- SleepWork.areTwoMen(II)Z  -/
def e_SleepWork_areTwoMen (P : Nat → Nat → Nat) (F : Nat → Nat → Int32) (A : Nat → Nat → Nat → Int32) (J : Nat → Nat → Nat → Int64) (x1 : Int32) (x2 : Int32) : Option (Int32) :=
  (e_SleepWork_isMan P F A J x1).bind fun v1 =>
  cond (g_cnd .eq v1 0)
  (some (0))
  ((e_SleepWork_isMan P F A J x2).bind fun v3 =>
  cond (g_cnd .eq v3 0)
  (some (0))
  (cond (g_cnd .eq x1 x2)
  (some (0))
  (some (1))))
set_option maxRecDepth 10000 in
theorem t_e_SleepWork_areTwoMen {P : Nat → Nat → Nat} {F : Nat → Nat → Int32} {A : Nat → Nat → Nat → Int32} {J : Nat → Nat → Nat → Int64} {x1 : Int32} {x2 : Int32}  {w : Int32} : e_SleepWork_areTwoMen P F A J x1 x2 = some w → k_run t lg (d + 1) 110 0 [(0, .ref (0 * 1024)), (1, .int x1), (2, .int x2)] [] (c_h c B P F A J) (some (.int w), c_h c B P F A J) := by
  intro hD
  unfold e_SleepWork_areTwoMen at hD
  refine k_runB (pc' := 2) (loc' := [(0, .ref (0 * 1024)), (1, .int x1), (2, .int x2)]) (st' := [.int x1, .ref (0 * 1024)]) 2 rfl ?_
  obtain ⟨v1, hv1, hD⟩ := Option.bind_eq_some_iff.mp hD
  refine k_runV rfl rfl rfl (c_get (r := 0) (o := 0) (K := 0) rfl (by decide)) rfl rfl (t_e_SleepWork_isMan (d := d) hv1) ?_
  refine k_if rfl (fun c5_1 => ?_) (fun c5_1 => ?_)
  · rw [c5_1, cond_true] at hD
    refine k_runB (pc' := 26) (loc' := [(0, .ref (0 * 1024)), (1, .int x1), (2, .int x2)]) (st' := [.int 0]) 1 rfl ?_
    cases hD
    exact k_zret rfl rfl (Or.inl rfl)
  · rw [c5_1, cond_false] at hD
    refine k_runB (pc' := 10) (loc' := [(0, .ref (0 * 1024)), (1, .int x1), (2, .int x2)]) (st' := [.int x2, .ref (0 * 1024)]) 2 rfl ?_
    obtain ⟨v3, hv3, hD⟩ := Option.bind_eq_some_iff.mp hD
    refine k_runV rfl rfl rfl (c_get (r := 0) (o := 0) (K := 0) rfl (by decide)) rfl rfl (t_e_SleepWork_isMan (d := d) hv3) ?_
    refine k_if rfl (fun c13_3 => ?_) (fun c13_3 => ?_)
    · rw [c13_3, cond_true] at hD
      refine k_runB (pc' := 26) (loc' := [(0, .ref (0 * 1024)), (1, .int x1), (2, .int x2)]) (st' := [.int 0]) 1 rfl ?_
      cases hD
      exact k_zret rfl rfl (Or.inl rfl)
    · rw [c13_3, cond_false] at hD
      refine k_runB (pc' := 18) (loc' := [(0, .ref (0 * 1024)), (1, .int x1), (2, .int x2)]) (st' := [.int x2, .int x1]) 2 rfl ?_
      refine k_ic rfl (fun c18_4 => ?_) (fun c18_4 => ?_)
      · rw [c18_4, cond_true] at hD
        refine k_runB (pc' := 26) (loc' := [(0, .ref (0 * 1024)), (1, .int x1), (2, .int x2)]) (st' := [.int 0]) 1 rfl ?_
        cases hD
        exact k_zret rfl rfl (Or.inl rfl)
      · rw [c18_4, cond_false] at hD
        refine k_runB (pc' := 26) (loc' := [(0, .ref (0 * 1024)), (1, .int x1), (2, .int x2)]) (st' := [.int 1]) 2 rfl ?_
        cases hD
        exact k_zret rfl rfl (Or.inr rfl)
/-- SleepWork.isKnownBy(I)Z  -/
def e_SleepWork_isKnownBy (P : Nat → Nat → Nat) (F : Nat → Nat → Int32) (A : Nat → Nat → Nat → Int32) (J : Nat → Nat → Nat → Int64) (x1 : Int32) : Option (Int32) :=
  cond (g_cnd .lt x1 0)
  (some (0))
  (cond (g_cnd .gt x1 (F 25 2))
  (some (0))
  (some (1)))
set_option maxRecDepth 10000 in
theorem t_e_SleepWork_isKnownBy {P : Nat → Nat → Nat} {F : Nat → Nat → Int32} {A : Nat → Nat → Nat → Int32} {J : Nat → Nat → Nat → Int64} {x1 : Int32}  {w : Int32} : e_SleepWork_isKnownBy P F A J x1 = some w → k_run t lg (d) 111 0 [(0, .ref (0 * 1024)), (1, .int x1)] [] (c_h c B P F A J) (some (.int w), c_h c B P F A J) := by
  intro hD
  unfold e_SleepWork_isKnownBy at hD
  refine k_runB (pc' := 1) (loc' := [(0, .ref (0 * 1024)), (1, .int x1)]) (st' := [.int x1]) 1 rfl ?_
  refine k_if rfl (fun c1_0 => ?_) (fun c1_0 => ?_)
  · rw [c1_0, cond_true] at hD
    refine k_runB (pc' := 20) (loc' := [(0, .ref (0 * 1024)), (1, .int x1)]) (st' := [.int 0]) 1 rfl ?_
    cases hD
    exact k_zret rfl rfl (Or.inl rfl)
  · rw [c1_0, cond_false] at hD
    refine k_runB (pc' := 6) (loc' := [(0, .ref (0 * 1024)), (1, .int x1)]) (st' := [.ref (0 * 1024), .int x1]) 2 rfl ?_
    refine k_gf 0 0 (K := 0) rfl rfl rfl rfl rfl ?_
    refine k_gf 25 0 (K := 4) rfl rfl rfl rfl rfl ?_
    refine k_ic rfl (fun c12_1 => ?_) (fun c12_1 => ?_)
    · rw [c12_1, cond_true] at hD
      refine k_runB (pc' := 20) (loc' := [(0, .ref (0 * 1024)), (1, .int x1)]) (st' := [.int 0]) 1 rfl ?_
      cases hD
      exact k_zret rfl rfl (Or.inl rfl)
    · rw [c12_1, cond_false] at hD
      refine k_runB (pc' := 20) (loc' := [(0, .ref (0 * 1024)), (1, .int x1)]) (st' := [.int 1]) 2 rfl ?_
      cases hD
      exact k_zret rfl rfl (Or.inr rfl)
/-- SleepWork.tool(I)I  -/
def e_SleepWork_tool (P : Nat → Nat → Nat) (F : Nat → Nat → Int32) (A : Nat → Nat → Nat → Int32) (J : Nat → Nat → Nat → Int64) (x1 : Int32) : Option (Int32) :=
  (e_SleepWork_isTool P F A J x1).bind fun v1 =>
  cond (g_cnd .eq v1 0)
  (some ((-1)))
  ((m_ld (A 2 4) 6 x1).bind fun v3 =>
  some (v3))
set_option maxRecDepth 10000 in
theorem t_e_SleepWork_tool {P : Nat → Nat → Nat} {F : Nat → Nat → Int32} {A : Nat → Nat → Nat → Int32} {J : Nat → Nat → Nat → Int64} {x1 : Int32}  {w : Int32} : e_SleepWork_tool P F A J x1 = some w → k_run t lg (d + 1) 112 0 [(0, .ref (0 * 1024)), (1, .int x1)] [] (c_h c B P F A J) (some (.int w), c_h c B P F A J) := by
  intro hD
  unfold e_SleepWork_tool at hD
  refine k_runB (pc' := 2) (loc' := [(0, .ref (0 * 1024)), (1, .int x1)]) (st' := [.int x1, .ref (0 * 1024)]) 2 rfl ?_
  obtain ⟨v1, hv1, hD⟩ := Option.bind_eq_some_iff.mp hD
  refine k_runV rfl rfl rfl (c_get (r := 0) (o := 0) (K := 0) rfl (by decide)) rfl rfl (t_e_SleepWork_isTool (d := d) hv1) ?_
  refine k_if rfl (fun c5_1 => ?_) (fun c5_1 => ?_)
  · rw [c5_1, cond_true] at hD
    refine k_runB (pc' := 21) (loc' := [(0, .ref (0 * 1024)), (1, .int x1)]) (st' := [.int ((-1))]) 1 rfl ?_
    cases hD
    exact k_iret rfl rfl
  · rw [c5_1, cond_false] at hD
    refine k_runB (pc' := 9) (loc' := [(0, .ref (0 * 1024)), (1, .int x1)]) (st' := [.ref (0 * 1024)]) 1 rfl ?_
    refine k_gf 0 0 (K := 0) rfl rfl rfl rfl rfl ?_
    refine k_gf 2 0 (K := 2) rfl rfl rfl rfl rfl ?_
    refine k_runB (pc' := 16) (loc' := [(0, .ref (0 * 1024)), (1, .int x1)]) (st' := [.int x1, .ref (2 * 1024 + 4)]) 1 rfl ?_
    obtain ⟨v3, hv3, hD⟩ := Option.bind_eq_some_iff.mp hD
    refine k_ldI rfl (c_get (r := 2) (o := 4) (K := 2) rfl (by decide)) hv3 ?_
    refine k_runB (pc' := 21) (loc' := [(0, .ref (0 * 1024)), (1, .int x1)]) (st' := [.int v3]) 1 rfl ?_
    cases hD
    exact k_iret rfl rfl
/-- SleepWork.way(II)I  -/
def e_SleepWork_way (n : Nat) (P : Nat → Nat → Nat) (F : Nat → Nat → Int32) (A : Nat → Nat → Nat → Int32) (J : Nat → Nat → Nat → Int64) (x1 : Int32) (x2 : Int32) : Option (Int32 × (Nat → Nat → Nat) × (Nat → Nat → Int32) × (Nat → Nat → Nat → Int32) × (Nat → Nat → Nat → Int64)) :=
  (e_SleepWork_isRoom P F A J x1).bind fun v1 =>
  cond (g_cnd .eq v1 0)
  (some ((-1), P, F, A, J))
  ((e_SleepWork_isRoom P F A J x2).bind fun v3 =>
  cond (g_cnd .ne v3 0)
  ((e_Evening_minutesBetween n P F A J x1 x2).bind fun (v5, P6, F7, A8, J9) =>
  cond (g_cnd .lt v5 1000000)
  (some (v5, P6, F7, A8, J9))
  (some ((-2), P6, F7, A8, J9)))
  (some ((-1), P, F, A, J)))
set_option maxRecDepth 10000 in
theorem t_e_SleepWork_way (ht : ∀ ci k, t.1 ci k = k_ty ci k) {n : Nat} {P : Nat → Nat → Nat} {F : Nat → Nat → Int32} {A : Nat → Nat → Nat → Int32} {J : Nat → Nat → Nat → Int64} {x1 : Int32} {x2 : Int32}  {w : Int32 × (Nat → Nat → Nat) × (Nat → Nat → Int32) × (Nat → Nat → Nat → Int32) × (Nat → Nat → Nat → Int64)} : e_SleepWork_way n P F A J x1 x2 = some w → k_run t lg (d + 4) 113 0 [(0, .ref (0 * 1024)), (1, .int x1), (2, .int x2)] [] (c_h c B P F A J) (some (.int w.1), c_h c B w.2.1 w.2.2.1 w.2.2.2.1 w.2.2.2.2) := by
  intro hD
  unfold e_SleepWork_way at hD
  refine k_runB (pc' := 2) (loc' := [(0, .ref (0 * 1024)), (1, .int x1), (2, .int x2)]) (st' := [.int x1, .ref (0 * 1024)]) 2 rfl ?_
  obtain ⟨v1, hv1, hD⟩ := Option.bind_eq_some_iff.mp hD
  refine k_runV rfl rfl rfl (c_get (r := 0) (o := 0) (K := 0) rfl (by decide)) rfl rfl (t_e_SleepWork_isRoom (d := d + 3) hv1) ?_
  refine k_if rfl (fun c5_1 => ?_) (fun c5_1 => ?_)
  · rw [c5_1, cond_true] at hD
    refine k_runB (pc' := 17) (loc' := [(0, .ref (0 * 1024)), (1, .int x1), (2, .int x2)]) (st' := [.int ((-1))]) 1 rfl ?_
    cases hD
    exact k_iret rfl rfl
  · rw [c5_1, cond_false] at hD
    refine k_runB (pc' := 10) (loc' := [(0, .ref (0 * 1024)), (1, .int x1), (2, .int x2)]) (st' := [.int x2, .ref (0 * 1024)]) 2 rfl ?_
    obtain ⟨v3, hv3, hD⟩ := Option.bind_eq_some_iff.mp hD
    refine k_runV rfl rfl rfl (c_get (r := 0) (o := 0) (K := 0) rfl (by decide)) rfl rfl (t_e_SleepWork_isRoom (d := d + 3) hv3) ?_
    refine k_if rfl (fun c13_3 => ?_) (fun c13_3 => ?_)
    · rw [c13_3, cond_true] at hD
      refine k_runB (pc' := 19) (loc' := [(0, .ref (0 * 1024)), (1, .int x1), (2, .int x2)]) (st' := [.ref (0 * 1024)]) 1 rfl ?_
      refine k_gf 0 0 (K := 0) rfl rfl rfl rfl rfl ?_
      refine k_runB (pc' := 24) (loc' := [(0, .ref (0 * 1024)), (1, .int x1), (2, .int x2)]) (st' := [.int x2, .int x1, .ref (32 * 1024)]) 2 rfl ?_
      obtain ⟨⟨v5, P6, F7, A8, J9⟩, hv5, hD⟩ := Option.bind_eq_some_iff.mp hD
      dsimp only at hD
      refine k_runV rfl rfl rfl (c_get (r := 32) (o := 0) (K := 7) rfl (by decide)) rfl rfl (t_e_Evening_minutesBetween (d := d) ht hv5) ?_
      refine k_runB (pc' := 31) (loc' := [(0, .ref (0 * 1024)), (1, .int x1), (2, .int x2), (3, .int v5)]) (st' := [.int 1000000, .int v5]) 3 rfl ?_
      refine k_ic rfl (fun c31_9 => ?_) (fun c31_9 => ?_)
      · rw [c31_9, cond_true] at hD
        refine k_runB (pc' := 40) (loc' := [(0, .ref (0 * 1024)), (1, .int x1), (2, .int x2), (3, .int v5)]) (st' := [.int v5]) 1 rfl ?_
        cases hD
        exact k_iret rfl rfl
      · rw [c31_9, cond_false] at hD
        refine k_runB (pc' := 40) (loc' := [(0, .ref (0 * 1024)), (1, .int x1), (2, .int x2), (3, .int v5)]) (st' := [.int ((-2))]) 2 rfl ?_
        cases hD
        exact k_iret rfl rfl
    · rw [c13_3, cond_false] at hD
      refine k_runB (pc' := 17) (loc' := [(0, .ref (0 * 1024)), (1, .int x1), (2, .int x2)]) (st' := [.int ((-1))]) 1 rfl ?_
      cases hD
      exact k_iret rfl rfl
def e_SleepWork_leave_69 (P : Nat → Nat → Nat) (F : Nat → Nat → Int32) (A : Nat → Nat → Nat → Int32) (J : Nat → Nat → Nat → Int64) (s1 : Int32) (s2 : Int32) : Option (Int32 × (Nat → Nat → Nat) × (Nat → Nat → Int32) × (Nat → Nat → Nat → Int32) × (Nat → Nat → Nat → Int64)) :=
    (c_st A 2 3 6 s1 s2).bind fun A10 =>
    (e_Evening_setStale P F A10 J).bind fun (_, P12, F13, A14, J15) =>
    some (1, P12, F13, A14, J15)
set_option maxRecDepth 10000 in
theorem t_e_SleepWork_leave_69 (ht : ∀ ci k, t.1 ci k = k_ty ci k)  {P : Nat → Nat → Nat} {F : Nat → Nat → Int32} {A : Nat → Nat → Nat → Int32} {J : Nat → Nat → Nat → Int64} {s1 : Int32} {s2 : Int32}  {w : Int32 × (Nat → Nat → Nat) × (Nat → Nat → Int32) × (Nat → Nat → Nat → Int32) × (Nat → Nat → Nat → Int64)} : e_SleepWork_leave_69 P F A J s1 s2 = some w → k_run t lg (d + 1) 114 69 [(0, .ref (0 * 1024))] [.int s2, .int s1, .ref (2 * 1024 + 3)] (c_h c B P F A J) (some (.int w.1), c_h c B w.2.1 w.2.2.1 w.2.2.2.1 w.2.2.2.2) := by
  intro hD
  unfold e_SleepWork_leave_69 at hD
  obtain ⟨A10, hA10, hD⟩ := Option.bind_eq_some_iff.mp hD
  refine k_cstI 2 3 (K := 2) rfl rfl rfl rfl (fun _ => rfl) hA10 ?_
  refine k_runB (pc' := 71) (loc' := [(0, .ref (0 * 1024))]) (st' := [.ref (0 * 1024)]) 1 rfl ?_
  refine k_gf 0 0 (K := 0) rfl rfl rfl rfl rfl ?_
  obtain ⟨⟨v11, P12, F13, A14, J15⟩, hv11, hD⟩ := Option.bind_eq_some_iff.mp hD
  dsimp only at hD
  refine k_runV rfl rfl rfl (c_get (r := 32) (o := 0) (K := 7) rfl (by decide)) rfl rfl (t_e_Evening_setStale (d := d) ht hv11) ?_
  refine k_runB (pc' := 78) (loc' := [(0, .ref (0 * 1024))]) (st' := [.int 1]) 1 rfl ?_
  cases hD
  exact k_zret rfl rfl (Or.inr rfl)
def e_SleepWork_leave_46 (P : Nat → Nat → Nat) (F : Nat → Nat → Int32) (A : Nat → Nat → Nat → Int32) (J : Nat → Nat → Nat → Int64) (x1 : Int32) (x2 : Int32) (x3 : Int32) (x4 : Int32) : Option (Int32 × (Nat → Nat → Nat) × (Nat → Nat → Int32) × (Nat → Nat → Nat → Int32) × (Nat → Nat → Nat → Int64)) :=
    cond (g_cnd .eq x4 0)
    (e_SleepWork_leave_69 P F A J x1 ((x2 * 6) + x3))
    (e_SleepWork_leave_69 P F A J x1 ((-1)))
set_option maxRecDepth 10000 in
theorem t_e_SleepWork_leave_46 (ht : ∀ ci k, t.1 ci k = k_ty ci k)  {P : Nat → Nat → Nat} {F : Nat → Nat → Int32} {A : Nat → Nat → Nat → Int32} {J : Nat → Nat → Nat → Int64} {x1 : Int32} {x2 : Int32} {x3 : Int32} {x4 : Int32}  {w : Int32 × (Nat → Nat → Nat) × (Nat → Nat → Int32) × (Nat → Nat → Nat → Int32) × (Nat → Nat → Nat → Int64)} : e_SleepWork_leave_46 P F A J x1 x2 x3 x4 = some w → k_run t lg (d + 1) 114 46 [(0, .ref (0 * 1024)), (1, .int x1), (2, .int x2), (3, .int x3), (4, .int x4)] [] (c_h c B P F A J) (some (.int w.1), c_h c B w.2.1 w.2.2.1 w.2.2.2.1 w.2.2.2.2) := by
  intro hD
  unfold e_SleepWork_leave_46 at hD
  refine k_runB (pc' := 47) (loc' := [(0, .ref (0 * 1024)), (1, .int x1), (2, .int x2), (3, .int x3), (4, .int x4)]) (st' := [.ref (0 * 1024)]) 1 rfl ?_
  refine k_gf 0 0 (K := 0) rfl rfl rfl rfl rfl ?_
  refine k_gf 2 0 (K := 2) rfl rfl rfl rfl rfl ?_
  refine k_runB (pc' := 56) (loc' := [(0, .ref (0 * 1024)), (1, .int x1), (2, .int x2), (3, .int x3), (4, .int x4)]) (st' := [.int x4, .int x1, .ref (2 * 1024 + 3)]) 2 rfl ?_
  refine k_if rfl (fun c56_8 => ?_) (fun c56_8 => ?_)
  · rw [c56_8, cond_true] at hD
    refine k_runB (pc' := 69) (loc' := [(0, .ref (0 * 1024)), (1, .int x1), (2, .int x2), (3, .int x3), (4, .int x4)]) (st' := [.int ((x2 * 6) + x3), .int x1, .ref (2 * 1024 + 3)]) 5 rfl ?_
    refine k_wk [0] (loc' := [(0, .ref (0 * 1024))]) rfl rfl ?_
    exact t_e_SleepWork_leave_69 ht   hD
  · rw [c56_8, cond_false] at hD
    refine k_runB (pc' := 69) (loc' := [(0, .ref (0 * 1024)), (1, .int x1), (2, .int x2), (3, .int x3), (4, .int x4)]) (st' := [.int ((-1)), .int x1, .ref (2 * 1024 + 3)]) 2 rfl ?_
    refine k_wk [0] (loc' := [(0, .ref (0 * 1024))]) rfl rfl ?_
    exact t_e_SleepWork_leave_69 ht   hD
def e_SleepWork_leave_25 (P : Nat → Nat → Nat) (F : Nat → Nat → Int32) (A : Nat → Nat → Nat → Int32) (J : Nat → Nat → Nat → Int64) (x1 : Int32) (x2 : Int32) (x3 : Int32) (s0 : Int32) : Option (Int32 × (Nat → Nat → Nat) × (Nat → Nat → Int32) × (Nat → Nat → Nat → Int32) × (Nat → Nat → Nat → Int64)) :=
    cond (g_cnd .ne s0 0)
    (e_SleepWork_leave_46 P F A J x1 x2 x3 s0)
    ((c_chk 6 (P 0 8)).bind fun q6 =>
    (e_House_hasStep P F A J q6 x2 x3).bind fun v7 =>
    cond (g_cnd .ne v7 0)
    (e_SleepWork_leave_46 P F A J x1 x2 x3 s0)
    (some (0, P, F, A, J)))
set_option maxRecDepth 10000 in
theorem t_e_SleepWork_leave_25 (ht : ∀ ci k, t.1 ci k = k_ty ci k)  {P : Nat → Nat → Nat} {F : Nat → Nat → Int32} {A : Nat → Nat → Nat → Int32} {J : Nat → Nat → Nat → Int64} {x1 : Int32} {x2 : Int32} {x3 : Int32} {s0 : Int32}  {w : Int32 × (Nat → Nat → Nat) × (Nat → Nat → Int32) × (Nat → Nat → Nat → Int32) × (Nat → Nat → Nat → Int64)} : e_SleepWork_leave_25 P F A J x1 x2 x3 s0 = some w → k_run t lg (d + 1) 114 25 [(0, .ref (0 * 1024)), (1, .int x1), (2, .int x2), (3, .int x3)] [.int s0] (c_h c B P F A J) (some (.int w.1), c_h c B w.2.1 w.2.2.1 w.2.2.2.1 w.2.2.2.2) := by
  intro hD
  unfold e_SleepWork_leave_25 at hD
  refine k_runB (pc' := 29) (loc' := [(0, .ref (0 * 1024)), (1, .int x1), (2, .int x2), (3, .int x3), (4, .int s0)]) (st' := [.int s0]) 2 rfl ?_
  refine k_if rfl (fun c29_4 => ?_) (fun c29_4 => ?_)
  · rw [c29_4, cond_true] at hD
    refine k_wk [0, 1, 2, 3, 4] (loc' := [(0, .ref (0 * 1024)), (1, .int x1), (2, .int x2), (3, .int x3), (4, .int s0)]) rfl rfl ?_
    exact t_e_SleepWork_leave_46 ht   hD
  · rw [c29_4, cond_false] at hD
    refine k_runB (pc' := 33) (loc' := [(0, .ref (0 * 1024)), (1, .int x1), (2, .int x2), (3, .int x3), (4, .int s0)]) (st' := [.ref (0 * 1024)]) 1 rfl ?_
    obtain ⟨q6, hq6, hD⟩ := Option.bind_eq_some_iff.mp hD
    refine k_gq 0 0 (K := 0) (K2 := 6) (key := 8) rfl rfl rfl rfl rfl hq6 (fun kq6 => ?_)
    refine k_runB (pc' := 38) (loc' := [(0, .ref (0 * 1024)), (1, .int x1), (2, .int x2), (3, .int x3), (4, .int s0)]) (st' := [.int x3, .int x2, .ref (q6 * 1024)]) 2 rfl ?_
    obtain ⟨v7, hv7, hD⟩ := Option.bind_eq_some_iff.mp hD
    refine k_runV rfl rfl rfl (c_get (r := q6) (o := 0) (K := 6) kq6 (by decide)) rfl rfl (t_e_House_hasStep (d := d) kq6 hv7) ?_
    refine k_if rfl (fun c41_7 => ?_) (fun c41_7 => ?_)
    · rw [c41_7, cond_true] at hD
      refine k_wk [0, 1, 2, 3, 4] (loc' := [(0, .ref (0 * 1024)), (1, .int x1), (2, .int x2), (3, .int x3), (4, .int s0)]) rfl rfl ?_
      exact t_e_SleepWork_leave_46 ht   hD
    · rw [c41_7, cond_false] at hD
      refine k_runB (pc' := 45) (loc' := [(0, .ref (0 * 1024)), (1, .int x1), (2, .int x2), (3, .int x3), (4, .int s0)]) (st' := [.int 0]) 1 rfl ?_
      cases hD
      exact k_zret rfl rfl (Or.inl rfl)
def e_SleepWork_leave_24 (P : Nat → Nat → Nat) (F : Nat → Nat → Int32) (A : Nat → Nat → Nat → Int32) (J : Nat → Nat → Nat → Int64) (x1 : Int32) (x2 : Int32) (x3 : Int32) : Option (Int32 × (Nat → Nat → Nat) × (Nat → Nat → Int32) × (Nat → Nat → Nat → Int32) × (Nat → Nat → Nat → Int64)) :=
    e_SleepWork_leave_25 P F A J x1 x2 x3 0
set_option maxRecDepth 10000 in
theorem t_e_SleepWork_leave_24 (ht : ∀ ci k, t.1 ci k = k_ty ci k)  {P : Nat → Nat → Nat} {F : Nat → Nat → Int32} {A : Nat → Nat → Nat → Int32} {J : Nat → Nat → Nat → Int64} {x1 : Int32} {x2 : Int32} {x3 : Int32}  {w : Int32 × (Nat → Nat → Nat) × (Nat → Nat → Int32) × (Nat → Nat → Nat → Int32) × (Nat → Nat → Nat → Int64)} : e_SleepWork_leave_24 P F A J x1 x2 x3 = some w → k_run t lg (d + 1) 114 24 [(0, .ref (0 * 1024)), (1, .int x1), (2, .int x2), (3, .int x3)] [] (c_h c B P F A J) (some (.int w.1), c_h c B w.2.1 w.2.2.1 w.2.2.2.1 w.2.2.2.2) := by
  intro hD
  unfold e_SleepWork_leave_24 at hD
  refine k_runB (pc' := 25) (loc' := [(0, .ref (0 * 1024)), (1, .int x1), (2, .int x2), (3, .int x3)]) (st' := [.int 0]) 1 rfl ?_
  refine k_wk [0, 1, 2, 3] (loc' := [(0, .ref (0 * 1024)), (1, .int x1), (2, .int x2), (3, .int x3)]) rfl rfl ?_
  exact t_e_SleepWork_leave_25 ht   hD
/-- SleepWork.leave(III)Z  -/
def e_SleepWork_leave (P : Nat → Nat → Nat) (F : Nat → Nat → Int32) (A : Nat → Nat → Nat → Int32) (J : Nat → Nat → Nat → Int64) (x1 : Int32) (x2 : Int32) (x3 : Int32) : Option (Int32 × (Nat → Nat → Nat) × (Nat → Nat → Int32) × (Nat → Nat → Nat → Int32) × (Nat → Nat → Nat → Int64)) :=
  (e_SleepWork_isMan P F A J x1).bind fun v1 =>
  cond (g_cnd .ne v1 0)
  (cond (g_cnd .ne x2 ((-1)))
  (e_SleepWork_leave_24 P F A J x1 x2 x3)
  (cond (g_cnd .ne x3 ((-1)))
  (e_SleepWork_leave_24 P F A J x1 x2 x3)
  (e_SleepWork_leave_25 P F A J x1 x2 x3 1)))
  (some (0, P, F, A, J))
set_option maxRecDepth 10000 in
theorem t_e_SleepWork_leave (ht : ∀ ci k, t.1 ci k = k_ty ci k) {P : Nat → Nat → Nat} {F : Nat → Nat → Int32} {A : Nat → Nat → Nat → Int32} {J : Nat → Nat → Nat → Int64} {x1 : Int32} {x2 : Int32} {x3 : Int32}  {w : Int32 × (Nat → Nat → Nat) × (Nat → Nat → Int32) × (Nat → Nat → Nat → Int32) × (Nat → Nat → Nat → Int64)} : e_SleepWork_leave P F A J x1 x2 x3 = some w → k_run t lg (d + 1) 114 0 [(0, .ref (0 * 1024)), (1, .int x1), (2, .int x2), (3, .int x3)] [] (c_h c B P F A J) (some (.int w.1), c_h c B w.2.1 w.2.2.1 w.2.2.2.1 w.2.2.2.2) := by
  intro hD
  unfold e_SleepWork_leave at hD
  refine k_runB (pc' := 2) (loc' := [(0, .ref (0 * 1024)), (1, .int x1), (2, .int x2), (3, .int x3)]) (st' := [.int x1, .ref (0 * 1024)]) 2 rfl ?_
  obtain ⟨v1, hv1, hD⟩ := Option.bind_eq_some_iff.mp hD
  refine k_runV rfl rfl rfl (c_get (r := 0) (o := 0) (K := 0) rfl (by decide)) rfl rfl (t_e_SleepWork_isMan (d := d) hv1) ?_
  refine k_if rfl (fun c5_1 => ?_) (fun c5_1 => ?_)
  · rw [c5_1, cond_true] at hD
    refine k_runB (pc' := 12) (loc' := [(0, .ref (0 * 1024)), (1, .int x1), (2, .int x2), (3, .int x3)]) (st' := [.int ((-1)), .int x2]) 2 rfl ?_
    refine k_ic rfl (fun c12_2 => ?_) (fun c12_2 => ?_)
    · rw [c12_2, cond_true] at hD
      refine k_wk [0, 1, 2, 3] (loc' := [(0, .ref (0 * 1024)), (1, .int x1), (2, .int x2), (3, .int x3)]) rfl rfl ?_
      exact t_e_SleepWork_leave_24 ht   hD
    · rw [c12_2, cond_false] at hD
      refine k_runB (pc' := 17) (loc' := [(0, .ref (0 * 1024)), (1, .int x1), (2, .int x2), (3, .int x3)]) (st' := [.int ((-1)), .int x3]) 2 rfl ?_
      refine k_ic rfl (fun c17_3 => ?_) (fun c17_3 => ?_)
      · rw [c17_3, cond_true] at hD
        refine k_wk [0, 1, 2, 3] (loc' := [(0, .ref (0 * 1024)), (1, .int x1), (2, .int x2), (3, .int x3)]) rfl rfl ?_
        exact t_e_SleepWork_leave_24 ht   hD
      · rw [c17_3, cond_false] at hD
        refine k_runB (pc' := 25) (loc' := [(0, .ref (0 * 1024)), (1, .int x1), (2, .int x2), (3, .int x3)]) (st' := [.int 1]) 2 rfl ?_
        refine k_wk [0, 1, 2, 3] (loc' := [(0, .ref (0 * 1024)), (1, .int x1), (2, .int x2), (3, .int x3)]) rfl rfl ?_
        exact t_e_SleepWork_leave_25 ht   hD
  · rw [c5_1, cond_false] at hD
    refine k_runB (pc' := 9) (loc' := [(0, .ref (0 * 1024)), (1, .int x1), (2, .int x2), (3, .int x3)]) (st' := [.int 0]) 1 rfl ?_
    cases hD
    exact k_zret rfl rfl (Or.inl rfl)
/-- SleepWork.work(II)Z  -/
def e_SleepWork_work (P : Nat → Nat → Nat) (F : Nat → Nat → Int32) (A : Nat → Nat → Nat → Int32) (J : Nat → Nat → Nat → Int64) (x1 : Int32) (x2 : Int32) : Option (Int32 × (Nat → Nat → Nat) × (Nat → Nat → Int32) × (Nat → Nat → Nat → Int32) × (Nat → Nat → Nat → Int64)) :=
  (c_chk 6 (P 0 8)).bind fun q1 =>
  (e_House_hasStep P F A J q1 x1 x2).bind fun v2 =>
  cond (g_cnd .eq v2 0)
  (some (0, P, F, A, J))
  ((m_ld (A 2 2) 6 x1).bind fun v4 =>
  cond (g_cnd .gt v4 0)
  ((m_ld (A 2 2) 6 x1).bind fun v6 =>
  (c_st A 2 2 6 x1 (v6 - 1)).bind fun A7 =>
  (c_chk 6 (P 0 8)).bind fun q8 =>
  (e_House_finish P F A7 J q8 2 x1 x2).bind fun (_, P10, F11, A12, J13) =>
  (e_Evening_setStale P10 F11 A12 J13).bind fun (_, P15, F16, A17, J18) =>
  some (1, P15, F16, A17, J18))
  (some (0, P, F, A, J)))
set_option maxRecDepth 10000 in
theorem t_e_SleepWork_work (ht : ∀ ci k, t.1 ci k = k_ty ci k) {P : Nat → Nat → Nat} {F : Nat → Nat → Int32} {A : Nat → Nat → Nat → Int32} {J : Nat → Nat → Nat → Int64} {x1 : Int32} {x2 : Int32}  {w : Int32 × (Nat → Nat → Nat) × (Nat → Nat → Int32) × (Nat → Nat → Nat → Int32) × (Nat → Nat → Nat → Int64)} : e_SleepWork_work P F A J x1 x2 = some w → k_run t lg (d + 1) 115 0 [(0, .ref (0 * 1024)), (1, .int x1), (2, .int x2)] [] (c_h c B P F A J) (some (.int w.1), c_h c B w.2.1 w.2.2.1 w.2.2.2.1 w.2.2.2.2) := by
  intro hD
  unfold e_SleepWork_work at hD
  refine k_runB (pc' := 1) (loc' := [(0, .ref (0 * 1024)), (1, .int x1), (2, .int x2)]) (st' := [.ref (0 * 1024)]) 1 rfl ?_
  obtain ⟨q1, hq1, hD⟩ := Option.bind_eq_some_iff.mp hD
  refine k_gq 0 0 (K := 0) (K2 := 6) (key := 8) rfl rfl rfl rfl rfl hq1 (fun kq1 => ?_)
  refine k_runB (pc' := 6) (loc' := [(0, .ref (0 * 1024)), (1, .int x1), (2, .int x2)]) (st' := [.int x2, .int x1, .ref (q1 * 1024)]) 2 rfl ?_
  obtain ⟨v2, hv2, hD⟩ := Option.bind_eq_some_iff.mp hD
  refine k_runV rfl rfl rfl (c_get (r := q1) (o := 0) (K := 6) kq1 (by decide)) rfl rfl (t_e_House_hasStep (d := d) kq1 hv2) ?_
  refine k_if rfl (fun c9_2 => ?_) (fun c9_2 => ?_)
  · rw [c9_2, cond_true] at hD
    refine k_runB (pc' := 25) (loc' := [(0, .ref (0 * 1024)), (1, .int x1), (2, .int x2)]) (st' := [.int 0]) 1 rfl ?_
    cases hD
    exact k_zret rfl rfl (Or.inl rfl)
  · rw [c9_2, cond_false] at hD
    refine k_runB (pc' := 13) (loc' := [(0, .ref (0 * 1024)), (1, .int x1), (2, .int x2)]) (st' := [.ref (0 * 1024)]) 1 rfl ?_
    refine k_gf 0 0 (K := 0) rfl rfl rfl rfl rfl ?_
    refine k_gf 2 0 (K := 2) rfl rfl rfl rfl rfl ?_
    refine k_runB (pc' := 20) (loc' := [(0, .ref (0 * 1024)), (1, .int x1), (2, .int x2)]) (st' := [.int x1, .ref (2 * 1024 + 2)]) 1 rfl ?_
    obtain ⟨v4, hv4, hD⟩ := Option.bind_eq_some_iff.mp hD
    refine k_ldI rfl (c_get (r := 2) (o := 2) (K := 2) rfl (by decide)) hv4 ?_
    refine k_if rfl (fun c21_4 => ?_) (fun c21_4 => ?_)
    · rw [c21_4, cond_true] at hD
      refine k_runB (pc' := 27) (loc' := [(0, .ref (0 * 1024)), (1, .int x1), (2, .int x2)]) (st' := [.ref (0 * 1024)]) 1 rfl ?_
      refine k_gf 0 0 (K := 0) rfl rfl rfl rfl rfl ?_
      refine k_gf 2 0 (K := 2) rfl rfl rfl rfl rfl ?_
      refine k_runB (pc' := 35) (loc' := [(0, .ref (0 * 1024)), (1, .int x1), (2, .int x2)]) (st' := [.int x1, .ref (2 * 1024 + 2), .int x1, .ref (2 * 1024 + 2)]) 2 rfl ?_
      obtain ⟨v6, hv6, hD⟩ := Option.bind_eq_some_iff.mp hD
      refine k_ldI rfl (c_get (r := 2) (o := 2) (K := 2) rfl (by decide)) hv6 ?_
      refine k_runB (pc' := 38) (loc' := [(0, .ref (0 * 1024)), (1, .int x1), (2, .int x2)]) (st' := [.int (v6 - 1), .int x1, .ref (2 * 1024 + 2)]) 2 rfl ?_
      obtain ⟨A7, hA7, hD⟩ := Option.bind_eq_some_iff.mp hD
      refine k_cstI 2 2 (K := 2) rfl rfl rfl rfl (fun _ => rfl) hA7 ?_
      refine k_runB (pc' := 40) (loc' := [(0, .ref (0 * 1024)), (1, .int x1), (2, .int x2)]) (st' := [.ref (0 * 1024)]) 1 rfl ?_
      obtain ⟨q8, hq8, hD⟩ := Option.bind_eq_some_iff.mp hD
      refine k_gq 0 0 (K := 0) (K2 := 6) (key := 8) rfl rfl rfl rfl rfl hq8 (fun kq8 => ?_)
      refine k_runB (pc' := 44) (loc' := [(0, .ref (0 * 1024)), (1, .int x1), (2, .int x2)]) (st' := [.ref (0 * 1024), .ref (q8 * 1024)]) 1 rfl ?_
      refine k_gf 0 0 (K := 0) rfl rfl rfl rfl rfl ?_
      refine k_runB (pc' := 49) (loc' := [(0, .ref (0 * 1024)), (1, .int x1), (2, .int x2)]) (st' := [.int x2, .int x1, .ref (2 * 1024), .ref (q8 * 1024)]) 2 rfl ?_
      obtain ⟨⟨v9, P10, F11, A12, J13⟩, hv9, hD⟩ := Option.bind_eq_some_iff.mp hD
      dsimp only at hD
      refine k_runV rfl rfl rfl (c_get (r := q8) (o := 0) (K := 6) kq8 (by decide)) rfl rfl (t_e_House_finish (d := d) kq8 rfl hv9) ?_
      refine k_runB (pc' := 53) (loc' := [(0, .ref (0 * 1024)), (1, .int x1), (2, .int x2)]) (st' := [.ref (0 * 1024)]) 1 rfl ?_
      refine k_gf 0 0 (K := 0) rfl rfl rfl rfl rfl ?_
      obtain ⟨⟨v14, P15, F16, A17, J18⟩, hv14, hD⟩ := Option.bind_eq_some_iff.mp hD
      dsimp only at hD
      refine k_runV rfl rfl rfl (c_get (r := 32) (o := 0) (K := 7) rfl (by decide)) rfl rfl (t_e_Evening_setStale (d := d) ht hv14) ?_
      refine k_runB (pc' := 60) (loc' := [(0, .ref (0 * 1024)), (1, .int x1), (2, .int x2)]) (st' := [.int 1]) 1 rfl ?_
      cases hD
      exact k_zret rfl rfl (Or.inr rfl)
    · rw [c21_4, cond_false] at hD
      refine k_runB (pc' := 25) (loc' := [(0, .ref (0 * 1024)), (1, .int x1), (2, .int x2)]) (st' := [.int 0]) 1 rfl ?_
      cases hD
      exact k_zret rfl rfl (Or.inl rfl)
/-- SleepWork.lay(II)Z  -/
def e_SleepWork_lay (P : Nat → Nat → Nat) (F : Nat → Nat → Int32) (A : Nat → Nat → Nat → Int32) (J : Nat → Nat → Nat → Int64) (x1 : Int32) (x2 : Int32) : Option (Int32 × (Nat → Nat → Nat) × (Nat → Nat → Int32) × (Nat → Nat → Nat → Int32) × (Nat → Nat → Nat → Int64)) :=
  (e_SleepWork_isTool P F A J x1).bind fun v1 =>
  cond (g_cnd .eq v1 0)
  (some (0, P, F, A, J))
  ((e_SleepWork_isRoom P F A J x2).bind fun v3 =>
  cond (g_cnd .ne v3 0)
  ((c_st A 2 4 6 x1 x2).bind fun A5 =>
  (e_Evening_setStale P F A5 J).bind fun (_, P7, F8, A9, J10) =>
  some (1, P7, F8, A9, J10))
  (some (0, P, F, A, J)))
set_option maxRecDepth 10000 in
theorem t_e_SleepWork_lay (ht : ∀ ci k, t.1 ci k = k_ty ci k) {P : Nat → Nat → Nat} {F : Nat → Nat → Int32} {A : Nat → Nat → Nat → Int32} {J : Nat → Nat → Nat → Int64} {x1 : Int32} {x2 : Int32}  {w : Int32 × (Nat → Nat → Nat) × (Nat → Nat → Int32) × (Nat → Nat → Nat → Int32) × (Nat → Nat → Nat → Int64)} : e_SleepWork_lay P F A J x1 x2 = some w → k_run t lg (d + 1) 116 0 [(0, .ref (0 * 1024)), (1, .int x1), (2, .int x2)] [] (c_h c B P F A J) (some (.int w.1), c_h c B w.2.1 w.2.2.1 w.2.2.2.1 w.2.2.2.2) := by
  intro hD
  unfold e_SleepWork_lay at hD
  refine k_runB (pc' := 2) (loc' := [(0, .ref (0 * 1024)), (1, .int x1), (2, .int x2)]) (st' := [.int x1, .ref (0 * 1024)]) 2 rfl ?_
  obtain ⟨v1, hv1, hD⟩ := Option.bind_eq_some_iff.mp hD
  refine k_runV rfl rfl rfl (c_get (r := 0) (o := 0) (K := 0) rfl (by decide)) rfl rfl (t_e_SleepWork_isTool (d := d) hv1) ?_
  refine k_if rfl (fun c5_1 => ?_) (fun c5_1 => ?_)
  · rw [c5_1, cond_true] at hD
    refine k_runB (pc' := 17) (loc' := [(0, .ref (0 * 1024)), (1, .int x1), (2, .int x2)]) (st' := [.int 0]) 1 rfl ?_
    cases hD
    exact k_zret rfl rfl (Or.inl rfl)
  · rw [c5_1, cond_false] at hD
    refine k_runB (pc' := 10) (loc' := [(0, .ref (0 * 1024)), (1, .int x1), (2, .int x2)]) (st' := [.int x2, .ref (0 * 1024)]) 2 rfl ?_
    obtain ⟨v3, hv3, hD⟩ := Option.bind_eq_some_iff.mp hD
    refine k_runV rfl rfl rfl (c_get (r := 0) (o := 0) (K := 0) rfl (by decide)) rfl rfl (t_e_SleepWork_isRoom (d := d) hv3) ?_
    refine k_if rfl (fun c13_3 => ?_) (fun c13_3 => ?_)
    · rw [c13_3, cond_true] at hD
      refine k_runB (pc' := 19) (loc' := [(0, .ref (0 * 1024)), (1, .int x1), (2, .int x2)]) (st' := [.ref (0 * 1024)]) 1 rfl ?_
      refine k_gf 0 0 (K := 0) rfl rfl rfl rfl rfl ?_
      refine k_gf 2 0 (K := 2) rfl rfl rfl rfl rfl ?_
      refine k_runB (pc' := 27) (loc' := [(0, .ref (0 * 1024)), (1, .int x1), (2, .int x2)]) (st' := [.int x2, .int x1, .ref (2 * 1024 + 4)]) 2 rfl ?_
      obtain ⟨A5, hA5, hD⟩ := Option.bind_eq_some_iff.mp hD
      refine k_cstI 2 4 (K := 2) rfl rfl rfl rfl (fun _ => rfl) hA5 ?_
      refine k_runB (pc' := 29) (loc' := [(0, .ref (0 * 1024)), (1, .int x1), (2, .int x2)]) (st' := [.ref (0 * 1024)]) 1 rfl ?_
      refine k_gf 0 0 (K := 0) rfl rfl rfl rfl rfl ?_
      obtain ⟨⟨v6, P7, F8, A9, J10⟩, hv6, hD⟩ := Option.bind_eq_some_iff.mp hD
      dsimp only at hD
      refine k_runV rfl rfl rfl (c_get (r := 32) (o := 0) (K := 7) rfl (by decide)) rfl rfl (t_e_Evening_setStale (d := d) ht hv6) ?_
      refine k_runB (pc' := 36) (loc' := [(0, .ref (0 * 1024)), (1, .int x1), (2, .int x2)]) (st' := [.int 1]) 1 rfl ?_
      cases hD
      exact k_zret rfl rfl (Or.inr rfl)
    · rw [c13_3, cond_false] at hD
      refine k_runB (pc' := 17) (loc' := [(0, .ref (0 * 1024)), (1, .int x1), (2, .int x2)]) (st' := [.int 0]) 1 rfl ?_
      cases hD
      exact k_zret rfl rfl (Or.inl rfl)
/-- SleepWork.give(II)Z  -/
def e_SleepWork_give (P : Nat → Nat → Nat) (F : Nat → Nat → Int32) (A : Nat → Nat → Nat → Int32) (J : Nat → Nat → Nat → Int64) (x1 : Int32) (x2 : Int32) : Option (Int32 × (Nat → Nat → Nat) × (Nat → Nat → Int32) × (Nat → Nat → Nat → Int32) × (Nat → Nat → Nat → Int64)) :=
  (e_SleepWork_isTool P F A J x1).bind fun v1 =>
  cond (g_cnd .eq v1 0)
  (some (0, P, F, A, J))
  ((e_SleepWork_isMan P F A J x2).bind fun v3 =>
  cond (g_cnd .ne v3 0)
  ((c_st A 2 4 6 x1 (100 + x2)).bind fun A5 =>
  (e_Evening_setStale P F A5 J).bind fun (_, P7, F8, A9, J10) =>
  some (1, P7, F8, A9, J10))
  (some (0, P, F, A, J)))
set_option maxRecDepth 10000 in
theorem t_e_SleepWork_give (ht : ∀ ci k, t.1 ci k = k_ty ci k) {P : Nat → Nat → Nat} {F : Nat → Nat → Int32} {A : Nat → Nat → Nat → Int32} {J : Nat → Nat → Nat → Int64} {x1 : Int32} {x2 : Int32}  {w : Int32 × (Nat → Nat → Nat) × (Nat → Nat → Int32) × (Nat → Nat → Nat → Int32) × (Nat → Nat → Nat → Int64)} : e_SleepWork_give P F A J x1 x2 = some w → k_run t lg (d + 1) 117 0 [(0, .ref (0 * 1024)), (1, .int x1), (2, .int x2)] [] (c_h c B P F A J) (some (.int w.1), c_h c B w.2.1 w.2.2.1 w.2.2.2.1 w.2.2.2.2) := by
  intro hD
  unfold e_SleepWork_give at hD
  refine k_runB (pc' := 2) (loc' := [(0, .ref (0 * 1024)), (1, .int x1), (2, .int x2)]) (st' := [.int x1, .ref (0 * 1024)]) 2 rfl ?_
  obtain ⟨v1, hv1, hD⟩ := Option.bind_eq_some_iff.mp hD
  refine k_runV rfl rfl rfl (c_get (r := 0) (o := 0) (K := 0) rfl (by decide)) rfl rfl (t_e_SleepWork_isTool (d := d) hv1) ?_
  refine k_if rfl (fun c5_1 => ?_) (fun c5_1 => ?_)
  · rw [c5_1, cond_true] at hD
    refine k_runB (pc' := 17) (loc' := [(0, .ref (0 * 1024)), (1, .int x1), (2, .int x2)]) (st' := [.int 0]) 1 rfl ?_
    cases hD
    exact k_zret rfl rfl (Or.inl rfl)
  · rw [c5_1, cond_false] at hD
    refine k_runB (pc' := 10) (loc' := [(0, .ref (0 * 1024)), (1, .int x1), (2, .int x2)]) (st' := [.int x2, .ref (0 * 1024)]) 2 rfl ?_
    obtain ⟨v3, hv3, hD⟩ := Option.bind_eq_some_iff.mp hD
    refine k_runV rfl rfl rfl (c_get (r := 0) (o := 0) (K := 0) rfl (by decide)) rfl rfl (t_e_SleepWork_isMan (d := d) hv3) ?_
    refine k_if rfl (fun c13_3 => ?_) (fun c13_3 => ?_)
    · rw [c13_3, cond_true] at hD
      refine k_runB (pc' := 19) (loc' := [(0, .ref (0 * 1024)), (1, .int x1), (2, .int x2)]) (st' := [.ref (0 * 1024)]) 1 rfl ?_
      refine k_gf 0 0 (K := 0) rfl rfl rfl rfl rfl ?_
      refine k_gf 2 0 (K := 2) rfl rfl rfl rfl rfl ?_
      refine k_runB (pc' := 30) (loc' := [(0, .ref (0 * 1024)), (1, .int x1), (2, .int x2)]) (st' := [.int (100 + x2), .int x1, .ref (2 * 1024 + 4)]) 4 rfl ?_
      obtain ⟨A5, hA5, hD⟩ := Option.bind_eq_some_iff.mp hD
      refine k_cstI 2 4 (K := 2) rfl rfl rfl rfl (fun _ => rfl) hA5 ?_
      refine k_runB (pc' := 32) (loc' := [(0, .ref (0 * 1024)), (1, .int x1), (2, .int x2)]) (st' := [.ref (0 * 1024)]) 1 rfl ?_
      refine k_gf 0 0 (K := 0) rfl rfl rfl rfl rfl ?_
      obtain ⟨⟨v6, P7, F8, A9, J10⟩, hv6, hD⟩ := Option.bind_eq_some_iff.mp hD
      dsimp only at hD
      refine k_runV rfl rfl rfl (c_get (r := 32) (o := 0) (K := 7) rfl (by decide)) rfl rfl (t_e_Evening_setStale (d := d) ht hv6) ?_
      refine k_runB (pc' := 39) (loc' := [(0, .ref (0 * 1024)), (1, .int x1), (2, .int x2)]) (st' := [.int 1]) 1 rfl ?_
      cases hD
      exact k_zret rfl rfl (Or.inr rfl)
    · rw [c13_3, cond_false] at hD
      refine k_runB (pc' := 17) (loc' := [(0, .ref (0 * 1024)), (1, .int x1), (2, .int x2)]) (st' := [.int 0]) 1 rfl ?_
      cases hD
      exact k_zret rfl rfl (Or.inl rfl)
def e_SleepWork_bar_52 (P : Nat → Nat → Nat) (F : Nat → Nat → Int32) (A : Nat → Nat → Nat → Int32) (J : Nat → Nat → Nat → Int64) (rs0 : Nat) (s1 : Int32) : Option (Int32 × (Nat → Nat → Nat) × (Nat → Nat → Int32) × (Nat → Nat → Nat → Int32) × (Nat → Nat → Nat → Int64)) :=
    (c_pf F rs0 7 s1).bind fun F5 =>
    (e_Evening_setStale P F5 A J).bind fun (_, P7, F8, A9, J10) =>
    some (1, P7, F8, A9, J10)
set_option maxRecDepth 10000 in
theorem t_e_SleepWork_bar_52 (ht : ∀ ci k, t.1 ci k = k_ty ci k)  {P : Nat → Nat → Nat} {F : Nat → Nat → Int32} {A : Nat → Nat → Nat → Int32} {J : Nat → Nat → Nat → Int64} {rs0 : Nat} {s1 : Int32} (hrs0 : c_kind rs0 = 2) {w : Int32 × (Nat → Nat → Nat) × (Nat → Nat → Int32) × (Nat → Nat → Nat → Int32) × (Nat → Nat → Nat → Int64)} : e_SleepWork_bar_52 P F A J rs0 s1 = some w → k_run t lg (d + 1) 118 52 [(0, .ref (0 * 1024))] [.int s1, .ref (rs0 * 1024)] (c_h c B P F A J) (some (.int w.1), c_h c B w.2.1 w.2.2.1 w.2.2.2.1 w.2.2.2.2) := by
  intro hD
  unfold e_SleepWork_bar_52 at hD
  obtain ⟨F5, hF5, hD⟩ := Option.bind_eq_some_iff.mp hD
  refine k_cpt rs0 0 (K := 2) (key := 7) hrs0 rfl (ht 7 7) rfl rfl rfl hF5 ?_
  refine k_runB (pc' := 56) (loc' := [(0, .ref (0 * 1024))]) (st' := [.ref (0 * 1024)]) 1 rfl ?_
  refine k_gf 0 0 (K := 0) rfl rfl rfl rfl rfl ?_
  obtain ⟨⟨v6, P7, F8, A9, J10⟩, hv6, hD⟩ := Option.bind_eq_some_iff.mp hD
  dsimp only at hD
  refine k_runV rfl rfl rfl (c_get (r := 32) (o := 0) (K := 7) rfl (by decide)) rfl rfl (t_e_Evening_setStale (d := d) ht hv6) ?_
  refine k_runB (pc' := 63) (loc' := [(0, .ref (0 * 1024))]) (st' := [.int 1]) 1 rfl ?_
  cases hD
  exact k_zret rfl rfl (Or.inr rfl)
/-- SleepWork.bar(IZ)Z  -/
def e_SleepWork_bar (P : Nat → Nat → Nat) (F : Nat → Nat → Int32) (A : Nat → Nat → Nat → Int32) (J : Nat → Nat → Nat → Int64) (x1 : Int32) (x2 : Int32) : Option (Int32 × (Nat → Nat → Nat) × (Nat → Nat → Int32) × (Nat → Nat → Nat → Int32) × (Nat → Nat → Nat → Int64)) :=
  cond (g_cnd .lt x1 0)
  (some (0, P, F, A, J))
  ((c_chk 6 (P 0 8)).bind fun q2 =>
  cond (g_cnd .lt x1 (F q2 14))
  (cond (g_cnd .eq x2 0)
  (e_SleepWork_bar_52 P F A J 2 ((F 2 7) &&& (((1 : Int32) <<< (x1 &&& 31)) ^^^ ((-1)))))
  (e_SleepWork_bar_52 P F A J 2 ((F 2 7) ||| ((1 : Int32) <<< (x1 &&& 31)))))
  (some (0, P, F, A, J)))
set_option maxRecDepth 10000 in
theorem t_e_SleepWork_bar (ht : ∀ ci k, t.1 ci k = k_ty ci k) {P : Nat → Nat → Nat} {F : Nat → Nat → Int32} {A : Nat → Nat → Nat → Int32} {J : Nat → Nat → Nat → Int64} {x1 : Int32} {x2 : Int32}  {w : Int32 × (Nat → Nat → Nat) × (Nat → Nat → Int32) × (Nat → Nat → Nat → Int32) × (Nat → Nat → Nat → Int64)} : e_SleepWork_bar P F A J x1 x2 = some w → k_run t lg (d + 1) 118 0 [(0, .ref (0 * 1024)), (1, .int x1), (2, .int x2)] [] (c_h c B P F A J) (some (.int w.1), c_h c B w.2.1 w.2.2.1 w.2.2.2.1 w.2.2.2.2) := by
  intro hD
  unfold e_SleepWork_bar at hD
  refine k_runB (pc' := 1) (loc' := [(0, .ref (0 * 1024)), (1, .int x1), (2, .int x2)]) (st' := [.int x1]) 1 rfl ?_
  refine k_if rfl (fun c1_0 => ?_) (fun c1_0 => ?_)
  · rw [c1_0, cond_true] at hD
    refine k_runB (pc' := 16) (loc' := [(0, .ref (0 * 1024)), (1, .int x1), (2, .int x2)]) (st' := [.int 0]) 1 rfl ?_
    cases hD
    exact k_zret rfl rfl (Or.inl rfl)
  · rw [c1_0, cond_false] at hD
    refine k_runB (pc' := 6) (loc' := [(0, .ref (0 * 1024)), (1, .int x1), (2, .int x2)]) (st' := [.ref (0 * 1024), .int x1]) 2 rfl ?_
    obtain ⟨q2, hq2, hD⟩ := Option.bind_eq_some_iff.mp hD
    refine k_gq 0 0 (K := 0) (K2 := 6) (key := 8) rfl rfl rfl rfl rfl hq2 (fun kq2 => ?_)
    refine k_gf q2 0 (K := 6) kq2 rfl rfl rfl rfl ?_
    refine k_ic rfl (fun c12_2 => ?_) (fun c12_2 => ?_)
    · rw [c12_2, cond_true] at hD
      refine k_runB (pc' := 18) (loc' := [(0, .ref (0 * 1024)), (1, .int x1), (2, .int x2)]) (st' := [.ref (0 * 1024)]) 1 rfl ?_
      refine k_gf 0 0 (K := 0) rfl rfl rfl rfl rfl ?_
      refine k_runB (pc' := 22) (loc' := [(0, .ref (0 * 1024)), (1, .int x1), (2, .int x2)]) (st' := [.int x2, .ref (2 * 1024)]) 1 rfl ?_
      refine k_if rfl (fun c22_3 => ?_) (fun c22_3 => ?_)
      · rw [c22_3, cond_true] at hD
        refine k_runB (pc' := 40) (loc' := [(0, .ref (0 * 1024)), (1, .int x1), (2, .int x2)]) (st' := [.ref (0 * 1024), .ref (2 * 1024)]) 1 rfl ?_
        refine k_gf 0 0 (K := 0) rfl rfl rfl rfl rfl ?_
        refine k_gf 2 0 (K := 2) rfl rfl rfl rfl rfl ?_
        refine k_runB (pc' := 52) (loc' := [(0, .ref (0 * 1024)), (1, .int x1), (2, .int x2)]) (st' := [.int ((F 2 7) &&& (((1 : Int32) <<< (x1 &&& 31)) ^^^ ((-1)))), .ref (2 * 1024)]) 6 rfl ?_
        refine k_wk [0] (loc' := [(0, .ref (0 * 1024))]) rfl rfl ?_
        exact t_e_SleepWork_bar_52 ht  rfl hD
      · rw [c22_3, cond_false] at hD
        refine k_runB (pc' := 26) (loc' := [(0, .ref (0 * 1024)), (1, .int x1), (2, .int x2)]) (st' := [.ref (0 * 1024), .ref (2 * 1024)]) 1 rfl ?_
        refine k_gf 0 0 (K := 0) rfl rfl rfl rfl rfl ?_
        refine k_gf 2 0 (K := 2) rfl rfl rfl rfl rfl ?_
        refine k_runB (pc' := 52) (loc' := [(0, .ref (0 * 1024)), (1, .int x1), (2, .int x2)]) (st' := [.int ((F 2 7) ||| ((1 : Int32) <<< (x1 &&& 31))), .ref (2 * 1024)]) 5 rfl ?_
        refine k_wk [0] (loc' := [(0, .ref (0 * 1024))]) rfl rfl ?_
        exact t_e_SleepWork_bar_52 ht  rfl hD
    · rw [c12_2, cond_false] at hD
      refine k_runB (pc' := 16) (loc' := [(0, .ref (0 * 1024)), (1, .int x1), (2, .int x2)]) (st' := [.int 0]) 1 rfl ?_
      cases hD
      exact k_zret rfl rfl (Or.inl rfl)
/-- SleepWork.night()I  -/
def e_SleepWork_night (n : Nat) (P : Nat → Nat → Nat) (F : Nat → Nat → Int32) (A : Nat → Nat → Nat → Int32) (J : Nat → Nat → Nat → Int64) : Option (Int32 × (Nat → Nat → Nat) × (Nat → Nat → Int32) × (Nat → Nat → Nat → Int32) × (Nat → Nat → Nat → Int64)) :=
  (e_Past_push P F A J 2).bind fun (_, P2, F3, A4, J5) =>
  (c_chk 6 (P2 0 8)).bind fun q6 =>
  (e_House_worthOfAll n P2 F3 A4 J5 q6 2).bind fun v7 =>
  (e_Evening_goBy n P2 F3 A4 J5).bind fun (_, P9, F10, A11, J12) =>
  (c_chk 6 (P9 0 8)).bind fun q13 =>
  (e_House_worthOfAll n P9 F10 A11 J12 q13 2).bind fun v14 =>
  some (v14 - v7, P9, F10, A11, J12)
set_option maxRecDepth 10000 in
theorem t_e_SleepWork_night (ht : ∀ ci k, t.1 ci k = k_ty ci k) {n : Nat} {P : Nat → Nat → Nat} {F : Nat → Nat → Int32} {A : Nat → Nat → Nat → Int32} {J : Nat → Nat → Nat → Int64}   {w : Int32 × (Nat → Nat → Nat) × (Nat → Nat → Int32) × (Nat → Nat → Nat → Int32) × (Nat → Nat → Nat → Int64)} : e_SleepWork_night n P F A J = some w → k_run t lg (d + 6) 119 0 [(0, .ref (0 * 1024))] [] (c_h c B P F A J) (some (.int w.1), c_h c B w.2.1 w.2.2.1 w.2.2.2.1 w.2.2.2.2) := by
  intro hD
  unfold e_SleepWork_night at hD
  refine k_runB (pc' := 1) (loc' := [(0, .ref (0 * 1024))]) (st' := [.ref (0 * 1024)]) 1 rfl ?_
  refine k_gf 0 0 (K := 0) rfl rfl rfl rfl rfl ?_
  refine k_runB (pc' := 5) (loc' := [(0, .ref (0 * 1024))]) (st' := [.ref (0 * 1024), .ref (4 * 1024)]) 1 rfl ?_
  refine k_gf 0 0 (K := 0) rfl rfl rfl rfl rfl ?_
  obtain ⟨⟨v1, P2, F3, A4, J5⟩, hv1, hD⟩ := Option.bind_eq_some_iff.mp hD
  dsimp only at hD
  refine k_runV rfl rfl rfl (c_get (r := 4) (o := 0) (K := 3) rfl (by decide)) rfl rfl (t_e_Past_push (d := d + 4) ht rfl hv1) ?_
  refine k_runB (pc' := 12) (loc' := [(0, .ref (0 * 1024))]) (st' := [.ref (0 * 1024)]) 1 rfl ?_
  obtain ⟨q6, hq6, hD⟩ := Option.bind_eq_some_iff.mp hD
  refine k_gq 0 0 (K := 0) (K2 := 6) (key := 8) rfl rfl rfl rfl rfl hq6 (fun kq6 => ?_)
  refine k_runB (pc' := 16) (loc' := [(0, .ref (0 * 1024))]) (st' := [.ref (0 * 1024), .ref (q6 * 1024)]) 1 rfl ?_
  refine k_gf 0 0 (K := 0) rfl rfl rfl rfl rfl ?_
  obtain ⟨v7, hv7, hD⟩ := Option.bind_eq_some_iff.mp hD
  refine k_runV rfl rfl rfl (c_get (r := q6) (o := 0) (K := 6) kq6 (by decide)) rfl rfl (t_e_House_worthOfAll (d := d + 4) kq6 rfl hv7) ?_
  refine k_runB (pc' := 24) (loc' := [(0, .ref (0 * 1024)), (1, .int v7)]) (st' := [.ref (0 * 1024)]) 2 rfl ?_
  refine k_gf 0 0 (K := 0) rfl rfl rfl rfl rfl ?_
  obtain ⟨⟨v8, P9, F10, A11, J12⟩, hv8, hD⟩ := Option.bind_eq_some_iff.mp hD
  dsimp only at hD
  refine k_runV rfl rfl rfl (c_get (r := 32) (o := 0) (K := 7) rfl (by decide)) rfl rfl (t_e_Evening_goBy (d := d) ht hv8) ?_
  refine k_runB (pc' := 31) (loc' := [(0, .ref (0 * 1024)), (1, .int v7)]) (st' := [.ref (0 * 1024)]) 1 rfl ?_
  obtain ⟨q13, hq13, hD⟩ := Option.bind_eq_some_iff.mp hD
  refine k_gq 0 0 (K := 0) (K2 := 6) (key := 8) rfl rfl rfl rfl rfl hq13 (fun kq13 => ?_)
  refine k_runB (pc' := 35) (loc' := [(0, .ref (0 * 1024)), (1, .int v7)]) (st' := [.ref (0 * 1024), .ref (q13 * 1024)]) 1 rfl ?_
  refine k_gf 0 0 (K := 0) rfl rfl rfl rfl rfl ?_
  obtain ⟨v14, hv14, hD⟩ := Option.bind_eq_some_iff.mp hD
  refine k_runV rfl rfl rfl (c_get (r := q13) (o := 0) (K := 6) kq13 (by decide)) rfl rfl (t_e_House_worthOfAll (d := d + 4) kq13 rfl hv14) ?_
  refine k_runB (pc' := 43) (loc' := [(0, .ref (0 * 1024)), (1, .int v7)]) (st' := [.int (v14 - v7)]) 2 rfl ?_
  cases hD
  exact k_iret rfl rfl
/-- SleepWork.undo()Z  -/
def e_SleepWork_undo (P : Nat → Nat → Nat) (F : Nat → Nat → Int32) (A : Nat → Nat → Nat → Int32) (J : Nat → Nat → Nat → Int64) : Option (Int32 × (Nat → Nat → Nat) × (Nat → Nat → Int32) × (Nat → Nat → Nat → Int32) × (Nat → Nat → Nat → Int64)) :=
  (e_Past_pull P F A J 2).bind fun (v1, P2, F3, A4, J5) =>
  cond (g_cnd .ne v1 0)
  ((e_Evening_setStale P2 F3 A4 J5).bind fun (_, P8, F9, A10, J11) =>
  some (1, P8, F9, A10, J11))
  (some (0, P2, F3, A4, J5))
set_option maxRecDepth 10000 in
theorem t_e_SleepWork_undo (ht : ∀ ci k, t.1 ci k = k_ty ci k) {P : Nat → Nat → Nat} {F : Nat → Nat → Int32} {A : Nat → Nat → Nat → Int32} {J : Nat → Nat → Nat → Int64}   {w : Int32 × (Nat → Nat → Nat) × (Nat → Nat → Int32) × (Nat → Nat → Nat → Int32) × (Nat → Nat → Nat → Int64)} : e_SleepWork_undo P F A J = some w → k_run t lg (d + 2) 120 0 [(0, .ref (0 * 1024))] [] (c_h c B P F A J) (some (.int w.1), c_h c B w.2.1 w.2.2.1 w.2.2.2.1 w.2.2.2.2) := by
  intro hD
  unfold e_SleepWork_undo at hD
  refine k_runB (pc' := 1) (loc' := [(0, .ref (0 * 1024))]) (st' := [.ref (0 * 1024)]) 1 rfl ?_
  refine k_gf 0 0 (K := 0) rfl rfl rfl rfl rfl ?_
  refine k_runB (pc' := 5) (loc' := [(0, .ref (0 * 1024))]) (st' := [.ref (0 * 1024), .ref (4 * 1024)]) 1 rfl ?_
  refine k_gf 0 0 (K := 0) rfl rfl rfl rfl rfl ?_
  obtain ⟨⟨v1, P2, F3, A4, J5⟩, hv1, hD⟩ := Option.bind_eq_some_iff.mp hD
  dsimp only at hD
  refine k_runV rfl rfl rfl (c_get (r := 4) (o := 0) (K := 3) rfl (by decide)) rfl rfl (t_e_Past_pull (d := d) ht rfl hv1) ?_
  refine k_if rfl (fun c11_5 => ?_) (fun c11_5 => ?_)
  · rw [c11_5, cond_true] at hD
    refine k_runB (pc' := 17) (loc' := [(0, .ref (0 * 1024))]) (st' := [.ref (0 * 1024)]) 1 rfl ?_
    refine k_gf 0 0 (K := 0) rfl rfl rfl rfl rfl ?_
    obtain ⟨⟨v7, P8, F9, A10, J11⟩, hv7, hD⟩ := Option.bind_eq_some_iff.mp hD
    dsimp only at hD
    refine k_runV rfl rfl rfl (c_get (r := 32) (o := 0) (K := 7) rfl (by decide)) rfl rfl (t_e_Evening_setStale (d := d + 1) ht hv7) ?_
    refine k_runB (pc' := 24) (loc' := [(0, .ref (0 * 1024))]) (st' := [.int 1]) 1 rfl ?_
    cases hD
    exact k_zret rfl rfl (Or.inr rfl)
  · rw [c11_5, cond_false] at hD
    refine k_runB (pc' := 15) (loc' := [(0, .ref (0 * 1024))]) (st' := [.int 0]) 1 rfl ?_
    cases hD
    exact k_zret rfl rfl (Or.inl rfl)
/-- SleepWork.gain()I  -/
def e_SleepWork_gain (n : Nat) (P : Nat → Nat → Nat) (F : Nat → Nat → Int32) (A : Nat → Nat → Nat → Int32) (J : Nat → Nat → Nat → Int64) : Option (Int32 × (Nat → Nat → Nat) × (Nat → Nat → Int32) × (Nat → Nat → Nat → Int32) × (Nat → Nat → Nat → Int64)) :=
  (e_Evening_gainAsItIs n P F A J).bind fun (v1, P2, F3, A4, J5) =>
  some (v1, P2, F3, A4, J5)
set_option maxRecDepth 10000 in
theorem t_e_SleepWork_gain (ht : ∀ ci k, t.1 ci k = k_ty ci k) {n : Nat} {P : Nat → Nat → Nat} {F : Nat → Nat → Int32} {A : Nat → Nat → Nat → Int32} {J : Nat → Nat → Nat → Int64}   {w : Int32 × (Nat → Nat → Nat) × (Nat → Nat → Int32) × (Nat → Nat → Nat → Int32) × (Nat → Nat → Nat → Int64)} : e_SleepWork_gain n P F A J = some w → k_run t lg (d + 7) 121 0 [(0, .ref (0 * 1024))] [] (c_h c B P F A J) (some (.int w.1), c_h c B w.2.1 w.2.2.1 w.2.2.2.1 w.2.2.2.2) := by
  intro hD
  unfold e_SleepWork_gain at hD
  refine k_runB (pc' := 1) (loc' := [(0, .ref (0 * 1024))]) (st' := [.ref (0 * 1024)]) 1 rfl ?_
  refine k_gf 0 0 (K := 0) rfl rfl rfl rfl rfl ?_
  obtain ⟨⟨v1, P2, F3, A4, J5⟩, hv1, hD⟩ := Option.bind_eq_some_iff.mp hD
  dsimp only at hD
  refine k_runV rfl rfl rfl (c_get (r := 32) (o := 0) (K := 7) rfl (by decide)) rfl rfl (t_e_Evening_gainAsItIs (d := d) ht hv1) ?_
  cases hD
  exact k_iret rfl rfl
/-- SleepWork.codeOf(I)I  -/
def e_SleepWork_codeOf (P : Nat → Nat → Nat) (F : Nat → Nat → Int32) (A : Nat → Nat → Nat → Int32) (J : Nat → Nat → Nat → Int64) (x0 : Int32) : Option (Int32) :=
  cond (g_cnd .ge x0 0)
  ((m_div x0 6).bind fun v2 =>
  (m_rem x0 6).bind fun v3 =>
  some ((10 * v2) + v3))
  (some ((-2)))
set_option maxRecDepth 10000 in
theorem t_e_SleepWork_codeOf {P : Nat → Nat → Nat} {F : Nat → Nat → Int32} {A : Nat → Nat → Nat → Int32} {J : Nat → Nat → Nat → Int64} {x0 : Int32}  {w : Int32} : e_SleepWork_codeOf P F A J x0 = some w → k_run t lg (d) 124 0 [(0, .int x0)] [] (c_h c B P F A J) (some (.int w), c_h c B P F A J) := by
  intro hD
  unfold e_SleepWork_codeOf at hD
  refine k_runB (pc' := 1) (loc' := [(0, .int x0)]) (st' := [.int x0]) 1 rfl ?_
  refine k_if rfl (fun c1_0 => ?_) (fun c1_0 => ?_)
  · rw [c1_0, cond_true] at hD
    refine k_runB (pc' := 14) (loc' := [(0, .int x0)]) (st' := [.int 6, .int x0, .int 10]) 3 rfl ?_
    obtain ⟨v2, hv2, hD⟩ := Option.bind_eq_some_iff.mp hD
    refine k_dvI rfl hv2 ?_
    refine k_runB (pc' := 19) (loc' := [(0, .int x0)]) (st' := [.int 6, .int x0, .int (10 * v2)]) 3 rfl ?_
    obtain ⟨v3, hv3, hD⟩ := Option.bind_eq_some_iff.mp hD
    refine k_rmI rfl hv3 ?_
    refine k_runB (pc' := 21) (loc' := [(0, .int x0)]) (st' := [.int ((10 * v2) + v3)]) 1 rfl ?_
    cases hD
    exact k_iret rfl rfl
  · rw [c1_0, cond_false] at hD
    refine k_runB (pc' := 21) (loc' := [(0, .int x0)]) (st' := [.int ((-2))]) 2 rfl ?_
    cases hD
    exact k_iret rfl rfl
end MC
end Qz31
section Qz32
/-! the class's methods as functions (printed by wip/dec2.py) -/
section MC
variable {t : gT} {lg : Nat → Nat} {d : Nat} {c : Nat × Nat} {B : Nat → List gE}
/-- SleepWork.best(II)I  -/
def e_SleepWork_best (n : Nat) (P : Nat → Nat → Nat) (F : Nat → Nat → Int32) (A : Nat → Nat → Nat → Int32) (J : Nat → Nat → Nat → Int64) (x1 : Int32) (x2 : Int32) : Option (Int32 × (Nat → Nat → Nat) × (Nat → Nat → Int32) × (Nat → Nat → Nat → Int32) × (Nat → Nat → Nat → Int64)) :=
  (e_SleepWork_isMan P F A J x1).bind fun v1 =>
  cond (g_cnd .eq v1 0)
  (some ((-1), P, F, A, J))
  (cond (g_cnd .lt x2 0)
  (some ((-1), P, F, A, J))
  (cond (g_cnd .le x2 1)
  ((e_Evening_seekForOne n P F A J x1).bind fun (_, P6, F7, A8, J9) =>
  cond (g_cnd .ne x2 0)
  ((e_SleepWork_codeOf P6 F7 A8 J9 (F7 32 12)).bind fun v11 =>
  some (v11, P6, F7, A8, J9))
  (some (F7 32 10, P6, F7, A8, J9)))
  (some ((-1), P, F, A, J))))
set_option maxRecDepth 10000 in
theorem t_e_SleepWork_best (ht : ∀ ci k, t.1 ci k = k_ty ci k) {n : Nat} {P : Nat → Nat → Nat} {F : Nat → Nat → Int32} {A : Nat → Nat → Nat → Int32} {J : Nat → Nat → Nat → Int64} {x1 : Int32} {x2 : Int32}  {w : Int32 × (Nat → Nat → Nat) × (Nat → Nat → Int32) × (Nat → Nat → Nat → Int32) × (Nat → Nat → Nat → Int64)} : e_SleepWork_best n P F A J x1 x2 = some w → k_run t lg (d + 7) 122 0 [(0, .ref (0 * 1024)), (1, .int x1), (2, .int x2)] [] (c_h c B P F A J) (some (.int w.1), c_h c B w.2.1 w.2.2.1 w.2.2.2.1 w.2.2.2.2) := by
  intro hD
  unfold e_SleepWork_best at hD
  refine k_runB (pc' := 2) (loc' := [(0, .ref (0 * 1024)), (1, .int x1), (2, .int x2)]) (st' := [.int x1, .ref (0 * 1024)]) 2 rfl ?_
  obtain ⟨v1, hv1, hD⟩ := Option.bind_eq_some_iff.mp hD
  refine k_runV rfl rfl rfl (c_get (r := 0) (o := 0) (K := 0) rfl (by decide)) rfl rfl (t_e_SleepWork_isMan (d := d + 6) hv1) ?_
  refine k_if rfl (fun c5_1 => ?_) (fun c5_1 => ?_)
  · rw [c5_1, cond_true] at hD
    refine k_runB (pc' := 18) (loc' := [(0, .ref (0 * 1024)), (1, .int x1), (2, .int x2)]) (st' := [.int ((-1))]) 1 rfl ?_
    cases hD
    exact k_iret rfl rfl
  · rw [c5_1, cond_false] at hD
    refine k_runB (pc' := 9) (loc' := [(0, .ref (0 * 1024)), (1, .int x1), (2, .int x2)]) (st' := [.int x2]) 1 rfl ?_
    refine k_if rfl (fun c9_2 => ?_) (fun c9_2 => ?_)
    · rw [c9_2, cond_true] at hD
      refine k_runB (pc' := 18) (loc' := [(0, .ref (0 * 1024)), (1, .int x1), (2, .int x2)]) (st' := [.int ((-1))]) 1 rfl ?_
      cases hD
      exact k_iret rfl rfl
    · rw [c9_2, cond_false] at hD
      refine k_runB (pc' := 14) (loc' := [(0, .ref (0 * 1024)), (1, .int x1), (2, .int x2)]) (st' := [.int 1, .int x2]) 2 rfl ?_
      refine k_ic rfl (fun c14_3 => ?_) (fun c14_3 => ?_)
      · rw [c14_3, cond_true] at hD
        refine k_runB (pc' := 20) (loc' := [(0, .ref (0 * 1024)), (1, .int x1), (2, .int x2)]) (st' := [.ref (0 * 1024)]) 1 rfl ?_
        refine k_gf 0 0 (K := 0) rfl rfl rfl rfl rfl ?_
        refine k_runB (pc' := 24) (loc' := [(0, .ref (0 * 1024)), (1, .int x1), (2, .int x2)]) (st' := [.int x1, .ref (32 * 1024)]) 1 rfl ?_
        obtain ⟨⟨v5, P6, F7, A8, J9⟩, hv5, hD⟩ := Option.bind_eq_some_iff.mp hD
        dsimp only at hD
        refine k_runV rfl rfl rfl (c_get (r := 32) (o := 0) (K := 7) rfl (by decide)) rfl rfl (t_e_Evening_seekForOne (d := d) ht hv5) ?_
        refine k_runB (pc' := 28) (loc' := [(0, .ref (0 * 1024)), (1, .int x1), (2, .int x2)]) (st' := [.int x2]) 1 rfl ?_
        refine k_if rfl (fun c28_9 => ?_) (fun c28_9 => ?_)
        · rw [c28_9, cond_true] at hD
          refine k_runB (pc' := 42) (loc' := [(0, .ref (0 * 1024)), (1, .int x1), (2, .int x2)]) (st' := [.ref (0 * 1024)]) 1 rfl ?_
          refine k_gf 0 0 (K := 0) rfl rfl rfl rfl rfl ?_
          refine k_gf 32 0 (K := 7) rfl rfl rfl rfl rfl ?_
          obtain ⟨v11, hv11, hD⟩ := Option.bind_eq_some_iff.mp hD
          refine k_runC rfl rfl rfl rfl (t_e_SleepWork_codeOf (d := d + 6) hv11) ?_
          cases hD
          exact k_iret rfl rfl
        · rw [c28_9, cond_false] at hD
          refine k_runB (pc' := 32) (loc' := [(0, .ref (0 * 1024)), (1, .int x1), (2, .int x2)]) (st' := [.ref (0 * 1024)]) 1 rfl ?_
          refine k_gf 0 0 (K := 0) rfl rfl rfl rfl rfl ?_
          refine k_gf 32 0 (K := 7) rfl rfl rfl rfl rfl ?_
          refine k_runB (pc' := 51) (loc' := [(0, .ref (0 * 1024)), (1, .int x1), (2, .int x2)]) (st' := [.int (F7 32 10)]) 1 rfl ?_
          cases hD
          exact k_iret rfl rfl
      · rw [c14_3, cond_false] at hD
        refine k_runB (pc' := 18) (loc' := [(0, .ref (0 * 1024)), (1, .int x1), (2, .int x2)]) (st' := [.int ((-1))]) 1 rfl ?_
        cases hD
        exact k_iret rfl rfl
def e_SleepWork_bestOfTwo_63 (n : Nat) (P : Nat → Nat → Nat) (F : Nat → Nat → Int32) (A : Nat → Nat → Nat → Int32) (J : Nat → Nat → Nat → Int64) (s0 : Int32) : Option (Int32 × (Nat → Nat → Nat) × (Nat → Nat → Int32) × (Nat → Nat → Nat → Int32) × (Nat → Nat → Nat → Int64)) :=
    (e_SleepWork_codeOf P F A J s0).bind fun v13 =>
    some (v13, P, F, A, J)
set_option maxRecDepth 10000 in
theorem t_e_SleepWork_bestOfTwo_63 (ht : ∀ ci k, t.1 ci k = k_ty ci k) {n : Nat}  {P : Nat → Nat → Nat} {F : Nat → Nat → Int32} {A : Nat → Nat → Nat → Int32} {J : Nat → Nat → Nat → Int64} {s0 : Int32}  {w : Int32 × (Nat → Nat → Nat) × (Nat → Nat → Int32) × (Nat → Nat → Nat → Int32) × (Nat → Nat → Nat → Int64)} : e_SleepWork_bestOfTwo_63 n P F A J s0 = some w → k_run t lg (d + 7) 123 63 [(0, .ref (0 * 1024))] [.int s0] (c_h c B P F A J) (some (.int w.1), c_h c B w.2.1 w.2.2.1 w.2.2.2.1 w.2.2.2.2) := by
  intro hD
  unfold e_SleepWork_bestOfTwo_63 at hD
  obtain ⟨v13, hv13, hD⟩ := Option.bind_eq_some_iff.mp hD
  refine k_runC rfl rfl rfl rfl (t_e_SleepWork_codeOf (d := d + 6) hv13) ?_
  cases hD
  exact k_iret rfl rfl
/-- SleepWork.bestOfTwo(III)I  -/
def e_SleepWork_bestOfTwo (n : Nat) (P : Nat → Nat → Nat) (F : Nat → Nat → Int32) (A : Nat → Nat → Nat → Int32) (J : Nat → Nat → Nat → Int64) (x1 : Int32) (x2 : Int32) (x3 : Int32) : Option (Int32 × (Nat → Nat → Nat) × (Nat → Nat → Int32) × (Nat → Nat → Nat → Int32) × (Nat → Nat → Nat → Int64)) :=
  (e_SleepWork_areTwoMen P F A J x1 x2).bind fun v1 =>
  cond (g_cnd .eq v1 0)
  (some ((-1), P, F, A, J))
  (cond (g_cnd .lt x3 0)
  (some ((-1), P, F, A, J))
  (cond (g_cnd .le x3 2)
  ((e_Evening_seekForTwo n P F A J x1 x2).bind fun (_, P6, F7, A8, J9) =>
  cond (g_cnd .ne x3 0)
  (cond (g_cnd .ne x3 1)
  ((e_SleepWork_codeOf P6 F7 A8 J9 (F7 32 13)).bind fun v12 =>
  some (v12, P6, F7, A8, J9))
  (e_SleepWork_bestOfTwo_63 n P6 F7 A8 J9 (F7 32 12)))
  (some (F7 32 10, P6, F7, A8, J9)))
  (some ((-1), P, F, A, J))))
set_option maxRecDepth 10000 in
theorem t_e_SleepWork_bestOfTwo (ht : ∀ ci k, t.1 ci k = k_ty ci k) {n : Nat} {P : Nat → Nat → Nat} {F : Nat → Nat → Int32} {A : Nat → Nat → Nat → Int32} {J : Nat → Nat → Nat → Int64} {x1 : Int32} {x2 : Int32} {x3 : Int32}  {w : Int32 × (Nat → Nat → Nat) × (Nat → Nat → Int32) × (Nat → Nat → Nat → Int32) × (Nat → Nat → Nat → Int64)} : e_SleepWork_bestOfTwo n P F A J x1 x2 x3 = some w → k_run t lg (d + 7) 123 0 [(0, .ref (0 * 1024)), (1, .int x1), (2, .int x2), (3, .int x3)] [] (c_h c B P F A J) (some (.int w.1), c_h c B w.2.1 w.2.2.1 w.2.2.2.1 w.2.2.2.2) := by
  intro hD
  unfold e_SleepWork_bestOfTwo at hD
  refine k_runB (pc' := 3) (loc' := [(0, .ref (0 * 1024)), (1, .int x1), (2, .int x2), (3, .int x3)]) (st' := [.int x2, .int x1, .ref (0 * 1024)]) 3 rfl ?_
  obtain ⟨v1, hv1, hD⟩ := Option.bind_eq_some_iff.mp hD
  refine k_runV rfl rfl rfl (c_get (r := 0) (o := 0) (K := 0) rfl (by decide)) rfl rfl (t_e_SleepWork_areTwoMen (d := d + 5) hv1) ?_
  refine k_if rfl (fun c6_1 => ?_) (fun c6_1 => ?_)
  · rw [c6_1, cond_true] at hD
    refine k_runB (pc' := 19) (loc' := [(0, .ref (0 * 1024)), (1, .int x1), (2, .int x2), (3, .int x3)]) (st' := [.int ((-1))]) 1 rfl ?_
    cases hD
    exact k_iret rfl rfl
  · rw [c6_1, cond_false] at hD
    refine k_runB (pc' := 10) (loc' := [(0, .ref (0 * 1024)), (1, .int x1), (2, .int x2), (3, .int x3)]) (st' := [.int x3]) 1 rfl ?_
    refine k_if rfl (fun c10_2 => ?_) (fun c10_2 => ?_)
    · rw [c10_2, cond_true] at hD
      refine k_runB (pc' := 19) (loc' := [(0, .ref (0 * 1024)), (1, .int x1), (2, .int x2), (3, .int x3)]) (st' := [.int ((-1))]) 1 rfl ?_
      cases hD
      exact k_iret rfl rfl
    · rw [c10_2, cond_false] at hD
      refine k_runB (pc' := 15) (loc' := [(0, .ref (0 * 1024)), (1, .int x1), (2, .int x2), (3, .int x3)]) (st' := [.int 2, .int x3]) 2 rfl ?_
      refine k_ic rfl (fun c15_3 => ?_) (fun c15_3 => ?_)
      · rw [c15_3, cond_true] at hD
        refine k_runB (pc' := 21) (loc' := [(0, .ref (0 * 1024)), (1, .int x1), (2, .int x2), (3, .int x3)]) (st' := [.ref (0 * 1024)]) 1 rfl ?_
        refine k_gf 0 0 (K := 0) rfl rfl rfl rfl rfl ?_
        refine k_runB (pc' := 26) (loc' := [(0, .ref (0 * 1024)), (1, .int x1), (2, .int x2), (3, .int x3)]) (st' := [.int x2, .int x1, .ref (32 * 1024)]) 2 rfl ?_
        obtain ⟨⟨v5, P6, F7, A8, J9⟩, hv5, hD⟩ := Option.bind_eq_some_iff.mp hD
        dsimp only at hD
        refine k_runV rfl rfl rfl (c_get (r := 32) (o := 0) (K := 7) rfl (by decide)) rfl rfl (t_e_Evening_seekForTwo (d := d) ht hv5) ?_
        refine k_runB (pc' := 30) (loc' := [(0, .ref (0 * 1024)), (1, .int x1), (2, .int x2), (3, .int x3)]) (st' := [.int x3]) 1 rfl ?_
        refine k_if rfl (fun c30_9 => ?_) (fun c30_9 => ?_)
        · rw [c30_9, cond_true] at hD
          refine k_runB (pc' := 43) (loc' := [(0, .ref (0 * 1024)), (1, .int x1), (2, .int x2), (3, .int x3)]) (st' := [.int 1, .int x3]) 2 rfl ?_
          refine k_ic rfl (fun c43_10 => ?_) (fun c43_10 => ?_)
          · rw [c43_10, cond_true] at hD
            refine k_runB (pc' := 57) (loc' := [(0, .ref (0 * 1024)), (1, .int x1), (2, .int x2), (3, .int x3)]) (st' := [.ref (0 * 1024)]) 1 rfl ?_
            refine k_gf 0 0 (K := 0) rfl rfl rfl rfl rfl ?_
            refine k_gf 32 0 (K := 7) rfl rfl rfl rfl rfl ?_
            obtain ⟨v12, hv12, hD⟩ := Option.bind_eq_some_iff.mp hD
            refine k_runC rfl rfl rfl rfl (t_e_SleepWork_codeOf (d := d + 6) hv12) ?_
            cases hD
            exact k_iret rfl rfl
          · rw [c43_10, cond_false] at hD
            refine k_runB (pc' := 47) (loc' := [(0, .ref (0 * 1024)), (1, .int x1), (2, .int x2), (3, .int x3)]) (st' := [.ref (0 * 1024)]) 1 rfl ?_
            refine k_gf 0 0 (K := 0) rfl rfl rfl rfl rfl ?_
            refine k_gf 32 0 (K := 7) rfl rfl rfl rfl rfl ?_
            refine k_runB (pc' := 63) (loc' := [(0, .ref (0 * 1024)), (1, .int x1), (2, .int x2), (3, .int x3)]) (st' := [.int (F7 32 12)]) 1 rfl ?_
            refine k_wk [0] (loc' := [(0, .ref (0 * 1024))]) rfl rfl ?_
            exact t_e_SleepWork_bestOfTwo_63 ht   hD
        · rw [c30_9, cond_false] at hD
          refine k_runB (pc' := 34) (loc' := [(0, .ref (0 * 1024)), (1, .int x1), (2, .int x2), (3, .int x3)]) (st' := [.ref (0 * 1024)]) 1 rfl ?_
          refine k_gf 0 0 (K := 0) rfl rfl rfl rfl rfl ?_
          refine k_gf 32 0 (K := 7) rfl rfl rfl rfl rfl ?_
          cases hD
          exact k_iret rfl rfl
      · rw [c15_3, cond_false] at hD
        refine k_runB (pc' := 19) (loc' := [(0, .ref (0 * 1024)), (1, .int x1), (2, .int x2), (3, .int x3)]) (st' := [.int ((-1))]) 1 rfl ?_
        cases hD
        exact k_iret rfl rfl
/-- SleepWork.hire(I)I  -/
def e_SleepWork_hire (n : Nat) (P : Nat → Nat → Nat) (F : Nat → Nat → Int32) (A : Nat → Nat → Nat → Int32) (J : Nat → Nat → Nat → Int64) (x1 : Int32) : Option (Int32 × (Nat → Nat → Nat) × (Nat → Nat → Int32) × (Nat → Nat → Nat → Int32) × (Nat → Nat → Nat → Int64)) :=
  (e_SleepWork_isMan P F A J x1).bind fun v1 =>
  cond (g_cnd .ne v1 0)
  ((e_Evening_seekForOne n P F A J x1).bind fun (_, P4, F5, A6, J7) =>
  some ((F5 32 10) - (F5 32 11), P4, F5, A6, J7))
  (some ((-1000000), P, F, A, J))
set_option maxRecDepth 10000 in
theorem t_e_SleepWork_hire (ht : ∀ ci k, t.1 ci k = k_ty ci k) {n : Nat} {P : Nat → Nat → Nat} {F : Nat → Nat → Int32} {A : Nat → Nat → Nat → Int32} {J : Nat → Nat → Nat → Int64} {x1 : Int32}  {w : Int32 × (Nat → Nat → Nat) × (Nat → Nat → Int32) × (Nat → Nat → Nat → Int32) × (Nat → Nat → Nat → Int64)} : e_SleepWork_hire n P F A J x1 = some w → k_run t lg (d + 7) 125 0 [(0, .ref (0 * 1024)), (1, .int x1)] [] (c_h c B P F A J) (some (.int w.1), c_h c B w.2.1 w.2.2.1 w.2.2.2.1 w.2.2.2.2) := by
  intro hD
  unfold e_SleepWork_hire at hD
  refine k_runB (pc' := 2) (loc' := [(0, .ref (0 * 1024)), (1, .int x1)]) (st' := [.int x1, .ref (0 * 1024)]) 2 rfl ?_
  obtain ⟨v1, hv1, hD⟩ := Option.bind_eq_some_iff.mp hD
  refine k_runV rfl rfl rfl (c_get (r := 0) (o := 0) (K := 0) rfl (by decide)) rfl rfl (t_e_SleepWork_isMan (d := d + 6) hv1) ?_
  refine k_if rfl (fun c5_1 => ?_) (fun c5_1 => ?_)
  · rw [c5_1, cond_true] at hD
    refine k_runB (pc' := 12) (loc' := [(0, .ref (0 * 1024)), (1, .int x1)]) (st' := [.ref (0 * 1024)]) 1 rfl ?_
    refine k_gf 0 0 (K := 0) rfl rfl rfl rfl rfl ?_
    refine k_runB (pc' := 16) (loc' := [(0, .ref (0 * 1024)), (1, .int x1)]) (st' := [.int x1, .ref (32 * 1024)]) 1 rfl ?_
    obtain ⟨⟨v3, P4, F5, A6, J7⟩, hv3, hD⟩ := Option.bind_eq_some_iff.mp hD
    dsimp only at hD
    refine k_runV rfl rfl rfl (c_get (r := 32) (o := 0) (K := 7) rfl (by decide)) rfl rfl (t_e_Evening_seekForOne (d := d) ht hv3) ?_
    refine k_runB (pc' := 20) (loc' := [(0, .ref (0 * 1024)), (1, .int x1)]) (st' := [.ref (0 * 1024)]) 1 rfl ?_
    refine k_gf 0 0 (K := 0) rfl rfl rfl rfl rfl ?_
    refine k_gf 32 0 (K := 7) rfl rfl rfl rfl rfl ?_
    refine k_runB (pc' := 27) (loc' := [(0, .ref (0 * 1024)), (1, .int x1)]) (st' := [.ref (0 * 1024), .int (F5 32 10)]) 1 rfl ?_
    refine k_gf 0 0 (K := 0) rfl rfl rfl rfl rfl ?_
    refine k_gf 32 0 (K := 7) rfl rfl rfl rfl rfl ?_
    refine k_runB (pc' := 34) (loc' := [(0, .ref (0 * 1024)), (1, .int x1)]) (st' := [.int ((F5 32 10) - (F5 32 11))]) 1 rfl ?_
    cases hD
    exact k_iret rfl rfl
  · rw [c5_1, cond_false] at hD
    refine k_runB (pc' := 10) (loc' := [(0, .ref (0 * 1024)), (1, .int x1)]) (st' := [.int ((-1000000))]) 1 rfl ?_
    cases hD
    exact k_iret rfl rfl
/-- SleepWork.hide(II)I  -/
def e_SleepWork_hide (n : Nat) (P : Nat → Nat → Nat) (F : Nat → Nat → Int32) (A : Nat → Nat → Nat → Int32) (J : Nat → Nat → Nat → Int64) (x1 : Int32) (x2 : Int32) : Option (Int32 × (Nat → Nat → Nat) × (Nat → Nat → Int32) × (Nat → Nat → Nat → Int32) × (Nat → Nat → Nat → Int64)) :=
  (e_SleepWork_isTool P F A J x1).bind fun v1 =>
  cond (g_cnd .eq v1 0)
  (some ((-1), P, F, A, J))
  ((c_chk 6 (P 0 8)).bind fun q3 =>
  cond (g_cnd .eq (F q3 13) 0)
  (some ((-1), P, F, A, J))
  (cond (g_cnd .lt x2 0)
  (some ((-1), P, F, A, J))
  (cond (g_cnd .le x2 1)
  ((e_Evening_seekHidingPlace n P F A J x1).bind fun (_, P8, F9, A10, J11) =>
  cond (g_cnd .ne x2 0)
  (some (F9 32 12, P8, F9, A10, J11))
  (some (F9 32 10, P8, F9, A10, J11)))
  (some ((-1), P, F, A, J)))))
set_option maxRecDepth 10000 in
theorem t_e_SleepWork_hide (ht : ∀ ci k, t.1 ci k = k_ty ci k) {n : Nat} {P : Nat → Nat → Nat} {F : Nat → Nat → Int32} {A : Nat → Nat → Nat → Int32} {J : Nat → Nat → Nat → Int64} {x1 : Int32} {x2 : Int32}  {w : Int32 × (Nat → Nat → Nat) × (Nat → Nat → Int32) × (Nat → Nat → Nat → Int32) × (Nat → Nat → Nat → Int64)} : e_SleepWork_hide n P F A J x1 x2 = some w → k_run t lg (d + 7) 126 0 [(0, .ref (0 * 1024)), (1, .int x1), (2, .int x2)] [] (c_h c B P F A J) (some (.int w.1), c_h c B w.2.1 w.2.2.1 w.2.2.2.1 w.2.2.2.2) := by
  intro hD
  unfold e_SleepWork_hide at hD
  refine k_runB (pc' := 2) (loc' := [(0, .ref (0 * 1024)), (1, .int x1), (2, .int x2)]) (st' := [.int x1, .ref (0 * 1024)]) 2 rfl ?_
  obtain ⟨v1, hv1, hD⟩ := Option.bind_eq_some_iff.mp hD
  refine k_runV rfl rfl rfl (c_get (r := 0) (o := 0) (K := 0) rfl (by decide)) rfl rfl (t_e_SleepWork_isTool (d := d + 6) hv1) ?_
  refine k_if rfl (fun c5_1 => ?_) (fun c5_1 => ?_)
  · rw [c5_1, cond_true] at hD
    refine k_runB (pc' := 28) (loc' := [(0, .ref (0 * 1024)), (1, .int x1), (2, .int x2)]) (st' := [.int ((-1))]) 1 rfl ?_
    cases hD
    exact k_iret rfl rfl
  · rw [c5_1, cond_false] at hD
    refine k_runB (pc' := 9) (loc' := [(0, .ref (0 * 1024)), (1, .int x1), (2, .int x2)]) (st' := [.ref (0 * 1024)]) 1 rfl ?_
    obtain ⟨q3, hq3, hD⟩ := Option.bind_eq_some_iff.mp hD
    refine k_gq 0 0 (K := 0) (K2 := 6) (key := 8) rfl rfl rfl rfl rfl hq3 (fun kq3 => ?_)
    refine k_gf q3 0 (K := 6) kq3 rfl rfl rfl rfl ?_
    refine k_if rfl (fun c15_3 => ?_) (fun c15_3 => ?_)
    · rw [c15_3, cond_true] at hD
      refine k_runB (pc' := 28) (loc' := [(0, .ref (0 * 1024)), (1, .int x1), (2, .int x2)]) (st' := [.int ((-1))]) 1 rfl ?_
      cases hD
      exact k_iret rfl rfl
    · rw [c15_3, cond_false] at hD
      refine k_runB (pc' := 19) (loc' := [(0, .ref (0 * 1024)), (1, .int x1), (2, .int x2)]) (st' := [.int x2]) 1 rfl ?_
      refine k_if rfl (fun c19_4 => ?_) (fun c19_4 => ?_)
      · rw [c19_4, cond_true] at hD
        refine k_runB (pc' := 28) (loc' := [(0, .ref (0 * 1024)), (1, .int x1), (2, .int x2)]) (st' := [.int ((-1))]) 1 rfl ?_
        cases hD
        exact k_iret rfl rfl
      · rw [c19_4, cond_false] at hD
        refine k_runB (pc' := 24) (loc' := [(0, .ref (0 * 1024)), (1, .int x1), (2, .int x2)]) (st' := [.int 1, .int x2]) 2 rfl ?_
        refine k_ic rfl (fun c24_5 => ?_) (fun c24_5 => ?_)
        · rw [c24_5, cond_true] at hD
          refine k_runB (pc' := 30) (loc' := [(0, .ref (0 * 1024)), (1, .int x1), (2, .int x2)]) (st' := [.ref (0 * 1024)]) 1 rfl ?_
          refine k_gf 0 0 (K := 0) rfl rfl rfl rfl rfl ?_
          refine k_runB (pc' := 34) (loc' := [(0, .ref (0 * 1024)), (1, .int x1), (2, .int x2)]) (st' := [.int x1, .ref (32 * 1024)]) 1 rfl ?_
          obtain ⟨⟨v7, P8, F9, A10, J11⟩, hv7, hD⟩ := Option.bind_eq_some_iff.mp hD
          dsimp only at hD
          refine k_runV rfl rfl rfl (c_get (r := 32) (o := 0) (K := 7) rfl (by decide)) rfl rfl (t_e_Evening_seekHidingPlace (d := d) ht hv7) ?_
          refine k_runB (pc' := 38) (loc' := [(0, .ref (0 * 1024)), (1, .int x1), (2, .int x2)]) (st' := [.int x2]) 1 rfl ?_
          refine k_if rfl (fun c38_11 => ?_) (fun c38_11 => ?_)
          · rw [c38_11, cond_true] at hD
            refine k_runB (pc' := 52) (loc' := [(0, .ref (0 * 1024)), (1, .int x1), (2, .int x2)]) (st' := [.ref (0 * 1024)]) 1 rfl ?_
            refine k_gf 0 0 (K := 0) rfl rfl rfl rfl rfl ?_
            refine k_gf 32 0 (K := 7) rfl rfl rfl rfl rfl ?_
            cases hD
            exact k_iret rfl rfl
          · rw [c38_11, cond_false] at hD
            refine k_runB (pc' := 42) (loc' := [(0, .ref (0 * 1024)), (1, .int x1), (2, .int x2)]) (st' := [.ref (0 * 1024)]) 1 rfl ?_
            refine k_gf 0 0 (K := 0) rfl rfl rfl rfl rfl ?_
            refine k_gf 32 0 (K := 7) rfl rfl rfl rfl rfl ?_
            refine k_runB (pc' := 58) (loc' := [(0, .ref (0 * 1024)), (1, .int x1), (2, .int x2)]) (st' := [.int (F9 32 10)]) 1 rfl ?_
            cases hD
            exact k_iret rfl rfl
        · rw [c24_5, cond_false] at hD
          refine k_runB (pc' := 28) (loc' := [(0, .ref (0 * 1024)), (1, .int x1), (2, .int x2)]) (st' := [.int ((-1))]) 1 rfl ?_
          cases hD
          exact k_iret rfl rfl
/-- SleepWork.where(II)I  -/
def e_SleepWork_where (n : Nat) (P : Nat → Nat → Nat) (F : Nat → Nat → Int32) (A : Nat → Nat → Nat → Int32) (J : Nat → Nat → Nat → Int64) (x1 : Int32) (x2 : Int32) : Option (Int32 × (Nat → Nat → Nat) × (Nat → Nat → Int32) × (Nat → Nat → Nat → Int32) × (Nat → Nat → Nat → Int64)) :=
  (e_SleepWork_isMan P F A J x1).bind fun v1 =>
  cond (g_cnd .eq v1 0)
  (some ((-1), P, F, A, J))
  (cond (g_cnd .lt x2 0)
  (some ((-1), P, F, A, J))
  ((c_chk 6 (P 0 8)).bind fun q4 =>
  cond (g_cnd .le x2 (F q4 18))
  ((c_chk 6 (P 0 8)).bind fun q6 =>
  (m_ld (A q6 12) 6 x1).bind fun v7 =>
  (m_ld (A 2 3) 6 x1).bind fun v8 =>
  cond (g_cnd .ge v8 0)
  ((c_chk 6 (P 0 8)).bind fun q10 =>
  (m_div v8 6).bind fun v11 =>
  (m_ld (A q10 4) 6 v11).bind fun v12 =>
  (e_Evening_minutesBetween n P F A J v7 v12).bind fun (v13, P14, F15, A16, J17) =>
  cond (g_cnd .gt v13 x2)
  (some (v7, P14, F15, A16, J17))
  (some (v12, P14, F15, A16, J17)))
  (some (v7, P, F, A, J)))
  (some ((-1), P, F, A, J))))
set_option maxRecDepth 10000 in
theorem t_e_SleepWork_where (ht : ∀ ci k, t.1 ci k = k_ty ci k) {n : Nat} {P : Nat → Nat → Nat} {F : Nat → Nat → Int32} {A : Nat → Nat → Nat → Int32} {J : Nat → Nat → Nat → Int64} {x1 : Int32} {x2 : Int32}  {w : Int32 × (Nat → Nat → Nat) × (Nat → Nat → Int32) × (Nat → Nat → Nat → Int32) × (Nat → Nat → Nat → Int64)} : e_SleepWork_where n P F A J x1 x2 = some w → k_run t lg (d + 4) 128 0 [(0, .ref (0 * 1024)), (1, .int x1), (2, .int x2)] [] (c_h c B P F A J) (some (.int w.1), c_h c B w.2.1 w.2.2.1 w.2.2.2.1 w.2.2.2.2) := by
  intro hD
  unfold e_SleepWork_where at hD
  refine k_runB (pc' := 2) (loc' := [(0, .ref (0 * 1024)), (1, .int x1), (2, .int x2)]) (st' := [.int x1, .ref (0 * 1024)]) 2 rfl ?_
  obtain ⟨v1, hv1, hD⟩ := Option.bind_eq_some_iff.mp hD
  refine k_runV rfl rfl rfl (c_get (r := 0) (o := 0) (K := 0) rfl (by decide)) rfl rfl (t_e_SleepWork_isMan (d := d + 3) hv1) ?_
  refine k_if rfl (fun c5_1 => ?_) (fun c5_1 => ?_)
  · rw [c5_1, cond_true] at hD
    refine k_runB (pc' := 24) (loc' := [(0, .ref (0 * 1024)), (1, .int x1), (2, .int x2)]) (st' := [.int ((-1))]) 1 rfl ?_
    cases hD
    exact k_iret rfl rfl
  · rw [c5_1, cond_false] at hD
    refine k_runB (pc' := 9) (loc' := [(0, .ref (0 * 1024)), (1, .int x1), (2, .int x2)]) (st' := [.int x2]) 1 rfl ?_
    refine k_if rfl (fun c9_2 => ?_) (fun c9_2 => ?_)
    · rw [c9_2, cond_true] at hD
      refine k_runB (pc' := 24) (loc' := [(0, .ref (0 * 1024)), (1, .int x1), (2, .int x2)]) (st' := [.int ((-1))]) 1 rfl ?_
      cases hD
      exact k_iret rfl rfl
    · rw [c9_2, cond_false] at hD
      refine k_runB (pc' := 14) (loc' := [(0, .ref (0 * 1024)), (1, .int x1), (2, .int x2)]) (st' := [.ref (0 * 1024), .int x2]) 2 rfl ?_
      obtain ⟨q4, hq4, hD⟩ := Option.bind_eq_some_iff.mp hD
      refine k_gq 0 0 (K := 0) (K2 := 6) (key := 8) rfl rfl rfl rfl rfl hq4 (fun kq4 => ?_)
      refine k_gf q4 0 (K := 6) kq4 rfl rfl rfl rfl ?_
      refine k_ic rfl (fun c20_4 => ?_) (fun c20_4 => ?_)
      · rw [c20_4, cond_true] at hD
        refine k_runB (pc' := 26) (loc' := [(0, .ref (0 * 1024)), (1, .int x1), (2, .int x2)]) (st' := [.ref (0 * 1024)]) 1 rfl ?_
        obtain ⟨q6, hq6, hD⟩ := Option.bind_eq_some_iff.mp hD
        refine k_gq 0 0 (K := 0) (K2 := 6) (key := 8) rfl rfl rfl rfl rfl hq6 (fun kq6 => ?_)
        refine k_gf q6 0 (K := 6) kq6 rfl rfl rfl rfl ?_
        refine k_runB (pc' := 33) (loc' := [(0, .ref (0 * 1024)), (1, .int x1), (2, .int x2)]) (st' := [.int x1, .ref (q6 * 1024 + 12)]) 1 rfl ?_
        obtain ⟨v7, hv7, hD⟩ := Option.bind_eq_some_iff.mp hD
        refine k_ldI rfl (c_get (r := q6) (o := 12) (K := 6) kq6 (by decide)) hv7 ?_
        refine k_runB (pc' := 36) (loc' := [(0, .ref (0 * 1024)), (1, .int x1), (2, .int x2), (3, .int v7)]) (st' := [.ref (0 * 1024)]) 2 rfl ?_
        refine k_gf 0 0 (K := 0) rfl rfl rfl rfl rfl ?_
        refine k_gf 2 0 (K := 2) rfl rfl rfl rfl rfl ?_
        refine k_runB (pc' := 43) (loc' := [(0, .ref (0 * 1024)), (1, .int x1), (2, .int x2), (3, .int v7)]) (st' := [.int x1, .ref (2 * 1024 + 3)]) 1 rfl ?_
        obtain ⟨v8, hv8, hD⟩ := Option.bind_eq_some_iff.mp hD
        refine k_ldI rfl (c_get (r := 2) (o := 3) (K := 2) rfl (by decide)) hv8 ?_
        refine k_runB (pc' := 48) (loc' := [(0, .ref (0 * 1024)), (1, .int x1), (2, .int x2), (3, .int v7), (4, .int v8)]) (st' := [.int v8]) 2 rfl ?_
        refine k_if rfl (fun c48_8 => ?_) (fun c48_8 => ?_)
        · rw [c48_8, cond_true] at hD
          refine k_runB (pc' := 54) (loc' := [(0, .ref (0 * 1024)), (1, .int x1), (2, .int x2), (3, .int v7), (4, .int v8)]) (st' := [.ref (0 * 1024)]) 1 rfl ?_
          obtain ⟨q10, hq10, hD⟩ := Option.bind_eq_some_iff.mp hD
          refine k_gq 0 0 (K := 0) (K2 := 6) (key := 8) rfl rfl rfl rfl rfl hq10 (fun kq10 => ?_)
          refine k_gf q10 0 (K := 6) kq10 rfl rfl rfl rfl ?_
          refine k_runB (pc' := 64) (loc' := [(0, .ref (0 * 1024)), (1, .int x1), (2, .int x2), (3, .int v7), (4, .int v8)]) (st' := [.int 6, .int v8, .ref (q10 * 1024 + 4)]) 2 rfl ?_
          obtain ⟨v11, hv11, hD⟩ := Option.bind_eq_some_iff.mp hD
          refine k_dvI rfl hv11 ?_
          obtain ⟨v12, hv12, hD⟩ := Option.bind_eq_some_iff.mp hD
          refine k_ldI rfl (c_get (r := q10) (o := 4) (K := 6) kq10 (by decide)) hv12 ?_
          refine k_runB (pc' := 69) (loc' := [(0, .ref (0 * 1024)), (1, .int x1), (2, .int x2), (3, .int v7), (4, .int v8), (5, .int v12)]) (st' := [.ref (0 * 1024)]) 2 rfl ?_
          refine k_gf 0 0 (K := 0) rfl rfl rfl rfl rfl ?_
          refine k_runB (pc' := 75) (loc' := [(0, .ref (0 * 1024)), (1, .int x1), (2, .int x2), (3, .int v7), (4, .int v8), (5, .int v12)]) (st' := [.int v12, .int v7, .ref (32 * 1024)]) 2 rfl ?_
          obtain ⟨⟨v13, P14, F15, A16, J17⟩, hv13, hD⟩ := Option.bind_eq_some_iff.mp hD
          dsimp only at hD
          refine k_runV rfl rfl rfl (c_get (r := 32) (o := 0) (K := 7) rfl (by decide)) rfl rfl (t_e_Evening_minutesBetween (d := d) ht hv13) ?_
          refine k_runB (pc' := 79) (loc' := [(0, .ref (0 * 1024)), (1, .int x1), (2, .int x2), (3, .int v7), (4, .int v8), (5, .int v12)]) (st' := [.int x2, .int v13]) 1 rfl ?_
          refine k_ic rfl (fun c79_17 => ?_) (fun c79_17 => ?_)
          · rw [c79_17, cond_true] at hD
            refine k_runB (pc' := 88) (loc' := [(0, .ref (0 * 1024)), (1, .int x1), (2, .int x2), (3, .int v7), (4, .int v8), (5, .int v12)]) (st' := [.int v7]) 1 rfl ?_
            cases hD
            exact k_iret rfl rfl
          · rw [c79_17, cond_false] at hD
            refine k_runB (pc' := 88) (loc' := [(0, .ref (0 * 1024)), (1, .int x1), (2, .int x2), (3, .int v7), (4, .int v8), (5, .int v12)]) (st' := [.int v12]) 2 rfl ?_
            cases hD
            exact k_iret rfl rfl
        · rw [c48_8, cond_false] at hD
          refine k_runB (pc' := 52) (loc' := [(0, .ref (0 * 1024)), (1, .int x1), (2, .int x2), (3, .int v7), (4, .int v8)]) (st' := [.int v7]) 1 rfl ?_
          cases hD
          exact k_iret rfl rfl
      · rw [c20_4, cond_false] at hD
        refine k_runB (pc' := 24) (loc' := [(0, .ref (0 * 1024)), (1, .int x1), (2, .int x2)]) (st' := [.int ((-1))]) 1 rfl ?_
        cases hD
        exact k_iret rfl rfl
/-- SleepWork.strokes(II)I  -/
def e_SleepWork_strokes (n : Nat) (P : Nat → Nat → Nat) (F : Nat → Nat → Int32) (A : Nat → Nat → Nat → Int32) (J : Nat → Nat → Nat → Int64) (x1 : Int32) (x2 : Int32) : Option (Int32 × (Nat → Nat → Nat) × (Nat → Nat → Int32) × (Nat → Nat → Nat → Int32) × (Nat → Nat → Nat → Int64)) :=
  (e_SleepWork_isMan P F A J x1).bind fun v1 =>
  cond (g_cnd .eq v1 0)
  (some ((-1), P, F, A, J))
  (cond (g_cnd .lt x2 0)
  (some ((-1), P, F, A, J))
  ((c_chk 6 (P 0 8)).bind fun q4 =>
  cond (g_cnd .le x2 (F q4 18))
  ((e_Evening_strokesTill n P F A J x1 x2).bind fun (v6, P7, F8, A9, J10) =>
  some (v6, P7, F8, A9, J10))
  (some ((-1), P, F, A, J))))
set_option maxRecDepth 10000 in
theorem t_e_SleepWork_strokes (ht : ∀ ci k, t.1 ci k = k_ty ci k) {n : Nat} {P : Nat → Nat → Nat} {F : Nat → Nat → Int32} {A : Nat → Nat → Nat → Int32} {J : Nat → Nat → Nat → Int64} {x1 : Int32} {x2 : Int32}  {w : Int32 × (Nat → Nat → Nat) × (Nat → Nat → Int32) × (Nat → Nat → Nat → Int32) × (Nat → Nat → Nat → Int64)} : e_SleepWork_strokes n P F A J x1 x2 = some w → k_run t lg (d + 6) 129 0 [(0, .ref (0 * 1024)), (1, .int x1), (2, .int x2)] [] (c_h c B P F A J) (some (.int w.1), c_h c B w.2.1 w.2.2.1 w.2.2.2.1 w.2.2.2.2) := by
  intro hD
  unfold e_SleepWork_strokes at hD
  refine k_runB (pc' := 2) (loc' := [(0, .ref (0 * 1024)), (1, .int x1), (2, .int x2)]) (st' := [.int x1, .ref (0 * 1024)]) 2 rfl ?_
  obtain ⟨v1, hv1, hD⟩ := Option.bind_eq_some_iff.mp hD
  refine k_runV rfl rfl rfl (c_get (r := 0) (o := 0) (K := 0) rfl (by decide)) rfl rfl (t_e_SleepWork_isMan (d := d + 5) hv1) ?_
  refine k_if rfl (fun c5_1 => ?_) (fun c5_1 => ?_)
  · rw [c5_1, cond_true] at hD
    refine k_runB (pc' := 24) (loc' := [(0, .ref (0 * 1024)), (1, .int x1), (2, .int x2)]) (st' := [.int ((-1))]) 1 rfl ?_
    cases hD
    exact k_iret rfl rfl
  · rw [c5_1, cond_false] at hD
    refine k_runB (pc' := 9) (loc' := [(0, .ref (0 * 1024)), (1, .int x1), (2, .int x2)]) (st' := [.int x2]) 1 rfl ?_
    refine k_if rfl (fun c9_2 => ?_) (fun c9_2 => ?_)
    · rw [c9_2, cond_true] at hD
      refine k_runB (pc' := 24) (loc' := [(0, .ref (0 * 1024)), (1, .int x1), (2, .int x2)]) (st' := [.int ((-1))]) 1 rfl ?_
      cases hD
      exact k_iret rfl rfl
    · rw [c9_2, cond_false] at hD
      refine k_runB (pc' := 14) (loc' := [(0, .ref (0 * 1024)), (1, .int x1), (2, .int x2)]) (st' := [.ref (0 * 1024), .int x2]) 2 rfl ?_
      obtain ⟨q4, hq4, hD⟩ := Option.bind_eq_some_iff.mp hD
      refine k_gq 0 0 (K := 0) (K2 := 6) (key := 8) rfl rfl rfl rfl rfl hq4 (fun kq4 => ?_)
      refine k_gf q4 0 (K := 6) kq4 rfl rfl rfl rfl ?_
      refine k_ic rfl (fun c20_4 => ?_) (fun c20_4 => ?_)
      · rw [c20_4, cond_true] at hD
        refine k_runB (pc' := 26) (loc' := [(0, .ref (0 * 1024)), (1, .int x1), (2, .int x2)]) (st' := [.ref (0 * 1024)]) 1 rfl ?_
        refine k_gf 0 0 (K := 0) rfl rfl rfl rfl rfl ?_
        refine k_runB (pc' := 31) (loc' := [(0, .ref (0 * 1024)), (1, .int x1), (2, .int x2)]) (st' := [.int x2, .int x1, .ref (32 * 1024)]) 2 rfl ?_
        obtain ⟨⟨v6, P7, F8, A9, J10⟩, hv6, hD⟩ := Option.bind_eq_some_iff.mp hD
        dsimp only at hD
        refine k_runV rfl rfl rfl (c_get (r := 32) (o := 0) (K := 7) rfl (by decide)) rfl rfl (t_e_Evening_strokesTill (d := d) ht hv6) ?_
        cases hD
        exact k_iret rfl rfl
      · rw [c20_4, cond_false] at hD
        refine k_runB (pc' := 24) (loc' := [(0, .ref (0 * 1024)), (1, .int x1), (2, .int x2)]) (st' := [.int ((-1))]) 1 rfl ?_
        cases hD
        exact k_iret rfl rfl
/-- SleepWork.tell(III)I  -/
def e_SleepWork_tell (P : Nat → Nat → Nat) (F : Nat → Nat → Int32) (A : Nat → Nat → Nat → Int32) (J : Nat → Nat → Nat → Int64) (x1 : Int32) (x2 : Int32) (x3 : Int32) : Option (Int32 × (Nat → Nat → Nat) × (Nat → Nat → Int32) × (Nat → Nat → Nat → Int32) × (Nat → Nat → Nat → Int64)) :=
  (c_chk 6 (P 0 8)).bind fun q1 =>
  (e_House_hasStep P F A J q1 x1 x2).bind fun v2 =>
  cond (g_cnd .eq v2 0)
  (some ((-1), P, F, A, J))
  (cond (g_cnd .lt x3 0)
  (some ((-1), P, F, A, J))
  (cond (g_cnd .gt x3 999)
  (some ((-1), P, F, A, J))
  ((e_Told_isFull P F A J).bind fun v6 =>
  cond (g_cnd .eq v6 0)
  ((e_Told_add P F A J ((x1 * 6) + x2) x3).bind fun (v8, P9, F10, A11, J12) =>
  some (v8, P9, F10, A11, J12))
  (some ((-1), P, F, A, J)))))
set_option maxRecDepth 10000 in
theorem t_e_SleepWork_tell (ht : ∀ ci k, t.1 ci k = k_ty ci k) {P : Nat → Nat → Nat} {F : Nat → Nat → Int32} {A : Nat → Nat → Nat → Int32} {J : Nat → Nat → Nat → Int64} {x1 : Int32} {x2 : Int32} {x3 : Int32}  {w : Int32 × (Nat → Nat → Nat) × (Nat → Nat → Int32) × (Nat → Nat → Nat → Int32) × (Nat → Nat → Nat → Int64)} : e_SleepWork_tell P F A J x1 x2 x3 = some w → k_run t lg (d + 1) 130 0 [(0, .ref (0 * 1024)), (1, .int x1), (2, .int x2), (3, .int x3)] [] (c_h c B P F A J) (some (.int w.1), c_h c B w.2.1 w.2.2.1 w.2.2.2.1 w.2.2.2.2) := by
  intro hD
  unfold e_SleepWork_tell at hD
  refine k_runB (pc' := 1) (loc' := [(0, .ref (0 * 1024)), (1, .int x1), (2, .int x2), (3, .int x3)]) (st' := [.ref (0 * 1024)]) 1 rfl ?_
  obtain ⟨q1, hq1, hD⟩ := Option.bind_eq_some_iff.mp hD
  refine k_gq 0 0 (K := 0) (K2 := 6) (key := 8) rfl rfl rfl rfl rfl hq1 (fun kq1 => ?_)
  refine k_runB (pc' := 6) (loc' := [(0, .ref (0 * 1024)), (1, .int x1), (2, .int x2), (3, .int x3)]) (st' := [.int x2, .int x1, .ref (q1 * 1024)]) 2 rfl ?_
  obtain ⟨v2, hv2, hD⟩ := Option.bind_eq_some_iff.mp hD
  refine k_runV rfl rfl rfl (c_get (r := q1) (o := 0) (K := 6) kq1 (by decide)) rfl rfl (t_e_House_hasStep (d := d) kq1 hv2) ?_
  refine k_if rfl (fun c9_2 => ?_) (fun c9_2 => ?_)
  · rw [c9_2, cond_true] at hD
    refine k_runB (pc' := 34) (loc' := [(0, .ref (0 * 1024)), (1, .int x1), (2, .int x2), (3, .int x3)]) (st' := [.int ((-1))]) 1 rfl ?_
    cases hD
    exact k_iret rfl rfl
  · rw [c9_2, cond_false] at hD
    refine k_runB (pc' := 13) (loc' := [(0, .ref (0 * 1024)), (1, .int x1), (2, .int x2), (3, .int x3)]) (st' := [.int x3]) 1 rfl ?_
    refine k_if rfl (fun c13_3 => ?_) (fun c13_3 => ?_)
    · rw [c13_3, cond_true] at hD
      refine k_runB (pc' := 34) (loc' := [(0, .ref (0 * 1024)), (1, .int x1), (2, .int x2), (3, .int x3)]) (st' := [.int ((-1))]) 1 rfl ?_
      cases hD
      exact k_iret rfl rfl
    · rw [c13_3, cond_false] at hD
      refine k_runB (pc' := 20) (loc' := [(0, .ref (0 * 1024)), (1, .int x1), (2, .int x2), (3, .int x3)]) (st' := [.int 999, .int x3]) 2 rfl ?_
      refine k_ic rfl (fun c20_4 => ?_) (fun c20_4 => ?_)
      · rw [c20_4, cond_true] at hD
        refine k_runB (pc' := 34) (loc' := [(0, .ref (0 * 1024)), (1, .int x1), (2, .int x2), (3, .int x3)]) (st' := [.int ((-1))]) 1 rfl ?_
        cases hD
        exact k_iret rfl rfl
      · rw [c20_4, cond_false] at hD
        refine k_runB (pc' := 24) (loc' := [(0, .ref (0 * 1024)), (1, .int x1), (2, .int x2), (3, .int x3)]) (st' := [.ref (0 * 1024)]) 1 rfl ?_
        refine k_gf 0 0 (K := 0) rfl rfl rfl rfl rfl ?_
        obtain ⟨v6, hv6, hD⟩ := Option.bind_eq_some_iff.mp hD
        refine k_runV rfl rfl rfl (c_get (r := 25) (o := 0) (K := 4) rfl (by decide)) rfl rfl (t_e_Told_isFull (d := d) hv6) ?_
        refine k_if rfl (fun c30_6 => ?_) (fun c30_6 => ?_)
        · rw [c30_6, cond_true] at hD
          refine k_runB (pc' := 36) (loc' := [(0, .ref (0 * 1024)), (1, .int x1), (2, .int x2), (3, .int x3)]) (st' := [.ref (0 * 1024)]) 1 rfl ?_
          refine k_gf 0 0 (K := 0) rfl rfl rfl rfl rfl ?_
          refine k_runB (pc' := 46) (loc' := [(0, .ref (0 * 1024)), (1, .int x1), (2, .int x2), (3, .int x3)]) (st' := [.int x3, .int ((x1 * 6) + x2), .ref (25 * 1024)]) 6 rfl ?_
          obtain ⟨⟨v8, P9, F10, A11, J12⟩, hv8, hD⟩ := Option.bind_eq_some_iff.mp hD
          dsimp only at hD
          refine k_runV rfl rfl rfl (c_get (r := 25) (o := 0) (K := 4) rfl (by decide)) rfl rfl (t_e_Told_add (d := d) ht hv8) ?_
          cases hD
          exact k_iret rfl rfl
        · rw [c30_6, cond_false] at hD
          refine k_runB (pc' := 34) (loc' := [(0, .ref (0 * 1024)), (1, .int x1), (2, .int x2), (3, .int x3)]) (st' := [.int ((-1))]) 1 rfl ?_
          cases hD
          exact k_iret rfl rfl
/-- SleepWork.forget()I  -/
def e_SleepWork_forget (P : Nat → Nat → Nat) (F : Nat → Nat → Int32) (A : Nat → Nat → Nat → Int32) (J : Nat → Nat → Nat → Int64) : Option (Int32 × (Nat → Nat → Nat) × (Nat → Nat → Int32) × (Nat → Nat → Nat → Int32) × (Nat → Nat → Nat → Int64)) :=
  (c_pf F 25 2 0).bind fun F1 =>
  (e_Evening_setStale P F1 A J).bind fun (_, P3, F4, A5, J6) =>
  some (F 25 2, P3, F4, A5, J6)
set_option maxRecDepth 10000 in
theorem t_e_SleepWork_forget (ht : ∀ ci k, t.1 ci k = k_ty ci k) {P : Nat → Nat → Nat} {F : Nat → Nat → Int32} {A : Nat → Nat → Nat → Int32} {J : Nat → Nat → Nat → Int64}   {w : Int32 × (Nat → Nat → Nat) × (Nat → Nat → Int32) × (Nat → Nat → Nat → Int32) × (Nat → Nat → Nat → Int64)} : e_SleepWork_forget P F A J = some w → k_run t lg (d + 1) 131 0 [(0, .ref (0 * 1024))] [] (c_h c B P F A J) (some (.int w.1), c_h c B w.2.1 w.2.2.1 w.2.2.2.1 w.2.2.2.2) := by
  intro hD
  unfold e_SleepWork_forget at hD
  refine k_runB (pc' := 1) (loc' := [(0, .ref (0 * 1024))]) (st' := [.ref (0 * 1024)]) 1 rfl ?_
  refine k_gf 0 0 (K := 0) rfl rfl rfl rfl rfl ?_
  refine k_gf 25 0 (K := 4) rfl rfl rfl rfl rfl ?_
  refine k_runB (pc' := 9) (loc' := [(0, .ref (0 * 1024)), (1, .int (F 25 2))]) (st' := [.ref (0 * 1024)]) 2 rfl ?_
  refine k_gf 0 0 (K := 0) rfl rfl rfl rfl rfl ?_
  refine k_runB (pc' := 13) (loc' := [(0, .ref (0 * 1024)), (1, .int (F 25 2))]) (st' := [.int 0, .ref (25 * 1024)]) 1 rfl ?_
  obtain ⟨F1, hF1, hD⟩ := Option.bind_eq_some_iff.mp hD
  refine k_cpt 25 0 (K := 4) (key := 2) rfl rfl (ht 9 2) rfl rfl rfl hF1 ?_
  refine k_runB (pc' := 17) (loc' := [(0, .ref (0 * 1024)), (1, .int (F 25 2))]) (st' := [.ref (0 * 1024)]) 1 rfl ?_
  refine k_gf 0 0 (K := 0) rfl rfl rfl rfl rfl ?_
  obtain ⟨⟨v2, P3, F4, A5, J6⟩, hv2, hD⟩ := Option.bind_eq_some_iff.mp hD
  dsimp only at hD
  refine k_runV rfl rfl rfl (c_get (r := 32) (o := 0) (K := 7) rfl (by decide)) rfl rfl (t_e_Evening_setStale (d := d) ht hv2) ?_
  refine k_runB (pc' := 24) (loc' := [(0, .ref (0 * 1024)), (1, .int (F 25 2))]) (st' := [.int (F 25 2)]) 1 rfl ?_
  cases hD
  exact k_iret rfl rfl
/-- SleepWork.fits(III)I  -/
def e_SleepWork_fits (n : Nat) (P : Nat → Nat → Nat) (F : Nat → Nat → Int32) (A : Nat → Nat → Nat → Int32) (J : Nat → Nat → Nat → Int64) (x1 : Int32) (x2 : Int32) (x3 : Int32) : Option (Int32 × (Nat → Nat → Nat) × (Nat → Nat → Int32) × (Nat → Nat → Nat → Int32) × (Nat → Nat → Nat → Int64)) :=
  (e_SleepWork_isMan P F A J x1).bind fun v1 =>
  cond (g_cnd .eq v1 0)
  (some ((-1), P, F, A, J))
  ((e_SleepWork_isKnownBy P F A J x2).bind fun v3 =>
  cond (g_cnd .eq v3 0)
  (some ((-1), P, F, A, J))
  (cond (g_cnd .ge x3 ((-1)))
  ((e_Evening_seekFits n P F A J x1 x2).bind fun (_, P7, F8, A9, J10) =>
  cond (g_cnd .ne x3 ((-1)))
  (cond (g_cnd .ge x3 (F8 32 15))
  (some ((-1), P7, F8, A9, J10))
  ((m_ld (A9 35 0) 37 x3).bind fun v13 =>
  (e_SleepWork_codeOf P7 F8 A9 J10 v13).bind fun v14 =>
  some (v14, P7, F8, A9, J10)))
  (some (F8 32 15, P7, F8, A9, J10)))
  (some ((-1), P, F, A, J))))
set_option maxRecDepth 10000 in
theorem t_e_SleepWork_fits (ht : ∀ ci k, t.1 ci k = k_ty ci k) {n : Nat} {P : Nat → Nat → Nat} {F : Nat → Nat → Int32} {A : Nat → Nat → Nat → Int32} {J : Nat → Nat → Nat → Int64} {x1 : Int32} {x2 : Int32} {x3 : Int32}  {w : Int32 × (Nat → Nat → Nat) × (Nat → Nat → Int32) × (Nat → Nat → Nat → Int32) × (Nat → Nat → Nat → Int64)} : e_SleepWork_fits n P F A J x1 x2 x3 = some w → k_run t lg (d + 6) 132 0 [(0, .ref (0 * 1024)), (1, .int x1), (2, .int x2), (3, .int x3)] [] (c_h c B P F A J) (some (.int w.1), c_h c B w.2.1 w.2.2.1 w.2.2.2.1 w.2.2.2.2) := by
  intro hD
  unfold e_SleepWork_fits at hD
  refine k_runB (pc' := 2) (loc' := [(0, .ref (0 * 1024)), (1, .int x1), (2, .int x2), (3, .int x3)]) (st' := [.int x1, .ref (0 * 1024)]) 2 rfl ?_
  obtain ⟨v1, hv1, hD⟩ := Option.bind_eq_some_iff.mp hD
  refine k_runV rfl rfl rfl (c_get (r := 0) (o := 0) (K := 0) rfl (by decide)) rfl rfl (t_e_SleepWork_isMan (d := d + 5) hv1) ?_
  refine k_if rfl (fun c5_1 => ?_) (fun c5_1 => ?_)
  · rw [c5_1, cond_true] at hD
    refine k_runB (pc' := 22) (loc' := [(0, .ref (0 * 1024)), (1, .int x1), (2, .int x2), (3, .int x3)]) (st' := [.int ((-1))]) 1 rfl ?_
    cases hD
    exact k_iret rfl rfl
  · rw [c5_1, cond_false] at hD
    refine k_runB (pc' := 10) (loc' := [(0, .ref (0 * 1024)), (1, .int x1), (2, .int x2), (3, .int x3)]) (st' := [.int x2, .ref (0 * 1024)]) 2 rfl ?_
    obtain ⟨v3, hv3, hD⟩ := Option.bind_eq_some_iff.mp hD
    refine k_runV rfl rfl rfl (c_get (r := 0) (o := 0) (K := 0) rfl (by decide)) rfl rfl (t_e_SleepWork_isKnownBy (d := d + 5) hv3) ?_
    refine k_if rfl (fun c13_3 => ?_) (fun c13_3 => ?_)
    · rw [c13_3, cond_true] at hD
      refine k_runB (pc' := 22) (loc' := [(0, .ref (0 * 1024)), (1, .int x1), (2, .int x2), (3, .int x3)]) (st' := [.int ((-1))]) 1 rfl ?_
      cases hD
      exact k_iret rfl rfl
    · rw [c13_3, cond_false] at hD
      refine k_runB (pc' := 18) (loc' := [(0, .ref (0 * 1024)), (1, .int x1), (2, .int x2), (3, .int x3)]) (st' := [.int ((-1)), .int x3]) 2 rfl ?_
      refine k_ic rfl (fun c18_4 => ?_) (fun c18_4 => ?_)
      · rw [c18_4, cond_true] at hD
        refine k_runB (pc' := 24) (loc' := [(0, .ref (0 * 1024)), (1, .int x1), (2, .int x2), (3, .int x3)]) (st' := [.ref (0 * 1024)]) 1 rfl ?_
        refine k_gf 0 0 (K := 0) rfl rfl rfl rfl rfl ?_
        refine k_runB (pc' := 29) (loc' := [(0, .ref (0 * 1024)), (1, .int x1), (2, .int x2), (3, .int x3)]) (st' := [.int x2, .int x1, .ref (32 * 1024)]) 2 rfl ?_
        obtain ⟨⟨v6, P7, F8, A9, J10⟩, hv6, hD⟩ := Option.bind_eq_some_iff.mp hD
        dsimp only at hD
        refine k_runV rfl rfl rfl (c_get (r := 32) (o := 0) (K := 7) rfl (by decide)) rfl rfl (t_e_Evening_seekFits (d := d) ht hv6) ?_
        refine k_runB (pc' := 34) (loc' := [(0, .ref (0 * 1024)), (1, .int x1), (2, .int x2), (3, .int x3)]) (st' := [.int ((-1)), .int x3]) 2 rfl ?_
        refine k_ic rfl (fun c34_10 => ?_) (fun c34_10 => ?_)
        · rw [c34_10, cond_true] at hD
          refine k_runB (pc' := 47) (loc' := [(0, .ref (0 * 1024)), (1, .int x1), (2, .int x2), (3, .int x3)]) (st' := [.ref (0 * 1024), .int x3]) 2 rfl ?_
          refine k_gf 0 0 (K := 0) rfl rfl rfl rfl rfl ?_
          refine k_gf 32 0 (K := 7) rfl rfl rfl rfl rfl ?_
          refine k_ic rfl (fun c53_11 => ?_) (fun c53_11 => ?_)
          · rw [c53_11, cond_true] at hD
            refine k_runB (pc' := 72) (loc' := [(0, .ref (0 * 1024)), (1, .int x1), (2, .int x2), (3, .int x3)]) (st' := [.int ((-1))]) 1 rfl ?_
            cases hD
            exact k_iret rfl rfl
          · rw [c53_11, cond_false] at hD
            refine k_runB (pc' := 57) (loc' := [(0, .ref (0 * 1024)), (1, .int x1), (2, .int x2), (3, .int x3)]) (st' := [.ref (0 * 1024)]) 1 rfl ?_
            refine k_gf 0 0 (K := 0) rfl rfl rfl rfl rfl ?_
            refine k_gf 32 0 (K := 7) rfl rfl rfl rfl rfl ?_
            refine k_runB (pc' := 64) (loc' := [(0, .ref (0 * 1024)), (1, .int x1), (2, .int x2), (3, .int x3)]) (st' := [.int x3, .ref (35 * 1024 + 0)]) 1 rfl ?_
            obtain ⟨v13, hv13, hD⟩ := Option.bind_eq_some_iff.mp hD
            refine k_ldI rfl (c_get (r := 35) (o := 0) (K := 9) rfl (by decide)) hv13 ?_
            obtain ⟨v14, hv14, hD⟩ := Option.bind_eq_some_iff.mp hD
            refine k_runC rfl rfl rfl rfl (t_e_SleepWork_codeOf (d := d + 5) hv14) ?_
            refine k_runB (pc' := 72) (loc' := [(0, .ref (0 * 1024)), (1, .int x1), (2, .int x2), (3, .int x3)]) (st' := [.int v14]) 1 rfl ?_
            cases hD
            exact k_iret rfl rfl
        · rw [c34_10, cond_false] at hD
          refine k_runB (pc' := 38) (loc' := [(0, .ref (0 * 1024)), (1, .int x1), (2, .int x2), (3, .int x3)]) (st' := [.ref (0 * 1024)]) 1 rfl ?_
          refine k_gf 0 0 (K := 0) rfl rfl rfl rfl rfl ?_
          refine k_gf 32 0 (K := 7) rfl rfl rfl rfl rfl ?_
          cases hD
          exact k_iret rfl rfl
      · rw [c18_4, cond_false] at hD
        refine k_runB (pc' := 22) (loc' := [(0, .ref (0 * 1024)), (1, .int x1), (2, .int x2), (3, .int x3)]) (st' := [.int ((-1))]) 1 rfl ?_
        cases hD
        exact k_iret rfl rfl
/-- SleepWork.suspects(I)I  -/
def e_SleepWork_suspects (n : Nat) (P : Nat → Nat → Nat) (F : Nat → Nat → Int32) (A : Nat → Nat → Nat → Int32) (J : Nat → Nat → Nat → Int64) (x1 : Int32) : Option (Int32 × (Nat → Nat → Nat) × (Nat → Nat → Int32) × (Nat → Nat → Nat → Int32) × (Nat → Nat → Nat → Int64)) :=
  (e_SleepWork_isKnownBy P F A J x1).bind fun v1 =>
  cond (g_cnd .eq v1 0)
  (some ((-1), P, F, A, J))
  ((e_Evening_suspectBits n P F A J x1).bind fun (v3, P4, F5, A6, J7) =>
  some (v3, P4, F5, A6, J7))
set_option maxRecDepth 10000 in
theorem t_e_SleepWork_suspects (ht : ∀ ci k, t.1 ci k = k_ty ci k) {n : Nat} {P : Nat → Nat → Nat} {F : Nat → Nat → Int32} {A : Nat → Nat → Nat → Int32} {J : Nat → Nat → Nat → Int64} {x1 : Int32}  {w : Int32 × (Nat → Nat → Nat) × (Nat → Nat → Int32) × (Nat → Nat → Nat → Int32) × (Nat → Nat → Nat → Int64)} : e_SleepWork_suspects n P F A J x1 = some w → k_run t lg (d + 7) 133 0 [(0, .ref (0 * 1024)), (1, .int x1)] [] (c_h c B P F A J) (some (.int w.1), c_h c B w.2.1 w.2.2.1 w.2.2.2.1 w.2.2.2.2) := by
  intro hD
  unfold e_SleepWork_suspects at hD
  refine k_runB (pc' := 2) (loc' := [(0, .ref (0 * 1024)), (1, .int x1)]) (st' := [.int x1, .ref (0 * 1024)]) 2 rfl ?_
  obtain ⟨v1, hv1, hD⟩ := Option.bind_eq_some_iff.mp hD
  refine k_runV rfl rfl rfl (c_get (r := 0) (o := 0) (K := 0) rfl (by decide)) rfl rfl (t_e_SleepWork_isKnownBy (d := d + 6) hv1) ?_
  refine k_if rfl (fun c5_1 => ?_) (fun c5_1 => ?_)
  · rw [c5_1, cond_true] at hD
    refine k_runB (pc' := 20) (loc' := [(0, .ref (0 * 1024)), (1, .int x1)]) (st' := [.int ((-1))]) 1 rfl ?_
    cases hD
    exact k_iret rfl rfl
  · rw [c5_1, cond_false] at hD
    refine k_runB (pc' := 9) (loc' := [(0, .ref (0 * 1024)), (1, .int x1)]) (st' := [.ref (0 * 1024)]) 1 rfl ?_
    refine k_gf 0 0 (K := 0) rfl rfl rfl rfl rfl ?_
    refine k_runB (pc' := 13) (loc' := [(0, .ref (0 * 1024)), (1, .int x1)]) (st' := [.int x1, .ref (32 * 1024)]) 1 rfl ?_
    obtain ⟨⟨v3, P4, F5, A6, J7⟩, hv3, hD⟩ := Option.bind_eq_some_iff.mp hD
    dsimp only at hD
    refine k_runV rfl rfl rfl (c_get (r := 32) (o := 0) (K := 7) rfl (by decide)) rfl rfl (t_e_Evening_suspectBits (d := d) ht hv3) ?_
    refine k_runB (pc' := 20) (loc' := [(0, .ref (0 * 1024)), (1, .int x1)]) (st' := [.int v3]) 1 rfl ?_
    cases hD
    exact k_iret rfl rfl
/-- SleepWork.pairs(III)I  -/
def e_SleepWork_pairs (n : Nat) (P : Nat → Nat → Nat) (F : Nat → Nat → Int32) (A : Nat → Nat → Nat → Int32) (J : Nat → Nat → Nat → Int64) (x1 : Int32) (x2 : Int32) (x3 : Int32) : Option (Int32 × (Nat → Nat → Nat) × (Nat → Nat → Int32) × (Nat → Nat → Nat → Int32) × (Nat → Nat → Nat → Int64)) :=
  (e_SleepWork_areTwoMen P F A J x1 x2).bind fun v1 =>
  cond (g_cnd .eq v1 0)
  (some ((-1), P, F, A, J))
  ((e_SleepWork_isKnownBy P F A J x3).bind fun v3 =>
  cond (g_cnd .ne v3 0)
  ((e_Evening_fittingPairs n P F A J x1 x2 x3).bind fun (v5, P6, F7, A8, J9) =>
  some (v5, P6, F7, A8, J9))
  (some ((-1), P, F, A, J)))
set_option maxRecDepth 10000 in
theorem t_e_SleepWork_pairs (ht : ∀ ci k, t.1 ci k = k_ty ci k) {n : Nat} {P : Nat → Nat → Nat} {F : Nat → Nat → Int32} {A : Nat → Nat → Nat → Int32} {J : Nat → Nat → Nat → Int64} {x1 : Int32} {x2 : Int32} {x3 : Int32}  {w : Int32 × (Nat → Nat → Nat) × (Nat → Nat → Int32) × (Nat → Nat → Nat → Int32) × (Nat → Nat → Nat → Int64)} : e_SleepWork_pairs n P F A J x1 x2 x3 = some w → k_run t lg (d + 6) 134 0 [(0, .ref (0 * 1024)), (1, .int x1), (2, .int x2), (3, .int x3)] [] (c_h c B P F A J) (some (.int w.1), c_h c B w.2.1 w.2.2.1 w.2.2.2.1 w.2.2.2.2) := by
  intro hD
  unfold e_SleepWork_pairs at hD
  refine k_runB (pc' := 3) (loc' := [(0, .ref (0 * 1024)), (1, .int x1), (2, .int x2), (3, .int x3)]) (st' := [.int x2, .int x1, .ref (0 * 1024)]) 3 rfl ?_
  obtain ⟨v1, hv1, hD⟩ := Option.bind_eq_some_iff.mp hD
  refine k_runV rfl rfl rfl (c_get (r := 0) (o := 0) (K := 0) rfl (by decide)) rfl rfl (t_e_SleepWork_areTwoMen (d := d + 4) hv1) ?_
  refine k_if rfl (fun c6_1 => ?_) (fun c6_1 => ?_)
  · rw [c6_1, cond_true] at hD
    refine k_runB (pc' := 18) (loc' := [(0, .ref (0 * 1024)), (1, .int x1), (2, .int x2), (3, .int x3)]) (st' := [.int ((-1))]) 1 rfl ?_
    cases hD
    exact k_iret rfl rfl
  · rw [c6_1, cond_false] at hD
    refine k_runB (pc' := 11) (loc' := [(0, .ref (0 * 1024)), (1, .int x1), (2, .int x2), (3, .int x3)]) (st' := [.int x3, .ref (0 * 1024)]) 2 rfl ?_
    obtain ⟨v3, hv3, hD⟩ := Option.bind_eq_some_iff.mp hD
    refine k_runV rfl rfl rfl (c_get (r := 0) (o := 0) (K := 0) rfl (by decide)) rfl rfl (t_e_SleepWork_isKnownBy (d := d + 5) hv3) ?_
    refine k_if rfl (fun c14_3 => ?_) (fun c14_3 => ?_)
    · rw [c14_3, cond_true] at hD
      refine k_runB (pc' := 20) (loc' := [(0, .ref (0 * 1024)), (1, .int x1), (2, .int x2), (3, .int x3)]) (st' := [.ref (0 * 1024)]) 1 rfl ?_
      refine k_gf 0 0 (K := 0) rfl rfl rfl rfl rfl ?_
      refine k_runB (pc' := 26) (loc' := [(0, .ref (0 * 1024)), (1, .int x1), (2, .int x2), (3, .int x3)]) (st' := [.int x3, .int x2, .int x1, .ref (32 * 1024)]) 3 rfl ?_
      obtain ⟨⟨v5, P6, F7, A8, J9⟩, hv5, hD⟩ := Option.bind_eq_some_iff.mp hD
      dsimp only at hD
      refine k_runV rfl rfl rfl (c_get (r := 32) (o := 0) (K := 7) rfl (by decide)) rfl rfl (t_e_Evening_fittingPairs (d := d) ht hv5) ?_
      cases hD
      exact k_iret rfl rfl
    · rw [c14_3, cond_false] at hD
      refine k_runB (pc' := 18) (loc' := [(0, .ref (0 * 1024)), (1, .int x1), (2, .int x2), (3, .int x3)]) (st' := [.int ((-1))]) 1 rfl ?_
      cases hD
      exact k_iret rfl rfl
/-- SleepWork.hold(I)Z  -/
def e_SleepWork_hold (P : Nat → Nat → Nat) (F : Nat → Nat → Int32) (A : Nat → Nat → Nat → Int32) (J : Nat → Nat → Nat → Int64) (x1 : Int32) : Option (Int32 × (Nat → Nat → Nat) × (Nat → Nat → Int32) × (Nat → Nat → Nat → Int32) × (Nat → Nat → Nat → Int64)) :=
  cond (g_cnd .lt x1 0)
  (some (0, P, F, A, J))
  (cond (g_cnd .lt x1 3)
  ((c_ar 3 29 2 x1).bind fun q3 =>
  (e_State_copy P F A J q3 2).bind fun (_, P5, F6, A7, J8) =>
  (c_pf F6 0 10 ((F6 0 10) ||| ((1 : Int32) <<< (x1 &&& 31)))).bind fun F9 =>
  some (1, P5, F9, A7, J8))
  (some (0, P, F, A, J)))
set_option maxRecDepth 10000 in
theorem t_e_SleepWork_hold (ht : ∀ ci k, t.1 ci k = k_ty ci k) {P : Nat → Nat → Nat} {F : Nat → Nat → Int32} {A : Nat → Nat → Nat → Int32} {J : Nat → Nat → Nat → Int64} {x1 : Int32}  {w : Int32 × (Nat → Nat → Nat) × (Nat → Nat → Int32) × (Nat → Nat → Nat → Int32) × (Nat → Nat → Nat → Int64)} : e_SleepWork_hold P F A J x1 = some w → k_run t lg (d + 1) 135 0 [(0, .ref (0 * 1024)), (1, .int x1)] [] (c_h c B P F A J) (some (.int w.1), c_h c B w.2.1 w.2.2.1 w.2.2.2.1 w.2.2.2.2) := by
  intro hD
  unfold e_SleepWork_hold at hD
  refine k_runB (pc' := 1) (loc' := [(0, .ref (0 * 1024)), (1, .int x1)]) (st' := [.int x1]) 1 rfl ?_
  refine k_if rfl (fun c1_0 => ?_) (fun c1_0 => ?_)
  · rw [c1_0, cond_true] at hD
    refine k_runB (pc' := 10) (loc' := [(0, .ref (0 * 1024)), (1, .int x1)]) (st' := [.int 0]) 1 rfl ?_
    cases hD
    exact k_zret rfl rfl (Or.inl rfl)
  · rw [c1_0, cond_false] at hD
    refine k_runB (pc' := 6) (loc' := [(0, .ref (0 * 1024)), (1, .int x1)]) (st' := [.int 3, .int x1]) 2 rfl ?_
    refine k_ic rfl (fun c6_1 => ?_) (fun c6_1 => ?_)
    · rw [c6_1, cond_true] at hD
      refine k_runB (pc' := 12) (loc' := [(0, .ref (0 * 1024)), (1, .int x1)]) (st' := [.ref (0 * 1024)]) 1 rfl ?_
      refine k_gf 0 0 (K := 0) rfl rfl rfl rfl rfl ?_
      refine k_runB (pc' := 16) (loc' := [(0, .ref (0 * 1024)), (1, .int x1)]) (st' := [.int x1, .ref (26 * 1024 + 0)]) 1 rfl ?_
      obtain ⟨q3, hq3, hD⟩ := Option.bind_eq_some_iff.mp hD
      refine k_aal 26 0 (K := 5) rfl rfl rfl rfl hq3 (fun kq3 => ?_)
      refine k_runB (pc' := 18) (loc' := [(0, .ref (0 * 1024)), (1, .int x1)]) (st' := [.ref (0 * 1024), .ref (q3 * 1024)]) 1 rfl ?_
      refine k_gf 0 0 (K := 0) rfl rfl rfl rfl rfl ?_
      obtain ⟨⟨v4, P5, F6, A7, J8⟩, hv4, hD⟩ := Option.bind_eq_some_iff.mp hD
      dsimp only at hD
      refine k_runV rfl rfl rfl (c_get (r := q3) (o := 0) (K := 2) kq3 (by decide)) rfl rfl (t_e_State_copy (d := d) ht kq3 rfl hv4) ?_
      refine k_runB (pc' := 26) (loc' := [(0, .ref (0 * 1024)), (1, .int x1)]) (st' := [.ref (0 * 1024), .ref (0 * 1024)]) 2 rfl ?_
      refine k_gf 0 0 (K := 0) rfl rfl rfl rfl rfl ?_
      refine k_runB (pc' := 33) (loc' := [(0, .ref (0 * 1024)), (1, .int x1)]) (st' := [.int ((F6 0 10) ||| ((1 : Int32) <<< (x1 &&& 31))), .ref (0 * 1024)]) 4 rfl ?_
      obtain ⟨F9, hF9, hD⟩ := Option.bind_eq_some_iff.mp hD
      refine k_cpt 0 0 (K := 0) (key := 10) rfl rfl (ht 11 10) rfl rfl rfl hF9 ?_
      refine k_runB (pc' := 37) (loc' := [(0, .ref (0 * 1024)), (1, .int x1)]) (st' := [.int 1]) 1 rfl ?_
      cases hD
      exact k_zret rfl rfl (Or.inr rfl)
    · rw [c6_1, cond_false] at hD
      refine k_runB (pc' := 10) (loc' := [(0, .ref (0 * 1024)), (1, .int x1)]) (st' := [.int 0]) 1 rfl ?_
      cases hD
      exact k_zret rfl rfl (Or.inl rfl)
end MC
end Qz32
section Qz33
/-! the class's methods as functions (printed by wip/dec2.py) -/
section MC
variable {t : gT} {lg : Nat → Nat} {d : Nat} {c : Nat × Nat} {B : Nat → List gE}
/-- SleepWork.restore(I)Z  -/
def e_SleepWork_restore (P : Nat → Nat → Nat) (F : Nat → Nat → Int32) (A : Nat → Nat → Nat → Int32) (J : Nat → Nat → Nat → Int64) (x1 : Int32) : Option (Int32 × (Nat → Nat → Nat) × (Nat → Nat → Int32) × (Nat → Nat → Nat → Int32) × (Nat → Nat → Nat → Int64)) :=
  cond (g_cnd .lt x1 0)
  (some (0, P, F, A, J))
  (cond (g_cnd .ge x1 3)
  (some (0, P, F, A, J))
  (cond (g_cnd .ne ((F 0 10) &&& ((1 : Int32) <<< (x1 &&& 31))) 0)
  ((c_ar 3 29 2 x1).bind fun q4 =>
  (e_State_copy P F A J 2 q4).bind fun (_, P6, F7, A8, J9) =>
  (c_pf F7 4 2 0).bind fun F10 =>
  (e_Evening_setStale P6 F10 A8 J9).bind fun (_, P12, F13, A14, J15) =>
  some (1, P12, F13, A14, J15))
  (some (0, P, F, A, J))))
set_option maxRecDepth 10000 in
theorem t_e_SleepWork_restore (ht : ∀ ci k, t.1 ci k = k_ty ci k) {P : Nat → Nat → Nat} {F : Nat → Nat → Int32} {A : Nat → Nat → Nat → Int32} {J : Nat → Nat → Nat → Int64} {x1 : Int32}  {w : Int32 × (Nat → Nat → Nat) × (Nat → Nat → Int32) × (Nat → Nat → Nat → Int32) × (Nat → Nat → Nat → Int64)} : e_SleepWork_restore P F A J x1 = some w → k_run t lg (d + 1) 136 0 [(0, .ref (0 * 1024)), (1, .int x1)] [] (c_h c B P F A J) (some (.int w.1), c_h c B w.2.1 w.2.2.1 w.2.2.2.1 w.2.2.2.2) := by
  intro hD
  unfold e_SleepWork_restore at hD
  refine k_runB (pc' := 1) (loc' := [(0, .ref (0 * 1024)), (1, .int x1)]) (st' := [.int x1]) 1 rfl ?_
  refine k_if rfl (fun c1_0 => ?_) (fun c1_0 => ?_)
  · rw [c1_0, cond_true] at hD
    refine k_runB (pc' := 21) (loc' := [(0, .ref (0 * 1024)), (1, .int x1)]) (st' := [.int 0]) 1 rfl ?_
    cases hD
    exact k_zret rfl rfl (Or.inl rfl)
  · rw [c1_0, cond_false] at hD
    refine k_runB (pc' := 6) (loc' := [(0, .ref (0 * 1024)), (1, .int x1)]) (st' := [.int 3, .int x1]) 2 rfl ?_
    refine k_ic rfl (fun c6_1 => ?_) (fun c6_1 => ?_)
    · rw [c6_1, cond_true] at hD
      refine k_runB (pc' := 21) (loc' := [(0, .ref (0 * 1024)), (1, .int x1)]) (st' := [.int 0]) 1 rfl ?_
      cases hD
      exact k_zret rfl rfl (Or.inl rfl)
    · rw [c6_1, cond_false] at hD
      refine k_runB (pc' := 10) (loc' := [(0, .ref (0 * 1024)), (1, .int x1)]) (st' := [.ref (0 * 1024)]) 1 rfl ?_
      refine k_gf 0 0 (K := 0) rfl rfl rfl rfl rfl ?_
      refine k_runB (pc' := 17) (loc' := [(0, .ref (0 * 1024)), (1, .int x1)]) (st' := [.int ((F 0 10) &&& ((1 : Int32) <<< (x1 &&& 31)))]) 4 rfl ?_
      refine k_if rfl (fun c17_2 => ?_) (fun c17_2 => ?_)
      · rw [c17_2, cond_true] at hD
        refine k_runB (pc' := 23) (loc' := [(0, .ref (0 * 1024)), (1, .int x1)]) (st' := [.ref (0 * 1024)]) 1 rfl ?_
        refine k_gf 0 0 (K := 0) rfl rfl rfl rfl rfl ?_
        refine k_runB (pc' := 27) (loc' := [(0, .ref (0 * 1024)), (1, .int x1)]) (st' := [.ref (0 * 1024), .ref (2 * 1024)]) 1 rfl ?_
        refine k_gf 0 0 (K := 0) rfl rfl rfl rfl rfl ?_
        refine k_runB (pc' := 31) (loc' := [(0, .ref (0 * 1024)), (1, .int x1)]) (st' := [.int x1, .ref (26 * 1024 + 0), .ref (2 * 1024)]) 1 rfl ?_
        obtain ⟨q4, hq4, hD⟩ := Option.bind_eq_some_iff.mp hD
        refine k_aal 26 0 (K := 5) rfl rfl rfl rfl hq4 (fun kq4 => ?_)
        obtain ⟨⟨v5, P6, F7, A8, J9⟩, hv5, hD⟩ := Option.bind_eq_some_iff.mp hD
        dsimp only at hD
        refine k_runV rfl rfl rfl (c_get (r := 2) (o := 0) (K := 2) rfl (by decide)) rfl rfl (t_e_State_copy (d := d) ht rfl kq4 hv5) ?_
        refine k_runB (pc' := 36) (loc' := [(0, .ref (0 * 1024)), (1, .int x1)]) (st' := [.ref (0 * 1024)]) 1 rfl ?_
        refine k_gf 0 0 (K := 0) rfl rfl rfl rfl rfl ?_
        refine k_runB (pc' := 40) (loc' := [(0, .ref (0 * 1024)), (1, .int x1)]) (st' := [.int 0, .ref (4 * 1024)]) 1 rfl ?_
        obtain ⟨F10, hF10, hD⟩ := Option.bind_eq_some_iff.mp hD
        refine k_cpt 4 0 (K := 3) (key := 2) rfl rfl (ht 3 2) rfl rfl rfl hF10 ?_
        refine k_runB (pc' := 44) (loc' := [(0, .ref (0 * 1024)), (1, .int x1)]) (st' := [.ref (0 * 1024)]) 1 rfl ?_
        refine k_gf 0 0 (K := 0) rfl rfl rfl rfl rfl ?_
        obtain ⟨⟨v11, P12, F13, A14, J15⟩, hv11, hD⟩ := Option.bind_eq_some_iff.mp hD
        dsimp only at hD
        refine k_runV rfl rfl rfl (c_get (r := 32) (o := 0) (K := 7) rfl (by decide)) rfl rfl (t_e_Evening_setStale (d := d) ht hv11) ?_
        refine k_runB (pc' := 51) (loc' := [(0, .ref (0 * 1024)), (1, .int x1)]) (st' := [.int 1]) 1 rfl ?_
        cases hD
        exact k_zret rfl rfl (Or.inr rfl)
      · rw [c17_2, cond_false] at hD
        refine k_runB (pc' := 21) (loc' := [(0, .ref (0 * 1024)), (1, .int x1)]) (st' := [.int 0]) 1 rfl ?_
        cases hD
        exact k_zret rfl rfl (Or.inl rfl)
/-- java/lang/Integer.bitCount(I)I  -/
def e_Integer_bitCount (P : Nat → Nat → Nat) (F : Nat → Nat → Int32) (A : Nat → Nat → Nat → Int32) (J : Nat → Nat → Nat → Int64) (x0 : Int32) : Option (Int32) :=
  some ((((((((x0 - (((x0.toUInt32 >>> ((1 : Int32).toUInt32 &&& Int32.toUInt32 31)).toInt32) &&& 1431655765)) &&& 858993459) + ((((x0 - (((x0.toUInt32 >>> ((1 : Int32).toUInt32 &&& Int32.toUInt32 31)).toInt32) &&& 1431655765)).toUInt32 >>> ((2 : Int32).toUInt32 &&& Int32.toUInt32 31)).toInt32) &&& 858993459)) + (((((x0 - (((x0.toUInt32 >>> ((1 : Int32).toUInt32 &&& Int32.toUInt32 31)).toInt32) &&& 1431655765)) &&& 858993459) + ((((x0 - (((x0.toUInt32 >>> ((1 : Int32).toUInt32 &&& Int32.toUInt32 31)).toInt32) &&& 1431655765)).toUInt32 >>> ((2 : Int32).toUInt32 &&& Int32.toUInt32 31)).toInt32) &&& 858993459)).toUInt32 >>> ((4 : Int32).toUInt32 &&& Int32.toUInt32 31)).toInt32)) &&& 252645135) + (((((((x0 - (((x0.toUInt32 >>> ((1 : Int32).toUInt32 &&& Int32.toUInt32 31)).toInt32) &&& 1431655765)) &&& 858993459) + ((((x0 - (((x0.toUInt32 >>> ((1 : Int32).toUInt32 &&& Int32.toUInt32 31)).toInt32) &&& 1431655765)).toUInt32 >>> ((2 : Int32).toUInt32 &&& Int32.toUInt32 31)).toInt32) &&& 858993459)) + (((((x0 - (((x0.toUInt32 >>> ((1 : Int32).toUInt32 &&& Int32.toUInt32 31)).toInt32) &&& 1431655765)) &&& 858993459) + ((((x0 - (((x0.toUInt32 >>> ((1 : Int32).toUInt32 &&& Int32.toUInt32 31)).toInt32) &&& 1431655765)).toUInt32 >>> ((2 : Int32).toUInt32 &&& Int32.toUInt32 31)).toInt32) &&& 858993459)).toUInt32 >>> ((4 : Int32).toUInt32 &&& Int32.toUInt32 31)).toInt32)) &&& 252645135).toUInt32 >>> ((8 : Int32).toUInt32 &&& Int32.toUInt32 31)).toInt32)) + ((((((((x0 - (((x0.toUInt32 >>> ((1 : Int32).toUInt32 &&& Int32.toUInt32 31)).toInt32) &&& 1431655765)) &&& 858993459) + ((((x0 - (((x0.toUInt32 >>> ((1 : Int32).toUInt32 &&& Int32.toUInt32 31)).toInt32) &&& 1431655765)).toUInt32 >>> ((2 : Int32).toUInt32 &&& Int32.toUInt32 31)).toInt32) &&& 858993459)) + (((((x0 - (((x0.toUInt32 >>> ((1 : Int32).toUInt32 &&& Int32.toUInt32 31)).toInt32) &&& 1431655765)) &&& 858993459) + ((((x0 - (((x0.toUInt32 >>> ((1 : Int32).toUInt32 &&& Int32.toUInt32 31)).toInt32) &&& 1431655765)).toUInt32 >>> ((2 : Int32).toUInt32 &&& Int32.toUInt32 31)).toInt32) &&& 858993459)).toUInt32 >>> ((4 : Int32).toUInt32 &&& Int32.toUInt32 31)).toInt32)) &&& 252645135) + (((((((x0 - (((x0.toUInt32 >>> ((1 : Int32).toUInt32 &&& Int32.toUInt32 31)).toInt32) &&& 1431655765)) &&& 858993459) + ((((x0 - (((x0.toUInt32 >>> ((1 : Int32).toUInt32 &&& Int32.toUInt32 31)).toInt32) &&& 1431655765)).toUInt32 >>> ((2 : Int32).toUInt32 &&& Int32.toUInt32 31)).toInt32) &&& 858993459)) + (((((x0 - (((x0.toUInt32 >>> ((1 : Int32).toUInt32 &&& Int32.toUInt32 31)).toInt32) &&& 1431655765)) &&& 858993459) + ((((x0 - (((x0.toUInt32 >>> ((1 : Int32).toUInt32 &&& Int32.toUInt32 31)).toInt32) &&& 1431655765)).toUInt32 >>> ((2 : Int32).toUInt32 &&& Int32.toUInt32 31)).toInt32) &&& 858993459)).toUInt32 >>> ((4 : Int32).toUInt32 &&& Int32.toUInt32 31)).toInt32)) &&& 252645135).toUInt32 >>> ((8 : Int32).toUInt32 &&& Int32.toUInt32 31)).toInt32)).toUInt32 >>> ((16 : Int32).toUInt32 &&& Int32.toUInt32 31)).toInt32)) &&& 63)
set_option maxRecDepth 10000 in
theorem t_e_Integer_bitCount {P : Nat → Nat → Nat} {F : Nat → Nat → Int32} {A : Nat → Nat → Nat → Int32} {J : Nat → Nat → Nat → Int64} {x0 : Int32}  {w : Int32} : e_Integer_bitCount P F A J x0 = some w → k_run t lg (d) 243 0 [(0, .int x0)] [] (c_h c B P F A J) (some (.int w), c_h c B P F A J) := by
  intro hD
  unfold e_Integer_bitCount at hD
  refine k_runB (pc' := 52) (loc' := [(0, .int (((((((x0 - (((x0.toUInt32 >>> ((1 : Int32).toUInt32 &&& Int32.toUInt32 31)).toInt32) &&& 1431655765)) &&& 858993459) + ((((x0 - (((x0.toUInt32 >>> ((1 : Int32).toUInt32 &&& Int32.toUInt32 31)).toInt32) &&& 1431655765)).toUInt32 >>> ((2 : Int32).toUInt32 &&& Int32.toUInt32 31)).toInt32) &&& 858993459)) + (((((x0 - (((x0.toUInt32 >>> ((1 : Int32).toUInt32 &&& Int32.toUInt32 31)).toInt32) &&& 1431655765)) &&& 858993459) + ((((x0 - (((x0.toUInt32 >>> ((1 : Int32).toUInt32 &&& Int32.toUInt32 31)).toInt32) &&& 1431655765)).toUInt32 >>> ((2 : Int32).toUInt32 &&& Int32.toUInt32 31)).toInt32) &&& 858993459)).toUInt32 >>> ((4 : Int32).toUInt32 &&& Int32.toUInt32 31)).toInt32)) &&& 252645135) + (((((((x0 - (((x0.toUInt32 >>> ((1 : Int32).toUInt32 &&& Int32.toUInt32 31)).toInt32) &&& 1431655765)) &&& 858993459) + ((((x0 - (((x0.toUInt32 >>> ((1 : Int32).toUInt32 &&& Int32.toUInt32 31)).toInt32) &&& 1431655765)).toUInt32 >>> ((2 : Int32).toUInt32 &&& Int32.toUInt32 31)).toInt32) &&& 858993459)) + (((((x0 - (((x0.toUInt32 >>> ((1 : Int32).toUInt32 &&& Int32.toUInt32 31)).toInt32) &&& 1431655765)) &&& 858993459) + ((((x0 - (((x0.toUInt32 >>> ((1 : Int32).toUInt32 &&& Int32.toUInt32 31)).toInt32) &&& 1431655765)).toUInt32 >>> ((2 : Int32).toUInt32 &&& Int32.toUInt32 31)).toInt32) &&& 858993459)).toUInt32 >>> ((4 : Int32).toUInt32 &&& Int32.toUInt32 31)).toInt32)) &&& 252645135).toUInt32 >>> ((8 : Int32).toUInt32 &&& Int32.toUInt32 31)).toInt32)) + ((((((((x0 - (((x0.toUInt32 >>> ((1 : Int32).toUInt32 &&& Int32.toUInt32 31)).toInt32) &&& 1431655765)) &&& 858993459) + ((((x0 - (((x0.toUInt32 >>> ((1 : Int32).toUInt32 &&& Int32.toUInt32 31)).toInt32) &&& 1431655765)).toUInt32 >>> ((2 : Int32).toUInt32 &&& Int32.toUInt32 31)).toInt32) &&& 858993459)) + (((((x0 - (((x0.toUInt32 >>> ((1 : Int32).toUInt32 &&& Int32.toUInt32 31)).toInt32) &&& 1431655765)) &&& 858993459) + ((((x0 - (((x0.toUInt32 >>> ((1 : Int32).toUInt32 &&& Int32.toUInt32 31)).toInt32) &&& 1431655765)).toUInt32 >>> ((2 : Int32).toUInt32 &&& Int32.toUInt32 31)).toInt32) &&& 858993459)).toUInt32 >>> ((4 : Int32).toUInt32 &&& Int32.toUInt32 31)).toInt32)) &&& 252645135) + (((((((x0 - (((x0.toUInt32 >>> ((1 : Int32).toUInt32 &&& Int32.toUInt32 31)).toInt32) &&& 1431655765)) &&& 858993459) + ((((x0 - (((x0.toUInt32 >>> ((1 : Int32).toUInt32 &&& Int32.toUInt32 31)).toInt32) &&& 1431655765)).toUInt32 >>> ((2 : Int32).toUInt32 &&& Int32.toUInt32 31)).toInt32) &&& 858993459)) + (((((x0 - (((x0.toUInt32 >>> ((1 : Int32).toUInt32 &&& Int32.toUInt32 31)).toInt32) &&& 1431655765)) &&& 858993459) + ((((x0 - (((x0.toUInt32 >>> ((1 : Int32).toUInt32 &&& Int32.toUInt32 31)).toInt32) &&& 1431655765)).toUInt32 >>> ((2 : Int32).toUInt32 &&& Int32.toUInt32 31)).toInt32) &&& 858993459)).toUInt32 >>> ((4 : Int32).toUInt32 &&& Int32.toUInt32 31)).toInt32)) &&& 252645135).toUInt32 >>> ((8 : Int32).toUInt32 &&& Int32.toUInt32 31)).toInt32)).toUInt32 >>> ((16 : Int32).toUInt32 &&& Int32.toUInt32 31)).toInt32)))]) (st' := [.int ((((((((x0 - (((x0.toUInt32 >>> ((1 : Int32).toUInt32 &&& Int32.toUInt32 31)).toInt32) &&& 1431655765)) &&& 858993459) + ((((x0 - (((x0.toUInt32 >>> ((1 : Int32).toUInt32 &&& Int32.toUInt32 31)).toInt32) &&& 1431655765)).toUInt32 >>> ((2 : Int32).toUInt32 &&& Int32.toUInt32 31)).toInt32) &&& 858993459)) + (((((x0 - (((x0.toUInt32 >>> ((1 : Int32).toUInt32 &&& Int32.toUInt32 31)).toInt32) &&& 1431655765)) &&& 858993459) + ((((x0 - (((x0.toUInt32 >>> ((1 : Int32).toUInt32 &&& Int32.toUInt32 31)).toInt32) &&& 1431655765)).toUInt32 >>> ((2 : Int32).toUInt32 &&& Int32.toUInt32 31)).toInt32) &&& 858993459)).toUInt32 >>> ((4 : Int32).toUInt32 &&& Int32.toUInt32 31)).toInt32)) &&& 252645135) + (((((((x0 - (((x0.toUInt32 >>> ((1 : Int32).toUInt32 &&& Int32.toUInt32 31)).toInt32) &&& 1431655765)) &&& 858993459) + ((((x0 - (((x0.toUInt32 >>> ((1 : Int32).toUInt32 &&& Int32.toUInt32 31)).toInt32) &&& 1431655765)).toUInt32 >>> ((2 : Int32).toUInt32 &&& Int32.toUInt32 31)).toInt32) &&& 858993459)) + (((((x0 - (((x0.toUInt32 >>> ((1 : Int32).toUInt32 &&& Int32.toUInt32 31)).toInt32) &&& 1431655765)) &&& 858993459) + ((((x0 - (((x0.toUInt32 >>> ((1 : Int32).toUInt32 &&& Int32.toUInt32 31)).toInt32) &&& 1431655765)).toUInt32 >>> ((2 : Int32).toUInt32 &&& Int32.toUInt32 31)).toInt32) &&& 858993459)).toUInt32 >>> ((4 : Int32).toUInt32 &&& Int32.toUInt32 31)).toInt32)) &&& 252645135).toUInt32 >>> ((8 : Int32).toUInt32 &&& Int32.toUInt32 31)).toInt32)) + ((((((((x0 - (((x0.toUInt32 >>> ((1 : Int32).toUInt32 &&& Int32.toUInt32 31)).toInt32) &&& 1431655765)) &&& 858993459) + ((((x0 - (((x0.toUInt32 >>> ((1 : Int32).toUInt32 &&& Int32.toUInt32 31)).toInt32) &&& 1431655765)).toUInt32 >>> ((2 : Int32).toUInt32 &&& Int32.toUInt32 31)).toInt32) &&& 858993459)) + (((((x0 - (((x0.toUInt32 >>> ((1 : Int32).toUInt32 &&& Int32.toUInt32 31)).toInt32) &&& 1431655765)) &&& 858993459) + ((((x0 - (((x0.toUInt32 >>> ((1 : Int32).toUInt32 &&& Int32.toUInt32 31)).toInt32) &&& 1431655765)).toUInt32 >>> ((2 : Int32).toUInt32 &&& Int32.toUInt32 31)).toInt32) &&& 858993459)).toUInt32 >>> ((4 : Int32).toUInt32 &&& Int32.toUInt32 31)).toInt32)) &&& 252645135) + (((((((x0 - (((x0.toUInt32 >>> ((1 : Int32).toUInt32 &&& Int32.toUInt32 31)).toInt32) &&& 1431655765)) &&& 858993459) + ((((x0 - (((x0.toUInt32 >>> ((1 : Int32).toUInt32 &&& Int32.toUInt32 31)).toInt32) &&& 1431655765)).toUInt32 >>> ((2 : Int32).toUInt32 &&& Int32.toUInt32 31)).toInt32) &&& 858993459)) + (((((x0 - (((x0.toUInt32 >>> ((1 : Int32).toUInt32 &&& Int32.toUInt32 31)).toInt32) &&& 1431655765)) &&& 858993459) + ((((x0 - (((x0.toUInt32 >>> ((1 : Int32).toUInt32 &&& Int32.toUInt32 31)).toInt32) &&& 1431655765)).toUInt32 >>> ((2 : Int32).toUInt32 &&& Int32.toUInt32 31)).toInt32) &&& 858993459)).toUInt32 >>> ((4 : Int32).toUInt32 &&& Int32.toUInt32 31)).toInt32)) &&& 252645135).toUInt32 >>> ((8 : Int32).toUInt32 &&& Int32.toUInt32 31)).toInt32)).toUInt32 >>> ((16 : Int32).toUInt32 &&& Int32.toUInt32 31)).toInt32)) &&& 63)]) 41 rfl ?_
  cases hD
  exact k_iret rfl rfl
/-- SleepWork.count(I)I  -/
def e_SleepWork_count (n : Nat) (P : Nat → Nat → Nat) (F : Nat → Nat → Int32) (A : Nat → Nat → Nat → Int32) (J : Nat → Nat → Nat → Int64) (x1 : Int32) : Option (Int32) :=
  cond (decide (x1 = 0))
  ((c_chk 6 (P 0 8)).bind fun q2 =>
  some (F q2 13))
  (cond (decide (x1 = 1))
  ((c_chk 6 (P 0 8)).bind fun q3 =>
  some (F q3 14))
  (cond (decide (x1 = 2))
  ((c_chk 6 (P 0 8)).bind fun q4 =>
  some (F q4 15))
  (cond (decide (x1 = 3))
  ((c_chk 6 (P 0 8)).bind fun q5 =>
  some (F q5 16))
  (cond (decide (x1 = 4))
  ((c_chk 6 (P 0 8)).bind fun q6 =>
  some (F q6 17))
  (cond (decide (x1 = 5))
  ((c_chk 6 (P 0 8)).bind fun q7 =>
  some (F q7 18))
  (cond (decide (x1 = 6))
  (some (F 2 8))
  (cond (decide (x1 = 7))
  ((e_Integer_bitCount P F A J (F 2 7)).bind fun v8 =>
  some (v8))
  (cond (decide (x1 = 8))
  ((c_chk 6 (P 0 8)).bind fun q9 =>
  (e_House_worthOfAll n P F A J q9 2).bind fun v10 =>
  some (v10))
  (cond (decide (x1 = 9))
  (some (F 1 1))
  (cond (decide (x1 = 10))
  (some (F 4 2))
  (cond (decide (x1 = 11))
  (some (F 25 2))
  (cond (decide (x1 = 12))
  ((e_Integer_bitCount P F A J (F 0 10)).bind fun v11 =>
  some (v11))
  (some ((-1)))))))))))))))
set_option maxRecDepth 10000 in
theorem t_e_SleepWork_count {n : Nat} {P : Nat → Nat → Nat} {F : Nat → Nat → Int32} {A : Nat → Nat → Nat → Int32} {J : Nat → Nat → Nat → Int64} {x1 : Int32}  {w : Int32} : e_SleepWork_count n P F A J x1 = some w → k_run t lg (d + 2) 137 0 [(0, .ref (0 * 1024)), (1, .int x1)] [] (c_h c B P F A J) (some (.int w), c_h c B P F A J) := by
  intro hD
  unfold e_SleepWork_count at hD
  refine k_runB (pc' := 1) (loc' := [(0, .ref (0 * 1024)), (1, .int x1)]) (st' := [.int x1]) 1 rfl ?_
  cases c1_0_0 : decide (x1 = 0) with
  | true =>
    rw [c1_0_0, cond_true] at hD
    refine k_tab (tgt := 68) rfl (by rw [of_decide_eq_true c1_0_0]; decide) ?_
    refine k_runB (pc' := 69) (loc' := [(0, .ref (0 * 1024)), (1, .int x1)]) (st' := [.ref (0 * 1024)]) 1 rfl ?_
    obtain ⟨q2, hq2, hD⟩ := Option.bind_eq_some_iff.mp hD
    refine k_gq 0 0 (K := 0) (K2 := 6) (key := 8) rfl rfl rfl rfl rfl hq2 (fun kq2 => ?_)
    refine k_gf q2 0 (K := 6) kq2 rfl rfl rfl rfl ?_
    cases hD
    exact k_iret rfl rfl
  | false =>
    rw [c1_0_0, cond_false] at hD
    cases c1_0_1 : decide (x1 = 1) with
    | true =>
      rw [c1_0_1, cond_true] at hD
      refine k_tab (tgt := 76) rfl (by rw [of_decide_eq_true c1_0_1]; decide) ?_
      refine k_runB (pc' := 77) (loc' := [(0, .ref (0 * 1024)), (1, .int x1)]) (st' := [.ref (0 * 1024)]) 1 rfl ?_
      obtain ⟨q3, hq3, hD⟩ := Option.bind_eq_some_iff.mp hD
      refine k_gq 0 0 (K := 0) (K2 := 6) (key := 8) rfl rfl rfl rfl rfl hq3 (fun kq3 => ?_)
      refine k_gf q3 0 (K := 6) kq3 rfl rfl rfl rfl ?_
      cases hD
      exact k_iret rfl rfl
    | false =>
      rw [c1_0_1, cond_false] at hD
      cases c1_0_2 : decide (x1 = 2) with
      | true =>
        rw [c1_0_2, cond_true] at hD
        refine k_tab (tgt := 84) rfl (by rw [of_decide_eq_true c1_0_2]; decide) ?_
        refine k_runB (pc' := 85) (loc' := [(0, .ref (0 * 1024)), (1, .int x1)]) (st' := [.ref (0 * 1024)]) 1 rfl ?_
        obtain ⟨q4, hq4, hD⟩ := Option.bind_eq_some_iff.mp hD
        refine k_gq 0 0 (K := 0) (K2 := 6) (key := 8) rfl rfl rfl rfl rfl hq4 (fun kq4 => ?_)
        refine k_gf q4 0 (K := 6) kq4 rfl rfl rfl rfl ?_
        cases hD
        exact k_iret rfl rfl
      | false =>
        rw [c1_0_2, cond_false] at hD
        cases c1_0_3 : decide (x1 = 3) with
        | true =>
          rw [c1_0_3, cond_true] at hD
          refine k_tab (tgt := 92) rfl (by rw [of_decide_eq_true c1_0_3]; decide) ?_
          refine k_runB (pc' := 93) (loc' := [(0, .ref (0 * 1024)), (1, .int x1)]) (st' := [.ref (0 * 1024)]) 1 rfl ?_
          obtain ⟨q5, hq5, hD⟩ := Option.bind_eq_some_iff.mp hD
          refine k_gq 0 0 (K := 0) (K2 := 6) (key := 8) rfl rfl rfl rfl rfl hq5 (fun kq5 => ?_)
          refine k_gf q5 0 (K := 6) kq5 rfl rfl rfl rfl ?_
          cases hD
          exact k_iret rfl rfl
        | false =>
          rw [c1_0_3, cond_false] at hD
          cases c1_0_4 : decide (x1 = 4) with
          | true =>
            rw [c1_0_4, cond_true] at hD
            refine k_tab (tgt := 100) rfl (by rw [of_decide_eq_true c1_0_4]; decide) ?_
            refine k_runB (pc' := 101) (loc' := [(0, .ref (0 * 1024)), (1, .int x1)]) (st' := [.ref (0 * 1024)]) 1 rfl ?_
            obtain ⟨q6, hq6, hD⟩ := Option.bind_eq_some_iff.mp hD
            refine k_gq 0 0 (K := 0) (K2 := 6) (key := 8) rfl rfl rfl rfl rfl hq6 (fun kq6 => ?_)
            refine k_gf q6 0 (K := 6) kq6 rfl rfl rfl rfl ?_
            cases hD
            exact k_iret rfl rfl
          | false =>
            rw [c1_0_4, cond_false] at hD
            cases c1_0_5 : decide (x1 = 5) with
            | true =>
              rw [c1_0_5, cond_true] at hD
              refine k_tab (tgt := 108) rfl (by rw [of_decide_eq_true c1_0_5]; decide) ?_
              refine k_runB (pc' := 109) (loc' := [(0, .ref (0 * 1024)), (1, .int x1)]) (st' := [.ref (0 * 1024)]) 1 rfl ?_
              obtain ⟨q7, hq7, hD⟩ := Option.bind_eq_some_iff.mp hD
              refine k_gq 0 0 (K := 0) (K2 := 6) (key := 8) rfl rfl rfl rfl rfl hq7 (fun kq7 => ?_)
              refine k_gf q7 0 (K := 6) kq7 rfl rfl rfl rfl ?_
              cases hD
              exact k_iret rfl rfl
            | false =>
              rw [c1_0_5, cond_false] at hD
              cases c1_0_6 : decide (x1 = 6) with
              | true =>
                rw [c1_0_6, cond_true] at hD
                refine k_tab (tgt := 116) rfl (by rw [of_decide_eq_true c1_0_6]; decide) ?_
                refine k_runB (pc' := 117) (loc' := [(0, .ref (0 * 1024)), (1, .int x1)]) (st' := [.ref (0 * 1024)]) 1 rfl ?_
                refine k_gf 0 0 (K := 0) rfl rfl rfl rfl rfl ?_
                refine k_gf 2 0 (K := 2) rfl rfl rfl rfl rfl ?_
                cases hD
                exact k_iret rfl rfl
              | false =>
                rw [c1_0_6, cond_false] at hD
                cases c1_0_7 : decide (x1 = 7) with
                | true =>
                  rw [c1_0_7, cond_true] at hD
                  refine k_tab (tgt := 124) rfl (by rw [of_decide_eq_true c1_0_7]; decide) ?_
                  refine k_runB (pc' := 125) (loc' := [(0, .ref (0 * 1024)), (1, .int x1)]) (st' := [.ref (0 * 1024)]) 1 rfl ?_
                  refine k_gf 0 0 (K := 0) rfl rfl rfl rfl rfl ?_
                  refine k_gf 2 0 (K := 2) rfl rfl rfl rfl rfl ?_
                  obtain ⟨v8, hv8, hD⟩ := Option.bind_eq_some_iff.mp hD
                  refine k_runC rfl rfl rfl rfl (t_e_Integer_bitCount (d := d + 1) hv8) ?_
                  cases hD
                  exact k_iret rfl rfl
                | false =>
                  rw [c1_0_7, cond_false] at hD
                  cases c1_0_8 : decide (x1 = 8) with
                  | true =>
                    rw [c1_0_8, cond_true] at hD
                    refine k_tab (tgt := 135) rfl (by rw [of_decide_eq_true c1_0_8]; decide) ?_
                    refine k_runB (pc' := 136) (loc' := [(0, .ref (0 * 1024)), (1, .int x1)]) (st' := [.ref (0 * 1024)]) 1 rfl ?_
                    obtain ⟨q9, hq9, hD⟩ := Option.bind_eq_some_iff.mp hD
                    refine k_gq 0 0 (K := 0) (K2 := 6) (key := 8) rfl rfl rfl rfl rfl hq9 (fun kq9 => ?_)
                    refine k_runB (pc' := 140) (loc' := [(0, .ref (0 * 1024)), (1, .int x1)]) (st' := [.ref (0 * 1024), .ref (q9 * 1024)]) 1 rfl ?_
                    refine k_gf 0 0 (K := 0) rfl rfl rfl rfl rfl ?_
                    obtain ⟨v10, hv10, hD⟩ := Option.bind_eq_some_iff.mp hD
                    refine k_runV rfl rfl rfl (c_get (r := q9) (o := 0) (K := 6) kq9 (by decide)) rfl rfl (t_e_House_worthOfAll (d := d) kq9 rfl hv10) ?_
                    cases hD
                    exact k_iret rfl rfl
                  | false =>
                    rw [c1_0_8, cond_false] at hD
                    cases c1_0_9 : decide (x1 = 9) with
                    | true =>
                      rw [c1_0_9, cond_true] at hD
                      refine k_tab (tgt := 147) rfl (by rw [of_decide_eq_true c1_0_9]; decide) ?_
                      refine k_runB (pc' := 148) (loc' := [(0, .ref (0 * 1024)), (1, .int x1)]) (st' := [.ref (0 * 1024)]) 1 rfl ?_
                      refine k_gf 0 0 (K := 0) rfl rfl rfl rfl rfl ?_
                      refine k_gf 1 0 (K := 1) rfl rfl rfl rfl rfl ?_
                      cases hD
                      exact k_iret rfl rfl
                    | false =>
                      rw [c1_0_9, cond_false] at hD
                      cases c1_0_10 : decide (x1 = 10) with
                      | true =>
                        rw [c1_0_10, cond_true] at hD
                        refine k_tab (tgt := 155) rfl (by rw [of_decide_eq_true c1_0_10]; decide) ?_
                        refine k_runB (pc' := 156) (loc' := [(0, .ref (0 * 1024)), (1, .int x1)]) (st' := [.ref (0 * 1024)]) 1 rfl ?_
                        refine k_gf 0 0 (K := 0) rfl rfl rfl rfl rfl ?_
                        refine k_gf 4 0 (K := 3) rfl rfl rfl rfl rfl ?_
                        cases hD
                        exact k_iret rfl rfl
                      | false =>
                        rw [c1_0_10, cond_false] at hD
                        cases c1_0_11 : decide (x1 = 11) with
                        | true =>
                          rw [c1_0_11, cond_true] at hD
                          refine k_tab (tgt := 163) rfl (by rw [of_decide_eq_true c1_0_11]; decide) ?_
                          refine k_runB (pc' := 164) (loc' := [(0, .ref (0 * 1024)), (1, .int x1)]) (st' := [.ref (0 * 1024)]) 1 rfl ?_
                          refine k_gf 0 0 (K := 0) rfl rfl rfl rfl rfl ?_
                          refine k_gf 25 0 (K := 4) rfl rfl rfl rfl rfl ?_
                          cases hD
                          exact k_iret rfl rfl
                        | false =>
                          rw [c1_0_11, cond_false] at hD
                          cases c1_0_12 : decide (x1 = 12) with
                          | true =>
                            rw [c1_0_12, cond_true] at hD
                            refine k_tab (tgt := 171) rfl (by rw [of_decide_eq_true c1_0_12]; decide) ?_
                            refine k_runB (pc' := 172) (loc' := [(0, .ref (0 * 1024)), (1, .int x1)]) (st' := [.ref (0 * 1024)]) 1 rfl ?_
                            refine k_gf 0 0 (K := 0) rfl rfl rfl rfl rfl ?_
                            obtain ⟨v11, hv11, hD⟩ := Option.bind_eq_some_iff.mp hD
                            refine k_runC rfl rfl rfl rfl (t_e_Integer_bitCount (d := d + 1) hv11) ?_
                            cases hD
                            exact k_iret rfl rfl
                          | false =>
                            rw [c1_0_12, cond_false] at hD
                            refine k_tab (tgt := 179) rfl (by rw [if_pos (m_out (lo := 0) (hi := 12) [0, 1, 2, 3, 4, 5, 6, 7, 8, 9, 10, 11, 12] (by decide) (by decide) (List.forall_mem_cons.mpr ⟨of_decide_eq_false c1_0_0, List.forall_mem_cons.mpr ⟨of_decide_eq_false c1_0_1, List.forall_mem_cons.mpr ⟨of_decide_eq_false c1_0_2, List.forall_mem_cons.mpr ⟨of_decide_eq_false c1_0_3, List.forall_mem_cons.mpr ⟨of_decide_eq_false c1_0_4, List.forall_mem_cons.mpr ⟨of_decide_eq_false c1_0_5, List.forall_mem_cons.mpr ⟨of_decide_eq_false c1_0_6, List.forall_mem_cons.mpr ⟨of_decide_eq_false c1_0_7, List.forall_mem_cons.mpr ⟨of_decide_eq_false c1_0_8, List.forall_mem_cons.mpr ⟨of_decide_eq_false c1_0_9, List.forall_mem_cons.mpr ⟨of_decide_eq_false c1_0_10, List.forall_mem_cons.mpr ⟨of_decide_eq_false c1_0_11, List.forall_mem_cons.mpr ⟨of_decide_eq_false c1_0_12, fun _ h => absurd h List.not_mem_nil⟩⟩⟩⟩⟩⟩⟩⟩⟩⟩⟩⟩⟩))]; rfl) ?_
                            refine k_runB (pc' := 180) (loc' := [(0, .ref (0 * 1024)), (1, .int x1)]) (st' := [.int ((-1))]) 1 rfl ?_
                            cases hD
                            exact k_iret rfl rfl
end MC
end Qz33
