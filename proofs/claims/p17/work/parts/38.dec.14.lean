/-! the class's methods as functions (printed by wip/dec2.py) -/
section MC
variable {t : gT} {lg : Nat → Nat} {d : Nat} {c : Nat × Nat} {B : Nat → List gE}
/-- SleepWork$Told.isFull()Z  -/
def e_Told_isFull (P : Nat → Nat → Nat) (F : Nat → Nat → Int32) (A : Nat → Nat → Nat → Int32) (J : Nat → Nat → Nat → Int64) : Option (Int32) :=
  cond (g_cnd .lt (F 25 2) 30)
  (some (0))
  (some (1))
set_option maxRecDepth 10000 in
theorem t_e_Told_isFull {P : Nat → Nat → Nat} {F : Nat → Nat → Int32} {A : Nat → Nat → Nat → Int32} {J : Nat → Nat → Nat → Int64}   {w : Int32} : e_Told_isFull P F A J = some w → k_run t lg (d) 90 0 [(0, .ref (25 * 1024))] [] (c_h c B P F A J) (some (.int w), c_h c B P F A J) := by
  intro hD
  unfold e_Told_isFull at hD
  refine k_runB (pc' := 1) (loc' := [(0, .ref (25 * 1024))]) (st' := [.ref (25 * 1024)]) 1 rfl ?_
  refine k_gf 25 0 (K := 4) rfl rfl rfl rfl rfl ?_
  refine k_runB (pc' := 6) (loc' := [(0, .ref (25 * 1024))]) (st' := [.int 30, .int (F 25 2)]) 1 rfl ?_
  refine k_ic rfl (fun c6_0 => ?_) (fun c6_0 => ?_)
  · rw [c6_0, cond_true] at hD
    refine k_runB (pc' := 14) (loc' := [(0, .ref (25 * 1024))]) (st' := [.int 0]) 1 rfl ?_
    cases hD
    exact k_zret rfl rfl (Or.inl rfl)
  · rw [c6_0, cond_false] at hD
    refine k_runB (pc' := 14) (loc' := [(0, .ref (25 * 1024))]) (st' := [.int 1]) 2 rfl ?_
    cases hD
    exact k_zret rfl rfl (Or.inr rfl)
/-- SleepWork$Told.add(II)I  -/
def e_Told_add (P : Nat → Nat → Nat) (F : Nat → Nat → Int32) (A : Nat → Nat → Nat → Int32) (J : Nat → Nat → Nat → Int64) (x1 : Int32) (x2 : Int32) : Option (Int32 × (Nat → Nat → Nat) × (Nat → Nat → Int32) × (Nat → Nat → Nat → Int32) × (Nat → Nat → Nat → Int64)) :=
  (c_st A 25 1 30 (F 25 2) x1).bind fun A1 =>
  (c_st A1 25 2 30 (F 25 2) x2).bind fun A2 =>
  (c_pf F 25 2 ((F 25 2) + 1)).bind fun F3 =>
  some ((F3 25 2) - 1, P, F3, A2, J)
set_option maxRecDepth 10000 in
theorem t_e_Told_add (ht : ∀ ci k, t.1 ci k = k_ty ci k) {P : Nat → Nat → Nat} {F : Nat → Nat → Int32} {A : Nat → Nat → Nat → Int32} {J : Nat → Nat → Nat → Int64} {x1 : Int32} {x2 : Int32}  {w : Int32 × (Nat → Nat → Nat) × (Nat → Nat → Int32) × (Nat → Nat → Nat → Int32) × (Nat → Nat → Nat → Int64)} : e_Told_add P F A J x1 x2 = some w → k_run t lg (d) 91 0 [(0, .ref (25 * 1024)), (1, .int x1), (2, .int x2)] [] (c_h c B P F A J) (some (.int w.1), c_h c B w.2.1 w.2.2.1 w.2.2.2.1 w.2.2.2.2) := by
  intro hD
  unfold e_Told_add at hD
  refine k_runB (pc' := 1) (loc' := [(0, .ref (25 * 1024)), (1, .int x1), (2, .int x2)]) (st' := [.ref (25 * 1024)]) 1 rfl ?_
  refine k_gf 25 0 (K := 4) rfl rfl rfl rfl rfl ?_
  refine k_runB (pc' := 5) (loc' := [(0, .ref (25 * 1024)), (1, .int x1), (2, .int x2)]) (st' := [.ref (25 * 1024), .ref (25 * 1024 + 1)]) 1 rfl ?_
  refine k_gf 25 0 (K := 4) rfl rfl rfl rfl rfl ?_
  refine k_runB (pc' := 9) (loc' := [(0, .ref (25 * 1024)), (1, .int x1), (2, .int x2)]) (st' := [.int x1, .int (F 25 2), .ref (25 * 1024 + 1)]) 1 rfl ?_
  obtain ⟨A1, hA1, hD⟩ := Option.bind_eq_some_iff.mp hD
  refine k_cstI 25 1 (K := 4) rfl rfl rfl rfl (fun _ => rfl) hA1 ?_
  refine k_runB (pc' := 11) (loc' := [(0, .ref (25 * 1024)), (1, .int x1), (2, .int x2)]) (st' := [.ref (25 * 1024)]) 1 rfl ?_
  refine k_gf 25 0 (K := 4) rfl rfl rfl rfl rfl ?_
  refine k_runB (pc' := 15) (loc' := [(0, .ref (25 * 1024)), (1, .int x1), (2, .int x2)]) (st' := [.ref (25 * 1024), .ref (25 * 1024 + 2)]) 1 rfl ?_
  refine k_gf 25 0 (K := 4) rfl rfl rfl rfl rfl ?_
  refine k_runB (pc' := 19) (loc' := [(0, .ref (25 * 1024)), (1, .int x1), (2, .int x2)]) (st' := [.int x2, .int (F 25 2), .ref (25 * 1024 + 2)]) 1 rfl ?_
  obtain ⟨A2, hA2, hD⟩ := Option.bind_eq_some_iff.mp hD
  refine k_cstI 25 2 (K := 4) rfl rfl rfl rfl (fun _ => rfl) hA2 ?_
  refine k_runB (pc' := 22) (loc' := [(0, .ref (25 * 1024)), (1, .int x1), (2, .int x2)]) (st' := [.ref (25 * 1024), .ref (25 * 1024)]) 2 rfl ?_
  refine k_gf 25 0 (K := 4) rfl rfl rfl rfl rfl ?_
  refine k_runB (pc' := 27) (loc' := [(0, .ref (25 * 1024)), (1, .int x1), (2, .int x2)]) (st' := [.int ((F 25 2) + 1), .ref (25 * 1024)]) 2 rfl ?_
  obtain ⟨F3, hF3, hD⟩ := Option.bind_eq_some_iff.mp hD
  refine k_cpt 25 0 (K := 4) (key := 2) rfl rfl (ht 9 2) rfl rfl rfl hF3 ?_
  refine k_runB (pc' := 31) (loc' := [(0, .ref (25 * 1024)), (1, .int x1), (2, .int x2)]) (st' := [.ref (25 * 1024)]) 1 rfl ?_
  refine k_gf 25 0 (K := 4) rfl rfl rfl rfl rfl ?_
  refine k_runB (pc' := 36) (loc' := [(0, .ref (25 * 1024)), (1, .int x1), (2, .int x2)]) (st' := [.int ((F3 25 2) - 1)]) 2 rfl ?_
  cases hD
  exact k_iret rfl rfl
/-- SleepWork.feed(IIIII)I  -/
def e_SleepWork_feed (n : Nat) (P : Nat → Nat → Nat) (F : Nat → Nat → Int32) (A : Nat → Nat → Nat → Int32) (J : Nat → Nat → Nat → Int64) (x1 : Int32) (x2 : Int32) (x3 : Int32) (x4 : Int32) (x5 : Int32) : Option (Int32 × (Nat → Nat → Nat) × (Nat → Nat → Int32) × (Nat → Nat → Nat → Int32) × (Nat → Nat → Nat → Int64)) :=
  (e_Tape_hasSpace P F A J).bind fun v1 =>
  cond (g_cnd .ne v1 0)
  ((e_Tape_addWord n P F A J x1).bind fun (_, P4, F5, A6, J7) =>
  (e_Tape_addWord n P4 F5 A6 J7 x2).bind fun (_, P9, F10, A11, J12) =>
  (e_Tape_addWord n P9 F10 A11 J12 x3).bind fun (_, P14, F15, A16, J17) =>
  (e_Tape_addWord n P14 F15 A16 J17 x4).bind fun (_, P19, F20, A21, J22) =>
  (e_Tape_addWord n P19 F20 A21 J22 x5).bind fun (_, P24, F25, A26, J27) =>
  some (F25 1 1, P24, F25, A26, J27))
  (some ((-1), P, F, A, J))
set_option maxRecDepth 10000 in
theorem t_e_SleepWork_feed (ht : ∀ ci k, t.1 ci k = k_ty ci k) {n : Nat} {P : Nat → Nat → Nat} {F : Nat → Nat → Int32} {A : Nat → Nat → Nat → Int32} {J : Nat → Nat → Nat → Int64} {x1 : Int32} {x2 : Int32} {x3 : Int32} {x4 : Int32} {x5 : Int32}  {w : Int32 × (Nat → Nat → Nat) × (Nat → Nat → Int32) × (Nat → Nat → Nat → Int32) × (Nat → Nat → Nat → Int64)} : e_SleepWork_feed n P F A J x1 x2 x3 x4 x5 = some w → k_run t lg (d + 1) 99 0 [(0, .ref (0 * 1024)), (1, .int x1), (2, .int x2), (3, .int x3), (4, .int x4), (5, .int x5)] [] (c_h c B P F A J) (some (.int w.1), c_h c B w.2.1 w.2.2.1 w.2.2.2.1 w.2.2.2.2) := by
  intro hD
  unfold e_SleepWork_feed at hD
  refine k_runB (pc' := 1) (loc' := [(0, .ref (0 * 1024)), (1, .int x1), (2, .int x2), (3, .int x3), (4, .int x4), (5, .int x5)]) (st' := [.ref (0 * 1024)]) 1 rfl ?_
  refine k_gf 0 0 (K := 0) rfl rfl rfl rfl rfl ?_
  obtain ⟨v1, hv1, hD⟩ := Option.bind_eq_some_iff.mp hD
  refine k_runV rfl rfl rfl (c_get (r := 1) (o := 0) (K := 1) rfl (by decide)) rfl rfl (t_e_Tape_hasSpace (d := d) hv1) ?_
  refine k_if rfl (fun c7_1 => ?_) (fun c7_1 => ?_)
  · rw [c7_1, cond_true] at hD
    refine k_runB (pc' := 13) (loc' := [(0, .ref (0 * 1024)), (1, .int x1), (2, .int x2), (3, .int x3), (4, .int x4), (5, .int x5)]) (st' := [.ref (0 * 1024)]) 1 rfl ?_
    refine k_gf 0 0 (K := 0) rfl rfl rfl rfl rfl ?_
    refine k_runB (pc' := 17) (loc' := [(0, .ref (0 * 1024)), (1, .int x1), (2, .int x2), (3, .int x3), (4, .int x4), (5, .int x5)]) (st' := [.int x1, .ref (1 * 1024)]) 1 rfl ?_
    obtain ⟨⟨v3, P4, F5, A6, J7⟩, hv3, hD⟩ := Option.bind_eq_some_iff.mp hD
    dsimp only at hD
    refine k_runV rfl rfl rfl (c_get (r := 1) (o := 0) (K := 1) rfl (by decide)) rfl rfl (t_e_Tape_addWord (d := d) ht hv3) ?_
    refine k_runB (pc' := 21) (loc' := [(0, .ref (0 * 1024)), (1, .int x1), (2, .int x2), (3, .int x3), (4, .int x4), (5, .int x5)]) (st' := [.ref (0 * 1024)]) 1 rfl ?_
    refine k_gf 0 0 (K := 0) rfl rfl rfl rfl rfl ?_
    refine k_runB (pc' := 25) (loc' := [(0, .ref (0 * 1024)), (1, .int x1), (2, .int x2), (3, .int x3), (4, .int x4), (5, .int x5)]) (st' := [.int x2, .ref (1 * 1024)]) 1 rfl ?_
    obtain ⟨⟨v8, P9, F10, A11, J12⟩, hv8, hD⟩ := Option.bind_eq_some_iff.mp hD
    dsimp only at hD
    refine k_runV rfl rfl rfl (c_get (r := 1) (o := 0) (K := 1) rfl (by decide)) rfl rfl (t_e_Tape_addWord (d := d) ht hv8) ?_
    refine k_runB (pc' := 29) (loc' := [(0, .ref (0 * 1024)), (1, .int x1), (2, .int x2), (3, .int x3), (4, .int x4), (5, .int x5)]) (st' := [.ref (0 * 1024)]) 1 rfl ?_
    refine k_gf 0 0 (K := 0) rfl rfl rfl rfl rfl ?_
    refine k_runB (pc' := 33) (loc' := [(0, .ref (0 * 1024)), (1, .int x1), (2, .int x2), (3, .int x3), (4, .int x4), (5, .int x5)]) (st' := [.int x3, .ref (1 * 1024)]) 1 rfl ?_
    obtain ⟨⟨v13, P14, F15, A16, J17⟩, hv13, hD⟩ := Option.bind_eq_some_iff.mp hD
    dsimp only at hD
    refine k_runV rfl rfl rfl (c_get (r := 1) (o := 0) (K := 1) rfl (by decide)) rfl rfl (t_e_Tape_addWord (d := d) ht hv13) ?_
    refine k_runB (pc' := 37) (loc' := [(0, .ref (0 * 1024)), (1, .int x1), (2, .int x2), (3, .int x3), (4, .int x4), (5, .int x5)]) (st' := [.ref (0 * 1024)]) 1 rfl ?_
    refine k_gf 0 0 (K := 0) rfl rfl rfl rfl rfl ?_
    refine k_runB (pc' := 42) (loc' := [(0, .ref (0 * 1024)), (1, .int x1), (2, .int x2), (3, .int x3), (4, .int x4), (5, .int x5)]) (st' := [.int x4, .ref (1 * 1024)]) 1 rfl ?_
    obtain ⟨⟨v18, P19, F20, A21, J22⟩, hv18, hD⟩ := Option.bind_eq_some_iff.mp hD
    dsimp only at hD
    refine k_runV rfl rfl rfl (c_get (r := 1) (o := 0) (K := 1) rfl (by decide)) rfl rfl (t_e_Tape_addWord (d := d) ht hv18) ?_
    refine k_runB (pc' := 46) (loc' := [(0, .ref (0 * 1024)), (1, .int x1), (2, .int x2), (3, .int x3), (4, .int x4), (5, .int x5)]) (st' := [.ref (0 * 1024)]) 1 rfl ?_
    refine k_gf 0 0 (K := 0) rfl rfl rfl rfl rfl ?_
    refine k_runB (pc' := 51) (loc' := [(0, .ref (0 * 1024)), (1, .int x1), (2, .int x2), (3, .int x3), (4, .int x4), (5, .int x5)]) (st' := [.int x5, .ref (1 * 1024)]) 1 rfl ?_
    obtain ⟨⟨v23, P24, F25, A26, J27⟩, hv23, hD⟩ := Option.bind_eq_some_iff.mp hD
    dsimp only at hD
    refine k_runV rfl rfl rfl (c_get (r := 1) (o := 0) (K := 1) rfl (by decide)) rfl rfl (t_e_Tape_addWord (d := d) ht hv23) ?_
    refine k_runB (pc' := 55) (loc' := [(0, .ref (0 * 1024)), (1, .int x1), (2, .int x2), (3, .int x3), (4, .int x4), (5, .int x5)]) (st' := [.ref (0 * 1024)]) 1 rfl ?_
    refine k_gf 0 0 (K := 0) rfl rfl rfl rfl rfl ?_
    refine k_gf 1 0 (K := 1) rfl rfl rfl rfl rfl ?_
    cases hD
    exact k_iret rfl rfl
  · rw [c7_1, cond_false] at hD
    refine k_runB (pc' := 11) (loc' := [(0, .ref (0 * 1024)), (1, .int x1), (2, .int x2), (3, .int x3), (4, .int x4), (5, .int x5)]) (st' := [.int ((-1))]) 1 rfl ?_
    cases hD
    exact k_iret rfl rfl
/-- SleepWork.back(I)I  -/
def e_SleepWork_back (P : Nat → Nat → Nat) (F : Nat → Nat → Int32) (A : Nat → Nat → Nat → Int32) (J : Nat → Nat → Nat → Int64) (x1 : Int32) : Option (Int32 × (Nat → Nat → Nat) × (Nat → Nat → Int32) × (Nat → Nat → Nat → Int32) × (Nat → Nat → Nat → Int64)) :=
  cond (g_cnd .lt x1 0)
  (some ((-1), P, F, A, J))
  (cond (g_cnd .le x1 (F 1 1))
  ((c_pf F 1 1 ((F 1 1) - x1)).bind fun F3 =>
  some (F3 1 1, P, F3, A, J))
  (some ((-1), P, F, A, J)))
set_option maxRecDepth 10000 in
theorem t_e_SleepWork_back (ht : ∀ ci k, t.1 ci k = k_ty ci k) {P : Nat → Nat → Nat} {F : Nat → Nat → Int32} {A : Nat → Nat → Nat → Int32} {J : Nat → Nat → Nat → Int64} {x1 : Int32}  {w : Int32 × (Nat → Nat → Nat) × (Nat → Nat → Int32) × (Nat → Nat → Nat → Int32) × (Nat → Nat → Nat → Int64)} : e_SleepWork_back P F A J x1 = some w → k_run t lg (d) 100 0 [(0, .ref (0 * 1024)), (1, .int x1)] [] (c_h c B P F A J) (some (.int w.1), c_h c B w.2.1 w.2.2.1 w.2.2.2.1 w.2.2.2.2) := by
  intro hD
  unfold e_SleepWork_back at hD
  refine k_runB (pc' := 1) (loc' := [(0, .ref (0 * 1024)), (1, .int x1)]) (st' := [.int x1]) 1 rfl ?_
  refine k_if rfl (fun c1_0 => ?_) (fun c1_0 => ?_)
  · rw [c1_0, cond_true] at hD
    refine k_runB (pc' := 16) (loc' := [(0, .ref (0 * 1024)), (1, .int x1)]) (st' := [.int ((-1))]) 1 rfl ?_
    cases hD
    exact k_iret rfl rfl
  · rw [c1_0, cond_false] at hD
    refine k_runB (pc' := 6) (loc' := [(0, .ref (0 * 1024)), (1, .int x1)]) (st' := [.ref (0 * 1024), .int x1]) 2 rfl ?_
    refine k_gf 0 0 (K := 0) rfl rfl rfl rfl rfl ?_
    refine k_gf 1 0 (K := 1) rfl rfl rfl rfl rfl ?_
    refine k_ic rfl (fun c12_1 => ?_) (fun c12_1 => ?_)
    · rw [c12_1, cond_true] at hD
      refine k_runB (pc' := 18) (loc' := [(0, .ref (0 * 1024)), (1, .int x1)]) (st' := [.ref (0 * 1024)]) 1 rfl ?_
      refine k_gf 0 0 (K := 0) rfl rfl rfl rfl rfl ?_
      refine k_runB (pc' := 22) (loc' := [(0, .ref (0 * 1024)), (1, .int x1)]) (st' := [.ref (1 * 1024), .ref (1 * 1024)]) 1 rfl ?_
      refine k_gf 1 0 (K := 1) rfl rfl rfl rfl rfl ?_
      refine k_runB (pc' := 27) (loc' := [(0, .ref (0 * 1024)), (1, .int x1)]) (st' := [.int ((F 1 1) - x1), .ref (1 * 1024)]) 2 rfl ?_
      obtain ⟨F3, hF3, hD⟩ := Option.bind_eq_some_iff.mp hD
      refine k_cpt 1 0 (K := 1) (key := 1) rfl rfl (ht 8 1) rfl rfl rfl hF3 ?_
      refine k_runB (pc' := 31) (loc' := [(0, .ref (0 * 1024)), (1, .int x1)]) (st' := [.ref (0 * 1024)]) 1 rfl ?_
      refine k_gf 0 0 (K := 0) rfl rfl rfl rfl rfl ?_
      refine k_gf 1 0 (K := 1) rfl rfl rfl rfl rfl ?_
      cases hD
      exact k_iret rfl rfl
    · rw [c12_1, cond_false] at hD
      refine k_runB (pc' := 16) (loc' := [(0, .ref (0 * 1024)), (1, .int x1)]) (st' := [.int ((-1))]) 1 rfl ?_
      cases hD
      exact k_iret rfl rfl
/-- SleepWork.moveIn()V  -/
def e_SleepWork_moveIn (P : Nat → Nat → Nat) (F : Nat → Nat → Int32) (A : Nat → Nat → Nat → Int32) (J : Nat → Nat → Nat → Int64) : Option (Unit × (Nat → Nat → Nat) × (Nat → Nat → Int32) × (Nat → Nat → Nat → Int32) × (Nat → Nat → Nat → Int64)) :=
  (c_chk 6 (P 0 8)).bind fun q1 =>
  (c_chk 6 (P 0 9)).bind fun q2 =>
  (c_pp P 0 8 q2).bind fun P3 =>
  (c_pp P3 0 9 q1).bind fun P4 =>
  (e_State_copy P4 F A J 2 3).bind fun (_, P6, F7, A8, J9) =>
  (c_pf F7 4 2 0).bind fun F10 =>
  (c_pf F10 25 2 0).bind fun F11 =>
  (c_pf F11 0 10 0).bind fun F12 =>
  (c_chk 6 (P6 0 8)).bind fun q13 =>
  (e_Evening_enter P6 F12 A8 J9 q13).bind fun (_, P15, F16, A17, J18) =>
  some ((), P15, F16, A17, J18)
set_option maxRecDepth 10000 in
theorem t_e_SleepWork_moveIn (ht : ∀ ci k, t.1 ci k = k_ty ci k) {P : Nat → Nat → Nat} {F : Nat → Nat → Int32} {A : Nat → Nat → Nat → Int32} {J : Nat → Nat → Nat → Int64}   {w : Unit × (Nat → Nat → Nat) × (Nat → Nat → Int32) × (Nat → Nat → Nat → Int32) × (Nat → Nat → Nat → Int64)} : e_SleepWork_moveIn P F A J = some w → k_run t lg (d + 2) 102 0 [(0, .ref (0 * 1024))] [] (c_h c B P F A J) (none, c_h c B w.2.1 w.2.2.1 w.2.2.2.1 w.2.2.2.2) := by
  intro hD
  unfold e_SleepWork_moveIn at hD
  refine k_runB (pc' := 1) (loc' := [(0, .ref (0 * 1024))]) (st' := [.ref (0 * 1024)]) 1 rfl ?_
  obtain ⟨q1, hq1, hD⟩ := Option.bind_eq_some_iff.mp hD
  refine k_gq 0 0 (K := 0) (K2 := 6) (key := 8) rfl rfl rfl rfl rfl hq1 (fun kq1 => ?_)
  refine k_runB (pc' := 7) (loc' := [(0, .ref (0 * 1024)), (1, .ref (q1 * 1024))]) (st' := [.ref (0 * 1024), .ref (0 * 1024)]) 3 rfl ?_
  obtain ⟨q2, hq2, hD⟩ := Option.bind_eq_some_iff.mp hD
  refine k_gq 0 0 (K := 0) (K2 := 6) (key := 9) rfl rfl rfl rfl rfl hq2 (fun kq2 => ?_)
  obtain ⟨P3, hP3, hD⟩ := Option.bind_eq_some_iff.mp hD
  refine k_cpp 0 0 (K := 0) (key := 8) (C := "SleepWork$House") (q := q2) rfl rfl (ht 11 8) rfl rfl rfl hP3 ?_
  refine k_runB (pc' := 15) (loc' := [(0, .ref (0 * 1024)), (1, .ref (q1 * 1024))]) (st' := [.ref (q1 * 1024), .ref (0 * 1024)]) 2 rfl ?_
  obtain ⟨P4, hP4, hD⟩ := Option.bind_eq_some_iff.mp hD
  refine k_cpp 0 0 (K := 0) (key := 9) (C := "SleepWork$House") (q := q1) rfl rfl (ht 11 9) rfl rfl rfl hP4 ?_
  refine k_runB (pc' := 19) (loc' := [(0, .ref (0 * 1024)), (1, .ref (q1 * 1024))]) (st' := [.ref (0 * 1024)]) 1 rfl ?_
  refine k_gf 0 0 (K := 0) rfl rfl rfl rfl rfl ?_
  refine k_runB (pc' := 23) (loc' := [(0, .ref (0 * 1024)), (1, .ref (q1 * 1024))]) (st' := [.ref (0 * 1024), .ref (2 * 1024)]) 1 rfl ?_
  refine k_gf 0 0 (K := 0) rfl rfl rfl rfl rfl ?_
  obtain ⟨⟨v5, P6, F7, A8, J9⟩, hv5, hD⟩ := Option.bind_eq_some_iff.mp hD
  dsimp only at hD
  refine k_runV rfl rfl rfl (c_get (r := 2) (o := 0) (K := 2) rfl (by decide)) rfl rfl (t_e_State_copy (d := d + 1) ht rfl rfl hv5) ?_
  refine k_runB (pc' := 30) (loc' := [(0, .ref (0 * 1024)), (1, .ref (q1 * 1024))]) (st' := [.ref (0 * 1024)]) 1 rfl ?_
  refine k_gf 0 0 (K := 0) rfl rfl rfl rfl rfl ?_
  refine k_runB (pc' := 34) (loc' := [(0, .ref (0 * 1024)), (1, .ref (q1 * 1024))]) (st' := [.int 0, .ref (4 * 1024)]) 1 rfl ?_
  obtain ⟨F10, hF10, hD⟩ := Option.bind_eq_some_iff.mp hD
  refine k_cpt 4 0 (K := 3) (key := 2) rfl rfl (ht 3 2) rfl rfl rfl hF10 ?_
  refine k_runB (pc' := 38) (loc' := [(0, .ref (0 * 1024)), (1, .ref (q1 * 1024))]) (st' := [.ref (0 * 1024)]) 1 rfl ?_
  refine k_gf 0 0 (K := 0) rfl rfl rfl rfl rfl ?_
  refine k_runB (pc' := 42) (loc' := [(0, .ref (0 * 1024)), (1, .ref (q1 * 1024))]) (st' := [.int 0, .ref (25 * 1024)]) 1 rfl ?_
  obtain ⟨F11, hF11, hD⟩ := Option.bind_eq_some_iff.mp hD
  refine k_cpt 25 0 (K := 4) (key := 2) rfl rfl (ht 9 2) rfl rfl rfl hF11 ?_
  refine k_runB (pc' := 47) (loc' := [(0, .ref (0 * 1024)), (1, .ref (q1 * 1024))]) (st' := [.int 0, .ref (0 * 1024)]) 2 rfl ?_
  obtain ⟨F12, hF12, hD⟩ := Option.bind_eq_some_iff.mp hD
  refine k_cpt 0 0 (K := 0) (key := 10) rfl rfl (ht 11 10) rfl rfl rfl hF12 ?_
  refine k_runB (pc' := 51) (loc' := [(0, .ref (0 * 1024)), (1, .ref (q1 * 1024))]) (st' := [.ref (0 * 1024)]) 1 rfl ?_
  refine k_gf 0 0 (K := 0) rfl rfl rfl rfl rfl ?_
  refine k_runB (pc' := 55) (loc' := [(0, .ref (0 * 1024)), (1, .ref (q1 * 1024))]) (st' := [.ref (0 * 1024), .ref (32 * 1024)]) 1 rfl ?_
  obtain ⟨q13, hq13, hD⟩ := Option.bind_eq_some_iff.mp hD
  refine k_gq 0 0 (K := 0) (K2 := 6) (key := 8) rfl rfl rfl rfl rfl hq13 (fun kq13 => ?_)
  obtain ⟨⟨v14, P15, F16, A17, J18⟩, hv14, hD⟩ := Option.bind_eq_some_iff.mp hD
  dsimp only at hD
  refine k_runV rfl rfl rfl (c_get (r := 32) (o := 0) (K := 7) rfl (by decide)) rfl rfl (t_e_Evening_enter (d := d) ht kq13 hv14) ?_
  cases hD
  exact k_vret rfl rfl
/-- SleepWork.read()I  -/
def e_SleepWork_read (n : Nat) (P : Nat → Nat → Nat) (F : Nat → Nat → Int32) (A : Nat → Nat → Nat → Int32) (J : Nat → Nat → Nat → Int64) : Option (Int32 × (Nat → Nat → Nat) × (Nat → Nat → Int32) × (Nat → Nat → Nat → Int32) × (Nat → Nat → Nat → Int64)) :=
  (c_chk 6 (P 0 9)).bind fun q1 =>
  (e_Reader_readText n P F A J q1 3).bind fun (v2, P3, F4, A5, J6) =>
  (e_Reader_placeOfFault P3 F4 A5 J6).bind fun v7 =>
  (c_pf F4 0 11 v7).bind fun F8 =>
  (c_pf F8 1 1 0).bind fun F9 =>
  cond (g_cnd .ne v2 0)
  (some (v2, P3, F9, A5, J6))
  ((e_SleepWork_moveIn P3 F9 A5 J6).bind fun (_, P12, F13, A14, J15) =>
  some (v2, P12, F13, A14, J15))
set_option maxRecDepth 10000 in
theorem t_e_SleepWork_read (ht : ∀ ci k, t.1 ci k = k_ty ci k) {n : Nat} {P : Nat → Nat → Nat} {F : Nat → Nat → Int32} {A : Nat → Nat → Nat → Int32} {J : Nat → Nat → Nat → Int64}   {w : Int32 × (Nat → Nat → Nat) × (Nat → Nat → Int32) × (Nat → Nat → Nat → Int32) × (Nat → Nat → Nat → Int64)} : e_SleepWork_read n P F A J = some w → k_run t lg (d + 24) 101 0 [(0, .ref (0 * 1024))] [] (c_h c B P F A J) (some (.int w.1), c_h c B w.2.1 w.2.2.1 w.2.2.2.1 w.2.2.2.2) := by
  intro hD
  unfold e_SleepWork_read at hD
  refine k_runB (pc' := 1) (loc' := [(0, .ref (0 * 1024))]) (st' := [.ref (0 * 1024)]) 1 rfl ?_
  refine k_gf 0 0 (K := 0) rfl rfl rfl rfl rfl ?_
  refine k_runB (pc' := 5) (loc' := [(0, .ref (0 * 1024))]) (st' := [.ref (0 * 1024), .ref (37 * 1024)]) 1 rfl ?_
  refine k_gf 0 0 (K := 0) rfl rfl rfl rfl rfl ?_
  refine k_runB (pc' := 9) (loc' := [(0, .ref (0 * 1024))]) (st' := [.ref (0 * 1024), .ref (1 * 1024), .ref (37 * 1024)]) 1 rfl ?_
  obtain ⟨q1, hq1, hD⟩ := Option.bind_eq_some_iff.mp hD
  refine k_gq 0 0 (K := 0) (K2 := 6) (key := 9) rfl rfl rfl rfl rfl hq1 (fun kq1 => ?_)
  refine k_runB (pc' := 13) (loc' := [(0, .ref (0 * 1024))]) (st' := [.ref (0 * 1024), .ref (q1 * 1024), .ref (1 * 1024), .ref (37 * 1024)]) 1 rfl ?_
  refine k_gf 0 0 (K := 0) rfl rfl rfl rfl rfl ?_
  obtain ⟨⟨v2, P3, F4, A5, J6⟩, hv2, hD⟩ := Option.bind_eq_some_iff.mp hD
  dsimp only at hD
  refine k_runV rfl rfl rfl (c_get (r := 37) (o := 0) (K := 11) rfl (by decide)) rfl rfl (t_e_Reader_readText (d := d) ht kq1 rfl hv2) ?_
  refine k_runB (pc' := 22) (loc' := [(0, .ref (0 * 1024)), (1, .int v2)]) (st' := [.ref (0 * 1024), .ref (0 * 1024)]) 3 rfl ?_
  refine k_gf 0 0 (K := 0) rfl rfl rfl rfl rfl ?_
  obtain ⟨v7, hv7, hD⟩ := Option.bind_eq_some_iff.mp hD
  refine k_runV rfl rfl rfl (c_get (r := 37) (o := 0) (K := 11) rfl (by decide)) rfl rfl (t_e_Reader_placeOfFault (d := d + 23) hv7) ?_
  obtain ⟨F8, hF8, hD⟩ := Option.bind_eq_some_iff.mp hD
  refine k_cpt 0 0 (K := 0) (key := 11) rfl rfl (ht 11 11) rfl rfl rfl hF8 ?_
  refine k_runB (pc' := 32) (loc' := [(0, .ref (0 * 1024)), (1, .int v2)]) (st' := [.ref (0 * 1024)]) 1 rfl ?_
  refine k_gf 0 0 (K := 0) rfl rfl rfl rfl rfl ?_
  refine k_runB (pc' := 36) (loc' := [(0, .ref (0 * 1024)), (1, .int v2)]) (st' := [.int 0, .ref (1 * 1024)]) 1 rfl ?_
  obtain ⟨F9, hF9, hD⟩ := Option.bind_eq_some_iff.mp hD
  refine k_cpt 1 0 (K := 1) (key := 1) rfl rfl (ht 8 1) rfl rfl rfl hF9 ?_
  refine k_runB (pc' := 40) (loc' := [(0, .ref (0 * 1024)), (1, .int v2)]) (st' := [.int v2]) 1 rfl ?_
  refine k_if rfl (fun c40_9 => ?_) (fun c40_9 => ?_)
  · rw [c40_9, cond_true] at hD
    refine k_runB (pc' := 48) (loc' := [(0, .ref (0 * 1024)), (1, .int v2)]) (st' := [.int v2]) 1 rfl ?_
    cases hD
    exact k_iret rfl rfl
  · rw [c40_9, cond_false] at hD
    refine k_runB (pc' := 44) (loc' := [(0, .ref (0 * 1024)), (1, .int v2)]) (st' := [.ref (0 * 1024)]) 1 rfl ?_
    obtain ⟨⟨v11, P12, F13, A14, J15⟩, hv11, hD⟩ := Option.bind_eq_some_iff.mp hD
    dsimp only at hD
    refine k_runV rfl rfl rfl (c_get (r := 0) (o := 0) (K := 0) rfl (by decide)) rfl rfl (t_e_SleepWork_moveIn (d := d + 21) ht hv11) ?_
    refine k_runB (pc' := 48) (loc' := [(0, .ref (0 * 1024)), (1, .int v2)]) (st' := [.int v2]) 1 rfl ?_
    cases hD
    exact k_iret rfl rfl
/-- SleepWork.place()I  -/
def e_SleepWork_place (P : Nat → Nat → Nat) (F : Nat → Nat → Int32) (A : Nat → Nat → Nat → Int32) (J : Nat → Nat → Nat → Int64) : Option (Int32) :=
  some (F 0 11)
set_option maxRecDepth 10000 in
theorem t_e_SleepWork_place {P : Nat → Nat → Nat} {F : Nat → Nat → Int32} {A : Nat → Nat → Nat → Int32} {J : Nat → Nat → Nat → Int64}   {w : Int32} : e_SleepWork_place P F A J = some w → k_run t lg (d) 103 0 [(0, .ref (0 * 1024))] [] (c_h c B P F A J) (some (.int w), c_h c B P F A J) := by
  intro hD
  unfold e_SleepWork_place at hD
  refine k_runB (pc' := 1) (loc' := [(0, .ref (0 * 1024))]) (st' := [.ref (0 * 1024)]) 1 rfl ?_
  refine k_gf 0 0 (K := 0) rfl rfl rfl rfl rfl ?_
  cases hD
  exact k_iret rfl rfl
/-- SleepWork.task(II)I  -/
def e_SleepWork_task (n : Nat) (P : Nat → Nat → Nat) (F : Nat → Nat → Int32) (A : Nat → Nat → Nat → Int32) (J : Nat → Nat → Nat → Int64) (x1 : Int32) (x2 : Int32) : Option (Int32) :=
  cond (g_cnd .lt x1 0)
  (some ((-1)))
  ((c_chk 6 (P 0 8)).bind fun q2 =>
  cond (g_cnd .lt x1 (F q2 16))
  (cond (decide (x2 = 0))
  ((c_chk 6 (P 0 8)).bind fun q5 =>
  (m_ld (A q5 4) 6 x1).bind fun v6 =>
  some (v6))
  (cond (decide (x2 = 1))
  ((c_chk 6 (P 0 8)).bind fun q7 =>
  (m_ld (A q7 5) 6 x1).bind fun v8 =>
  some (v8))
  (cond (decide (x2 = 2))
  ((m_ld (A 2 2) 6 x1).bind fun v9 =>
  some (v9))
  (cond (decide (x2 = 3))
  ((c_chk 6 (P 0 8)).bind fun q10 =>
  (e_House_worth n P F A J q10 2 x1).bind fun v11 =>
  some (v11))
  (cond (decide (x2 = 4))
  ((c_chk 6 (P 0 8)).bind fun q12 =>
  (e_House_isEnded n P F A J q12 2 x1).bind fun v13 =>
  cond (g_cnd .eq v13 0)
  (some (0))
  (some (1)))
  (some ((-1))))))))
  (some ((-1))))
set_option maxRecDepth 10000 in
theorem t_e_SleepWork_task {n : Nat} {P : Nat → Nat → Nat} {F : Nat → Nat → Int32} {A : Nat → Nat → Nat → Int32} {J : Nat → Nat → Nat → Int64} {x1 : Int32} {x2 : Int32}  {w : Int32} : e_SleepWork_task n P F A J x1 x2 = some w → k_run t lg (d + 1) 104 0 [(0, .ref (0 * 1024)), (1, .int x1), (2, .int x2)] [] (c_h c B P F A J) (some (.int w), c_h c B P F A J) := by
  intro hD
  unfold e_SleepWork_task at hD
  refine k_runB (pc' := 1) (loc' := [(0, .ref (0 * 1024)), (1, .int x1), (2, .int x2)]) (st' := [.int x1]) 1 rfl ?_
  refine k_if rfl (fun c1_0 => ?_) (fun c1_0 => ?_)
  · rw [c1_0, cond_true] at hD
    refine k_runB (pc' := 16) (loc' := [(0, .ref (0 * 1024)), (1, .int x1), (2, .int x2)]) (st' := [.int ((-1))]) 1 rfl ?_
    cases hD
    exact k_iret rfl rfl
  · rw [c1_0, cond_false] at hD
    refine k_runB (pc' := 6) (loc' := [(0, .ref (0 * 1024)), (1, .int x1), (2, .int x2)]) (st' := [.ref (0 * 1024), .int x1]) 2 rfl ?_
    obtain ⟨q2, hq2, hD⟩ := Option.bind_eq_some_iff.mp hD
    refine k_gq 0 0 (K := 0) (K2 := 6) (key := 8) rfl rfl rfl rfl rfl hq2 (fun kq2 => ?_)
    refine k_gf q2 0 (K := 6) kq2 rfl rfl rfl rfl ?_
    refine k_ic rfl (fun c12_2 => ?_) (fun c12_2 => ?_)
    · rw [c12_2, cond_true] at hD
      refine k_runB (pc' := 18) (loc' := [(0, .ref (0 * 1024)), (1, .int x1), (2, .int x2)]) (st' := [.int x2]) 1 rfl ?_
      cases c18_3_0 : decide (x2 = 0) with
      | true =>
        rw [c18_3_0, cond_true] at hD
        refine k_tab (tgt := 52) rfl (by rw [of_decide_eq_true c18_3_0]; decide) ?_
        refine k_runB (pc' := 53) (loc' := [(0, .ref (0 * 1024)), (1, .int x1), (2, .int x2)]) (st' := [.ref (0 * 1024)]) 1 rfl ?_
        obtain ⟨q5, hq5, hD⟩ := Option.bind_eq_some_iff.mp hD
        refine k_gq 0 0 (K := 0) (K2 := 6) (key := 8) rfl rfl rfl rfl rfl hq5 (fun kq5 => ?_)
        refine k_gf q5 0 (K := 6) kq5 rfl rfl rfl rfl ?_
        refine k_runB (pc' := 60) (loc' := [(0, .ref (0 * 1024)), (1, .int x1), (2, .int x2)]) (st' := [.int x1, .ref (q5 * 1024 + 4)]) 1 rfl ?_
        obtain ⟨v6, hv6, hD⟩ := Option.bind_eq_some_iff.mp hD
        refine k_ldI rfl (c_get (r := q5) (o := 4) (K := 6) kq5 (by decide)) hv6 ?_
        cases hD
        exact k_iret rfl rfl
      | false =>
        rw [c18_3_0, cond_false] at hD
        cases c18_3_1 : decide (x2 = 1) with
        | true =>
          rw [c18_3_1, cond_true] at hD
          refine k_tab (tgt := 62) rfl (by rw [of_decide_eq_true c18_3_1]; decide) ?_
          refine k_runB (pc' := 63) (loc' := [(0, .ref (0 * 1024)), (1, .int x1), (2, .int x2)]) (st' := [.ref (0 * 1024)]) 1 rfl ?_
          obtain ⟨q7, hq7, hD⟩ := Option.bind_eq_some_iff.mp hD
          refine k_gq 0 0 (K := 0) (K2 := 6) (key := 8) rfl rfl rfl rfl rfl hq7 (fun kq7 => ?_)
          refine k_gf q7 0 (K := 6) kq7 rfl rfl rfl rfl ?_
          refine k_runB (pc' := 70) (loc' := [(0, .ref (0 * 1024)), (1, .int x1), (2, .int x2)]) (st' := [.int x1, .ref (q7 * 1024 + 5)]) 1 rfl ?_
          obtain ⟨v8, hv8, hD⟩ := Option.bind_eq_some_iff.mp hD
          refine k_ldI rfl (c_get (r := q7) (o := 5) (K := 6) kq7 (by decide)) hv8 ?_
          cases hD
          exact k_iret rfl rfl
        | false =>
          rw [c18_3_1, cond_false] at hD
          cases c18_3_2 : decide (x2 = 2) with
          | true =>
            rw [c18_3_2, cond_true] at hD
            refine k_tab (tgt := 72) rfl (by rw [of_decide_eq_true c18_3_2]; decide) ?_
            refine k_runB (pc' := 73) (loc' := [(0, .ref (0 * 1024)), (1, .int x1), (2, .int x2)]) (st' := [.ref (0 * 1024)]) 1 rfl ?_
            refine k_gf 0 0 (K := 0) rfl rfl rfl rfl rfl ?_
            refine k_gf 2 0 (K := 2) rfl rfl rfl rfl rfl ?_
            refine k_runB (pc' := 80) (loc' := [(0, .ref (0 * 1024)), (1, .int x1), (2, .int x2)]) (st' := [.int x1, .ref (2 * 1024 + 2)]) 1 rfl ?_
            obtain ⟨v9, hv9, hD⟩ := Option.bind_eq_some_iff.mp hD
            refine k_ldI rfl (c_get (r := 2) (o := 2) (K := 2) rfl (by decide)) hv9 ?_
            cases hD
            exact k_iret rfl rfl
          | false =>
            rw [c18_3_2, cond_false] at hD
            cases c18_3_3 : decide (x2 = 3) with
            | true =>
              rw [c18_3_3, cond_true] at hD
              refine k_tab (tgt := 82) rfl (by rw [of_decide_eq_true c18_3_3]; decide) ?_
              refine k_runB (pc' := 83) (loc' := [(0, .ref (0 * 1024)), (1, .int x1), (2, .int x2)]) (st' := [.ref (0 * 1024)]) 1 rfl ?_
              obtain ⟨q10, hq10, hD⟩ := Option.bind_eq_some_iff.mp hD
              refine k_gq 0 0 (K := 0) (K2 := 6) (key := 8) rfl rfl rfl rfl rfl hq10 (fun kq10 => ?_)
              refine k_runB (pc' := 87) (loc' := [(0, .ref (0 * 1024)), (1, .int x1), (2, .int x2)]) (st' := [.ref (0 * 1024), .ref (q10 * 1024)]) 1 rfl ?_
              refine k_gf 0 0 (K := 0) rfl rfl rfl rfl rfl ?_
              refine k_runB (pc' := 91) (loc' := [(0, .ref (0 * 1024)), (1, .int x1), (2, .int x2)]) (st' := [.int x1, .ref (2 * 1024), .ref (q10 * 1024)]) 1 rfl ?_
              obtain ⟨v11, hv11, hD⟩ := Option.bind_eq_some_iff.mp hD
              refine k_runV rfl rfl rfl (c_get (r := q10) (o := 0) (K := 6) kq10 (by decide)) rfl rfl (t_e_House_worth (d := d) kq10 rfl hv11) ?_
              cases hD
              exact k_iret rfl rfl
            | false =>
              rw [c18_3_3, cond_false] at hD
              cases c18_3_4 : decide (x2 = 4) with
              | true =>
                rw [c18_3_4, cond_true] at hD
                refine k_tab (tgt := 95) rfl (by rw [of_decide_eq_true c18_3_4]; decide) ?_
                refine k_runB (pc' := 96) (loc' := [(0, .ref (0 * 1024)), (1, .int x1), (2, .int x2)]) (st' := [.ref (0 * 1024)]) 1 rfl ?_
                obtain ⟨q12, hq12, hD⟩ := Option.bind_eq_some_iff.mp hD
                refine k_gq 0 0 (K := 0) (K2 := 6) (key := 8) rfl rfl rfl rfl rfl hq12 (fun kq12 => ?_)
                refine k_runB (pc' := 100) (loc' := [(0, .ref (0 * 1024)), (1, .int x1), (2, .int x2)]) (st' := [.ref (0 * 1024), .ref (q12 * 1024)]) 1 rfl ?_
                refine k_gf 0 0 (K := 0) rfl rfl rfl rfl rfl ?_
                refine k_runB (pc' := 104) (loc' := [(0, .ref (0 * 1024)), (1, .int x1), (2, .int x2)]) (st' := [.int x1, .ref (2 * 1024), .ref (q12 * 1024)]) 1 rfl ?_
                obtain ⟨v13, hv13, hD⟩ := Option.bind_eq_some_iff.mp hD
                refine k_runV rfl rfl rfl (c_get (r := q12) (o := 0) (K := 6) kq12 (by decide)) rfl rfl (t_e_House_isEnded (d := d) kq12 rfl hv13) ?_
                refine k_if rfl (fun c107_13 => ?_) (fun c107_13 => ?_)
                · rw [c107_13, cond_true] at hD
                  refine k_runB (pc' := 115) (loc' := [(0, .ref (0 * 1024)), (1, .int x1), (2, .int x2)]) (st' := [.int 0]) 1 rfl ?_
                  cases hD
                  exact k_iret rfl rfl
                · rw [c107_13, cond_false] at hD
                  refine k_runB (pc' := 115) (loc' := [(0, .ref (0 * 1024)), (1, .int x1), (2, .int x2)]) (st' := [.int 1]) 2 rfl ?_
                  cases hD
                  exact k_iret rfl rfl
              | false =>
                rw [c18_3_4, cond_false] at hD
                refine k_tab (tgt := 116) rfl (by rw [if_pos (m_out (lo := 0) (hi := 4) [0, 1, 2, 3, 4] (by decide) (by decide) (List.forall_mem_cons.mpr ⟨of_decide_eq_false c18_3_0, List.forall_mem_cons.mpr ⟨of_decide_eq_false c18_3_1, List.forall_mem_cons.mpr ⟨of_decide_eq_false c18_3_2, List.forall_mem_cons.mpr ⟨of_decide_eq_false c18_3_3, List.forall_mem_cons.mpr ⟨of_decide_eq_false c18_3_4, fun _ h => absurd h List.not_mem_nil⟩⟩⟩⟩⟩))]; rfl) ?_
                refine k_runB (pc' := 117) (loc' := [(0, .ref (0 * 1024)), (1, .int x1), (2, .int x2)]) (st' := [.int ((-1))]) 1 rfl ?_
                cases hD
                exact k_iret rfl rfl
    · rw [c12_2, cond_false] at hD
      refine k_runB (pc' := 16) (loc' := [(0, .ref (0 * 1024)), (1, .int x1), (2, .int x2)]) (st' := [.int ((-1))]) 1 rfl ?_
      cases hD
      exact k_iret rfl rfl
/-- SleepWork.step(III)I  -/
def e_SleepWork_step (P : Nat → Nat → Nat) (F : Nat → Nat → Int32) (A : Nat → Nat → Nat → Int32) (J : Nat → Nat → Nat → Int64) (x1 : Int32) (x2 : Int32) (x3 : Int32) : Option (Int32) :=
  (c_chk 6 (P 0 8)).bind fun q1 =>
  (e_House_hasStep P F A J q1 x1 x2).bind fun v2 =>
  cond (g_cnd .ne v2 0)
  (cond (decide (x3 = 0))
  ((m_ld (A 2 1) 36 ((x1 * 6) + x2)).bind fun v5 =>
  some (v5))
  (cond (decide (x3 = 1))
  ((c_chk 6 (P 0 8)).bind fun q6 =>
  (m_ld (A q6 6) 36 ((x1 * 6) + x2)).bind fun v7 =>
  some (v7))
  (cond (decide (x3 = 2))
  ((c_chk 6 (P 0 8)).bind fun q8 =>
  (m_ld (A q8 7) 36 ((x1 * 6) + x2)).bind fun v9 =>
  some (v9))
  (cond (decide (x3 = 3))
  ((c_chk 6 (P 0 8)).bind fun q10 =>
  (m_ld (A q10 8) 36 ((x1 * 6) + x2)).bind fun v11 =>
  some (v11))
  (cond (decide (x3 = 4))
  ((c_chk 6 (P 0 8)).bind fun q12 =>
  (m_ld (A q12 9) 36 ((x1 * 6) + x2)).bind fun v13 =>
  some (v13))
  (cond (decide (x3 = 5))
  ((c_chk 6 (P 0 8)).bind fun q14 =>
  (m_ld (A q14 10) 36 ((x1 * 6) + x2)).bind fun v15 =>
  some (v15))
  (cond (decide (x3 = 6))
  ((c_chk 6 (P 0 8)).bind fun q16 =>
  (m_ld (A q16 11) 36 ((x1 * 6) + x2)).bind fun v17 =>
  some (v17))
  (some ((-1))))))))))
  (some ((-1)))
set_option maxRecDepth 10000 in
theorem t_e_SleepWork_step {P : Nat → Nat → Nat} {F : Nat → Nat → Int32} {A : Nat → Nat → Nat → Int32} {J : Nat → Nat → Nat → Int64} {x1 : Int32} {x2 : Int32} {x3 : Int32}  {w : Int32} : e_SleepWork_step P F A J x1 x2 x3 = some w → k_run t lg (d + 1) 105 0 [(0, .ref (0 * 1024)), (1, .int x1), (2, .int x2), (3, .int x3)] [] (c_h c B P F A J) (some (.int w), c_h c B P F A J) := by
  intro hD
  unfold e_SleepWork_step at hD
  refine k_runB (pc' := 1) (loc' := [(0, .ref (0 * 1024)), (1, .int x1), (2, .int x2), (3, .int x3)]) (st' := [.ref (0 * 1024)]) 1 rfl ?_
  obtain ⟨q1, hq1, hD⟩ := Option.bind_eq_some_iff.mp hD
  refine k_gq 0 0 (K := 0) (K2 := 6) (key := 8) rfl rfl rfl rfl rfl hq1 (fun kq1 => ?_)
  refine k_runB (pc' := 6) (loc' := [(0, .ref (0 * 1024)), (1, .int x1), (2, .int x2), (3, .int x3)]) (st' := [.int x2, .int x1, .ref (q1 * 1024)]) 2 rfl ?_
  obtain ⟨v2, hv2, hD⟩ := Option.bind_eq_some_iff.mp hD
  refine k_runV rfl rfl rfl (c_get (r := q1) (o := 0) (K := 6) kq1 (by decide)) rfl rfl (t_e_House_hasStep (d := d) kq1 hv2) ?_
  refine k_if rfl (fun c9_2 => ?_) (fun c9_2 => ?_)
  · rw [c9_2, cond_true] at hD
    refine k_runB (pc' := 23) (loc' := [(0, .ref (0 * 1024)), (1, .int x1), (2, .int x2), (3, .int x3), (4, .int ((x1 * 6) + x2))]) (st' := [.int x3]) 7 rfl ?_
    cases c23_3_0 : decide (x3 = 0) with
    | true =>
      rw [c23_3_0, cond_true] at hD
      refine k_tab (tgt := 64) rfl (by rw [of_decide_eq_true c23_3_0]; decide) ?_
      refine k_runB (pc' := 65) (loc' := [(0, .ref (0 * 1024)), (1, .int x1), (2, .int x2), (3, .int x3), (4, .int ((x1 * 6) + x2))]) (st' := [.ref (0 * 1024)]) 1 rfl ?_
      refine k_gf 0 0 (K := 0) rfl rfl rfl rfl rfl ?_
      refine k_gf 2 0 (K := 2) rfl rfl rfl rfl rfl ?_
      refine k_runB (pc' := 73) (loc' := [(0, .ref (0 * 1024)), (1, .int x1), (2, .int x2), (3, .int x3), (4, .int ((x1 * 6) + x2))]) (st' := [.int ((x1 * 6) + x2), .ref (2 * 1024 + 1)]) 1 rfl ?_
      obtain ⟨v5, hv5, hD⟩ := Option.bind_eq_some_iff.mp hD
      refine k_ldI rfl (c_get (r := 2) (o := 1) (K := 2) rfl (by decide)) hv5 ?_
      cases hD
      exact k_iret rfl rfl
    | false =>
      rw [c23_3_0, cond_false] at hD
      cases c23_3_1 : decide (x3 = 1) with
      | true =>
        rw [c23_3_1, cond_true] at hD
        refine k_tab (tgt := 75) rfl (by rw [of_decide_eq_true c23_3_1]; decide) ?_
        refine k_runB (pc' := 76) (loc' := [(0, .ref (0 * 1024)), (1, .int x1), (2, .int x2), (3, .int x3), (4, .int ((x1 * 6) + x2))]) (st' := [.ref (0 * 1024)]) 1 rfl ?_
        obtain ⟨q6, hq6, hD⟩ := Option.bind_eq_some_iff.mp hD
        refine k_gq 0 0 (K := 0) (K2 := 6) (key := 8) rfl rfl rfl rfl rfl hq6 (fun kq6 => ?_)
        refine k_gf q6 0 (K := 6) kq6 rfl rfl rfl rfl ?_
        refine k_runB (pc' := 84) (loc' := [(0, .ref (0 * 1024)), (1, .int x1), (2, .int x2), (3, .int x3), (4, .int ((x1 * 6) + x2))]) (st' := [.int ((x1 * 6) + x2), .ref (q6 * 1024 + 6)]) 1 rfl ?_
        obtain ⟨v7, hv7, hD⟩ := Option.bind_eq_some_iff.mp hD
        refine k_ldI rfl (c_get (r := q6) (o := 6) (K := 6) kq6 (by decide)) hv7 ?_
        cases hD
        exact k_iret rfl rfl
      | false =>
        rw [c23_3_1, cond_false] at hD
        cases c23_3_2 : decide (x3 = 2) with
        | true =>
          rw [c23_3_2, cond_true] at hD
          refine k_tab (tgt := 86) rfl (by rw [of_decide_eq_true c23_3_2]; decide) ?_
          refine k_runB (pc' := 87) (loc' := [(0, .ref (0 * 1024)), (1, .int x1), (2, .int x2), (3, .int x3), (4, .int ((x1 * 6) + x2))]) (st' := [.ref (0 * 1024)]) 1 rfl ?_
          obtain ⟨q8, hq8, hD⟩ := Option.bind_eq_some_iff.mp hD
          refine k_gq 0 0 (K := 0) (K2 := 6) (key := 8) rfl rfl rfl rfl rfl hq8 (fun kq8 => ?_)
          refine k_gf q8 0 (K := 6) kq8 rfl rfl rfl rfl ?_
          refine k_runB (pc' := 95) (loc' := [(0, .ref (0 * 1024)), (1, .int x1), (2, .int x2), (3, .int x3), (4, .int ((x1 * 6) + x2))]) (st' := [.int ((x1 * 6) + x2), .ref (q8 * 1024 + 7)]) 1 rfl ?_
          obtain ⟨v9, hv9, hD⟩ := Option.bind_eq_some_iff.mp hD
          refine k_ldI rfl (c_get (r := q8) (o := 7) (K := 6) kq8 (by decide)) hv9 ?_
          cases hD
          exact k_iret rfl rfl
        | false =>
          rw [c23_3_2, cond_false] at hD
          cases c23_3_3 : decide (x3 = 3) with
          | true =>
            rw [c23_3_3, cond_true] at hD
            refine k_tab (tgt := 97) rfl (by rw [of_decide_eq_true c23_3_3]; decide) ?_
            refine k_runB (pc' := 98) (loc' := [(0, .ref (0 * 1024)), (1, .int x1), (2, .int x2), (3, .int x3), (4, .int ((x1 * 6) + x2))]) (st' := [.ref (0 * 1024)]) 1 rfl ?_
            obtain ⟨q10, hq10, hD⟩ := Option.bind_eq_some_iff.mp hD
            refine k_gq 0 0 (K := 0) (K2 := 6) (key := 8) rfl rfl rfl rfl rfl hq10 (fun kq10 => ?_)
            refine k_gf q10 0 (K := 6) kq10 rfl rfl rfl rfl ?_
            refine k_runB (pc' := 106) (loc' := [(0, .ref (0 * 1024)), (1, .int x1), (2, .int x2), (3, .int x3), (4, .int ((x1 * 6) + x2))]) (st' := [.int ((x1 * 6) + x2), .ref (q10 * 1024 + 8)]) 1 rfl ?_
            obtain ⟨v11, hv11, hD⟩ := Option.bind_eq_some_iff.mp hD
            refine k_ldI rfl (c_get (r := q10) (o := 8) (K := 6) kq10 (by decide)) hv11 ?_
            cases hD
            exact k_iret rfl rfl
          | false =>
            rw [c23_3_3, cond_false] at hD
            cases c23_3_4 : decide (x3 = 4) with
            | true =>
              rw [c23_3_4, cond_true] at hD
              refine k_tab (tgt := 108) rfl (by rw [of_decide_eq_true c23_3_4]; decide) ?_
              refine k_runB (pc' := 109) (loc' := [(0, .ref (0 * 1024)), (1, .int x1), (2, .int x2), (3, .int x3), (4, .int ((x1 * 6) + x2))]) (st' := [.ref (0 * 1024)]) 1 rfl ?_
              obtain ⟨q12, hq12, hD⟩ := Option.bind_eq_some_iff.mp hD
              refine k_gq 0 0 (K := 0) (K2 := 6) (key := 8) rfl rfl rfl rfl rfl hq12 (fun kq12 => ?_)
              refine k_gf q12 0 (K := 6) kq12 rfl rfl rfl rfl ?_
              refine k_runB (pc' := 117) (loc' := [(0, .ref (0 * 1024)), (1, .int x1), (2, .int x2), (3, .int x3), (4, .int ((x1 * 6) + x2))]) (st' := [.int ((x1 * 6) + x2), .ref (q12 * 1024 + 9)]) 1 rfl ?_
              obtain ⟨v13, hv13, hD⟩ := Option.bind_eq_some_iff.mp hD
              refine k_ldI rfl (c_get (r := q12) (o := 9) (K := 6) kq12 (by decide)) hv13 ?_
              cases hD
              exact k_iret rfl rfl
            | false =>
              rw [c23_3_4, cond_false] at hD
              cases c23_3_5 : decide (x3 = 5) with
              | true =>
                rw [c23_3_5, cond_true] at hD
                refine k_tab (tgt := 119) rfl (by rw [of_decide_eq_true c23_3_5]; decide) ?_
                refine k_runB (pc' := 120) (loc' := [(0, .ref (0 * 1024)), (1, .int x1), (2, .int x2), (3, .int x3), (4, .int ((x1 * 6) + x2))]) (st' := [.ref (0 * 1024)]) 1 rfl ?_
                obtain ⟨q14, hq14, hD⟩ := Option.bind_eq_some_iff.mp hD
                refine k_gq 0 0 (K := 0) (K2 := 6) (key := 8) rfl rfl rfl rfl rfl hq14 (fun kq14 => ?_)
                refine k_gf q14 0 (K := 6) kq14 rfl rfl rfl rfl ?_
                refine k_runB (pc' := 128) (loc' := [(0, .ref (0 * 1024)), (1, .int x1), (2, .int x2), (3, .int x3), (4, .int ((x1 * 6) + x2))]) (st' := [.int ((x1 * 6) + x2), .ref (q14 * 1024 + 10)]) 1 rfl ?_
                obtain ⟨v15, hv15, hD⟩ := Option.bind_eq_some_iff.mp hD
                refine k_ldI rfl (c_get (r := q14) (o := 10) (K := 6) kq14 (by decide)) hv15 ?_
                cases hD
                exact k_iret rfl rfl
              | false =>
                rw [c23_3_5, cond_false] at hD
                cases c23_3_6 : decide (x3 = 6) with
                | true =>
                  rw [c23_3_6, cond_true] at hD
                  refine k_tab (tgt := 130) rfl (by rw [of_decide_eq_true c23_3_6]; decide) ?_
                  refine k_runB (pc' := 131) (loc' := [(0, .ref (0 * 1024)), (1, .int x1), (2, .int x2), (3, .int x3), (4, .int ((x1 * 6) + x2))]) (st' := [.ref (0 * 1024)]) 1 rfl ?_
                  obtain ⟨q16, hq16, hD⟩ := Option.bind_eq_some_iff.mp hD
                  refine k_gq 0 0 (K := 0) (K2 := 6) (key := 8) rfl rfl rfl rfl rfl hq16 (fun kq16 => ?_)
                  refine k_gf q16 0 (K := 6) kq16 rfl rfl rfl rfl ?_
                  refine k_runB (pc' := 139) (loc' := [(0, .ref (0 * 1024)), (1, .int x1), (2, .int x2), (3, .int x3), (4, .int ((x1 * 6) + x2))]) (st' := [.int ((x1 * 6) + x2), .ref (q16 * 1024 + 11)]) 1 rfl ?_
                  obtain ⟨v17, hv17, hD⟩ := Option.bind_eq_some_iff.mp hD
                  refine k_ldI rfl (c_get (r := q16) (o := 11) (K := 6) kq16 (by decide)) hv17 ?_
                  cases hD
                  exact k_iret rfl rfl
                | false =>
                  rw [c23_3_6, cond_false] at hD
                  refine k_tab (tgt := 141) rfl (by rw [if_pos (m_out (lo := 0) (hi := 6) [0, 1, 2, 3, 4, 5, 6] (by decide) (by decide) (List.forall_mem_cons.mpr ⟨of_decide_eq_false c23_3_0, List.forall_mem_cons.mpr ⟨of_decide_eq_false c23_3_1, List.forall_mem_cons.mpr ⟨of_decide_eq_false c23_3_2, List.forall_mem_cons.mpr ⟨of_decide_eq_false c23_3_3, List.forall_mem_cons.mpr ⟨of_decide_eq_false c23_3_4, List.forall_mem_cons.mpr ⟨of_decide_eq_false c23_3_5, List.forall_mem_cons.mpr ⟨of_decide_eq_false c23_3_6, fun _ h => absurd h List.not_mem_nil⟩⟩⟩⟩⟩⟩⟩))]; rfl) ?_
                  refine k_runB (pc' := 142) (loc' := [(0, .ref (0 * 1024)), (1, .int x1), (2, .int x2), (3, .int x3), (4, .int ((x1 * 6) + x2))]) (st' := [.int ((-1))]) 1 rfl ?_
                  cases hD
                  exact k_iret rfl rfl
  · rw [c9_2, cond_false] at hD
    refine k_runB (pc' := 13) (loc' := [(0, .ref (0 * 1024)), (1, .int x1), (2, .int x2), (3, .int x3)]) (st' := [.int ((-1))]) 1 rfl ?_
    cases hD
    exact k_iret rfl rfl
/-- SleepWork.isMan(I)Z  -/
def e_SleepWork_isMan (P : Nat → Nat → Nat) (F : Nat → Nat → Int32) (A : Nat → Nat → Nat → Int32) (J : Nat → Nat → Nat → Int64) (x1 : Int32) : Option (Int32) :=
  cond (g_cnd .lt x1 0)
  (some (0))
  ((c_chk 6 (P 0 8)).bind fun q2 =>
  cond (g_cnd .ge x1 (F q2 17))
  (some (0))
  (some (1)))
set_option maxRecDepth 10000 in
theorem t_e_SleepWork_isMan {P : Nat → Nat → Nat} {F : Nat → Nat → Int32} {A : Nat → Nat → Nat → Int32} {J : Nat → Nat → Nat → Int64} {x1 : Int32}  {w : Int32} : e_SleepWork_isMan P F A J x1 = some w → k_run t lg (d) 107 0 [(0, .ref (0 * 1024)), (1, .int x1)] [] (c_h c B P F A J) (some (.int w), c_h c B P F A J) := by
  intro hD
  unfold e_SleepWork_isMan at hD
  refine k_runB (pc' := 1) (loc' := [(0, .ref (0 * 1024)), (1, .int x1)]) (st' := [.int x1]) 1 rfl ?_
  refine k_if rfl (fun c1_0 => ?_) (fun c1_0 => ?_)
  · rw [c1_0, cond_true] at hD
    refine k_runB (pc' := 20) (loc' := [(0, .ref (0 * 1024)), (1, .int x1)]) (st' := [.int 0]) 1 rfl ?_
    cases hD
    exact k_zret rfl rfl (Or.inl rfl)
  · rw [c1_0, cond_false] at hD
    refine k_runB (pc' := 6) (loc' := [(0, .ref (0 * 1024)), (1, .int x1)]) (st' := [.ref (0 * 1024), .int x1]) 2 rfl ?_
    obtain ⟨q2, hq2, hD⟩ := Option.bind_eq_some_iff.mp hD
    refine k_gq 0 0 (K := 0) (K2 := 6) (key := 8) rfl rfl rfl rfl rfl hq2 (fun kq2 => ?_)
    refine k_gf q2 0 (K := 6) kq2 rfl rfl rfl rfl ?_
    refine k_ic rfl (fun c12_2 => ?_) (fun c12_2 => ?_)
    · rw [c12_2, cond_true] at hD
      refine k_runB (pc' := 20) (loc' := [(0, .ref (0 * 1024)), (1, .int x1)]) (st' := [.int 0]) 1 rfl ?_
      cases hD
      exact k_zret rfl rfl (Or.inl rfl)
    · rw [c12_2, cond_false] at hD
      refine k_runB (pc' := 20) (loc' := [(0, .ref (0 * 1024)), (1, .int x1)]) (st' := [.int 1]) 2 rfl ?_
      cases hD
      exact k_zret rfl rfl (Or.inr rfl)
/-- SleepWork.man(II)I  -/
def e_SleepWork_man (P : Nat → Nat → Nat) (F : Nat → Nat → Int32) (A : Nat → Nat → Nat → Int32) (J : Nat → Nat → Nat → Int64) (x1 : Int32) (x2 : Int32) : Option (Int32) :=
  (e_SleepWork_isMan P F A J x1).bind fun v1 =>
  cond (g_cnd .ne v1 0)
  ((m_ld (A 2 3) 6 x1).bind fun v3 =>
  cond (decide (x2 = 0))
  ((c_chk 6 (P 0 8)).bind fun q5 =>
  (m_ld (A q5 12) 6 x1).bind fun v6 =>
  some (v6))
  (cond (decide (x2 = 1))
  (cond (g_cnd .ge v3 0)
  ((m_div v3 6).bind fun v8 =>
  some (v8))
  (some ((-2))))
  (cond (decide (x2 = 2))
  (cond (g_cnd .ge v3 0)
  ((m_rem v3 6).bind fun v10 =>
  some (v10))
  (some ((-2))))
  (cond (decide (x2 = 3))
  ((m_ld (A 2 5) 6 x1).bind fun v11 =>
  some (v11))
  (cond (decide (x2 = 4))
  ((m_ld (A 2 6) 6 x1).bind fun v12 =>
  some (v12))
  (cond (decide (x2 = 5))
  ((m_ld (A 2 7) 6 x1).bind fun v13 =>
  some (v13))
  (some ((-1)))))))))
  (some ((-1)))
set_option maxRecDepth 10000 in
theorem t_e_SleepWork_man {P : Nat → Nat → Nat} {F : Nat → Nat → Int32} {A : Nat → Nat → Nat → Int32} {J : Nat → Nat → Nat → Int64} {x1 : Int32} {x2 : Int32}  {w : Int32} : e_SleepWork_man P F A J x1 x2 = some w → k_run t lg (d + 1) 106 0 [(0, .ref (0 * 1024)), (1, .int x1), (2, .int x2)] [] (c_h c B P F A J) (some (.int w), c_h c B P F A J) := by
  intro hD
  unfold e_SleepWork_man at hD
  refine k_runB (pc' := 2) (loc' := [(0, .ref (0 * 1024)), (1, .int x1), (2, .int x2)]) (st' := [.int x1, .ref (0 * 1024)]) 2 rfl ?_
  obtain ⟨v1, hv1, hD⟩ := Option.bind_eq_some_iff.mp hD
  refine k_runV rfl rfl rfl (c_get (r := 0) (o := 0) (K := 0) rfl (by decide)) rfl rfl (t_e_SleepWork_isMan (d := d) hv1) ?_
  refine k_if rfl (fun c5_1 => ?_) (fun c5_1 => ?_)
  · rw [c5_1, cond_true] at hD
    refine k_runB (pc' := 11) (loc' := [(0, .ref (0 * 1024)), (1, .int x1), (2, .int x2)]) (st' := [.ref (0 * 1024)]) 1 rfl ?_
    refine k_gf 0 0 (K := 0) rfl rfl rfl rfl rfl ?_
    refine k_gf 2 0 (K := 2) rfl rfl rfl rfl rfl ?_
    refine k_runB (pc' := 18) (loc' := [(0, .ref (0 * 1024)), (1, .int x1), (2, .int x2)]) (st' := [.int x1, .ref (2 * 1024 + 3)]) 1 rfl ?_
    obtain ⟨v3, hv3, hD⟩ := Option.bind_eq_some_iff.mp hD
    refine k_ldI rfl (c_get (r := 2) (o := 3) (K := 2) rfl (by decide)) hv3 ?_
    refine k_runB (pc' := 21) (loc' := [(0, .ref (0 * 1024)), (1, .int x1), (2, .int x2), (3, .int v3)]) (st' := [.int x2]) 2 rfl ?_
    cases c21_3_0 : decide (x2 = 0) with
    | true =>
      rw [c21_3_0, cond_true] at hD
      refine k_tab (tgt := 60) rfl (by rw [of_decide_eq_true c21_3_0]; decide) ?_
      refine k_runB (pc' := 61) (loc' := [(0, .ref (0 * 1024)), (1, .int x1), (2, .int x2), (3, .int v3)]) (st' := [.ref (0 * 1024)]) 1 rfl ?_
      obtain ⟨q5, hq5, hD⟩ := Option.bind_eq_some_iff.mp hD
      refine k_gq 0 0 (K := 0) (K2 := 6) (key := 8) rfl rfl rfl rfl rfl hq5 (fun kq5 => ?_)
      refine k_gf q5 0 (K := 6) kq5 rfl rfl rfl rfl ?_
      refine k_runB (pc' := 68) (loc' := [(0, .ref (0 * 1024)), (1, .int x1), (2, .int x2), (3, .int v3)]) (st' := [.int x1, .ref (q5 * 1024 + 12)]) 1 rfl ?_
      obtain ⟨v6, hv6, hD⟩ := Option.bind_eq_some_iff.mp hD
      refine k_ldI rfl (c_get (r := q5) (o := 12) (K := 6) kq5 (by decide)) hv6 ?_
      cases hD
      exact k_iret rfl rfl
    | false =>
      rw [c21_3_0, cond_false] at hD
      cases c21_3_1 : decide (x2 = 1) with
      | true =>
        rw [c21_3_1, cond_true] at hD
        refine k_tab (tgt := 70) rfl (by rw [of_decide_eq_true c21_3_1]; decide) ?_
        refine k_runB (pc' := 71) (loc' := [(0, .ref (0 * 1024)), (1, .int x1), (2, .int x2), (3, .int v3)]) (st' := [.int v3]) 1 rfl ?_
        refine k_if rfl (fun c71_6 => ?_) (fun c71_6 => ?_)
        · rw [c71_6, cond_true] at hD
          refine k_runB (pc' := 82) (loc' := [(0, .ref (0 * 1024)), (1, .int x1), (2, .int x2), (3, .int v3)]) (st' := [.int 6, .int v3]) 2 rfl ?_
          obtain ⟨v8, hv8, hD⟩ := Option.bind_eq_some_iff.mp hD
          refine k_dvI rfl hv8 ?_
          cases hD
          exact k_iret rfl rfl
        · rw [c71_6, cond_false] at hD
          refine k_runB (pc' := 83) (loc' := [(0, .ref (0 * 1024)), (1, .int x1), (2, .int x2), (3, .int v3)]) (st' := [.int ((-2))]) 2 rfl ?_
          cases hD
          exact k_iret rfl rfl
      | false =>
        rw [c21_3_1, cond_false] at hD
        cases c21_3_2 : decide (x2 = 2) with
        | true =>
          rw [c21_3_2, cond_true] at hD
          refine k_tab (tgt := 84) rfl (by rw [of_decide_eq_true c21_3_2]; decide) ?_
          refine k_runB (pc' := 85) (loc' := [(0, .ref (0 * 1024)), (1, .int x1), (2, .int x2), (3, .int v3)]) (st' := [.int v3]) 1 rfl ?_
          refine k_if rfl (fun c85_8 => ?_) (fun c85_8 => ?_)
          · rw [c85_8, cond_true] at hD
            refine k_runB (pc' := 96) (loc' := [(0, .ref (0 * 1024)), (1, .int x1), (2, .int x2), (3, .int v3)]) (st' := [.int 6, .int v3]) 2 rfl ?_
            obtain ⟨v10, hv10, hD⟩ := Option.bind_eq_some_iff.mp hD
            refine k_rmI rfl hv10 ?_
            cases hD
            exact k_iret rfl rfl
          · rw [c85_8, cond_false] at hD
            refine k_runB (pc' := 97) (loc' := [(0, .ref (0 * 1024)), (1, .int x1), (2, .int x2), (3, .int v3)]) (st' := [.int ((-2))]) 2 rfl ?_
            cases hD
            exact k_iret rfl rfl
        | false =>
          rw [c21_3_2, cond_false] at hD
          cases c21_3_3 : decide (x2 = 3) with
          | true =>
            rw [c21_3_3, cond_true] at hD
            refine k_tab (tgt := 98) rfl (by rw [of_decide_eq_true c21_3_3]; decide) ?_
            refine k_runB (pc' := 99) (loc' := [(0, .ref (0 * 1024)), (1, .int x1), (2, .int x2), (3, .int v3)]) (st' := [.ref (0 * 1024)]) 1 rfl ?_
            refine k_gf 0 0 (K := 0) rfl rfl rfl rfl rfl ?_
            refine k_gf 2 0 (K := 2) rfl rfl rfl rfl rfl ?_
            refine k_runB (pc' := 106) (loc' := [(0, .ref (0 * 1024)), (1, .int x1), (2, .int x2), (3, .int v3)]) (st' := [.int x1, .ref (2 * 1024 + 5)]) 1 rfl ?_
            obtain ⟨v11, hv11, hD⟩ := Option.bind_eq_some_iff.mp hD
            refine k_ldI rfl (c_get (r := 2) (o := 5) (K := 2) rfl (by decide)) hv11 ?_
            cases hD
            exact k_iret rfl rfl
          | false =>
            rw [c21_3_3, cond_false] at hD
            cases c21_3_4 : decide (x2 = 4) with
            | true =>
              rw [c21_3_4, cond_true] at hD
              refine k_tab (tgt := 108) rfl (by rw [of_decide_eq_true c21_3_4]; decide) ?_
              refine k_runB (pc' := 109) (loc' := [(0, .ref (0 * 1024)), (1, .int x1), (2, .int x2), (3, .int v3)]) (st' := [.ref (0 * 1024)]) 1 rfl ?_
              refine k_gf 0 0 (K := 0) rfl rfl rfl rfl rfl ?_
              refine k_gf 2 0 (K := 2) rfl rfl rfl rfl rfl ?_
              refine k_runB (pc' := 116) (loc' := [(0, .ref (0 * 1024)), (1, .int x1), (2, .int x2), (3, .int v3)]) (st' := [.int x1, .ref (2 * 1024 + 6)]) 1 rfl ?_
              obtain ⟨v12, hv12, hD⟩ := Option.bind_eq_some_iff.mp hD
              refine k_ldI rfl (c_get (r := 2) (o := 6) (K := 2) rfl (by decide)) hv12 ?_
              cases hD
              exact k_iret rfl rfl
            | false =>
              rw [c21_3_4, cond_false] at hD
              cases c21_3_5 : decide (x2 = 5) with
              | true =>
                rw [c21_3_5, cond_true] at hD
                refine k_tab (tgt := 118) rfl (by rw [of_decide_eq_true c21_3_5]; decide) ?_
                refine k_runB (pc' := 119) (loc' := [(0, .ref (0 * 1024)), (1, .int x1), (2, .int x2), (3, .int v3)]) (st' := [.ref (0 * 1024)]) 1 rfl ?_
                refine k_gf 0 0 (K := 0) rfl rfl rfl rfl rfl ?_
                refine k_gf 2 0 (K := 2) rfl rfl rfl rfl rfl ?_
                refine k_runB (pc' := 126) (loc' := [(0, .ref (0 * 1024)), (1, .int x1), (2, .int x2), (3, .int v3)]) (st' := [.int x1, .ref (2 * 1024 + 7)]) 1 rfl ?_
                obtain ⟨v13, hv13, hD⟩ := Option.bind_eq_some_iff.mp hD
                refine k_ldI rfl (c_get (r := 2) (o := 7) (K := 2) rfl (by decide)) hv13 ?_
                cases hD
                exact k_iret rfl rfl
              | false =>
                rw [c21_3_5, cond_false] at hD
                refine k_tab (tgt := 128) rfl (by rw [if_pos (m_out (lo := 0) (hi := 5) [0, 1, 2, 3, 4, 5] (by decide) (by decide) (List.forall_mem_cons.mpr ⟨of_decide_eq_false c21_3_0, List.forall_mem_cons.mpr ⟨of_decide_eq_false c21_3_1, List.forall_mem_cons.mpr ⟨of_decide_eq_false c21_3_2, List.forall_mem_cons.mpr ⟨of_decide_eq_false c21_3_3, List.forall_mem_cons.mpr ⟨of_decide_eq_false c21_3_4, List.forall_mem_cons.mpr ⟨of_decide_eq_false c21_3_5, fun _ h => absurd h List.not_mem_nil⟩⟩⟩⟩⟩⟩))]; rfl) ?_
                refine k_runB (pc' := 129) (loc' := [(0, .ref (0 * 1024)), (1, .int x1), (2, .int x2), (3, .int v3)]) (st' := [.int ((-1))]) 1 rfl ?_
                cases hD
                exact k_iret rfl rfl
  · rw [c5_1, cond_false] at hD
    refine k_runB (pc' := 9) (loc' := [(0, .ref (0 * 1024)), (1, .int x1), (2, .int x2)]) (st' := [.int ((-1))]) 1 rfl ?_
    cases hD
    exact k_iret rfl rfl
end MC
