/-! the class's methods as functions (printed by wip/dec2.py) -/
section MC
variable {t : gT} {lg : Nat → Nat} {d : Nat} {c : Nat × Nat} {B : Nat → List gE}
/-- SleepWork$Reader.isNext(I)Z  -/
def e_Reader_isNext (P : Nat → Nat → Nat) (F : Nat → Nat → Int32) (A : Nat → Nat → Nat → Int32) (J : Nat → Nat → Nat → Int64) (x1 : Int32) : Option (Int32) :=
  cond (g_cnd .ne (F 37 10) 0)
  (some (0))
  ((m_ld (A 37 2) 401 (F 37 7)).bind fun v2 =>
  cond (g_cnd .ne v2 x1)
  (some (0))
  (some (1)))
set_option maxRecDepth 10000 in
theorem t_e_Reader_isNext {P : Nat → Nat → Nat} {F : Nat → Nat → Int32} {A : Nat → Nat → Nat → Int32} {J : Nat → Nat → Nat → Int64} {x1 : Int32}  {w : Int32} : e_Reader_isNext P F A J x1 = some w → k_run t lg (d) 44 0 [(0, .ref (37 * 1024)), (1, .int x1)] [] (c_h c B P F A J) (some (.int w), c_h c B P F A J) := by
  intro hD
  unfold e_Reader_isNext at hD
  refine k_runB (pc' := 1) (loc' := [(0, .ref (37 * 1024)), (1, .int x1)]) (st' := [.ref (37 * 1024)]) 1 rfl ?_
  refine k_gf 37 0 (K := 11) rfl rfl rfl rfl rfl ?_
  refine k_if rfl (fun c4_0 => ?_) (fun c4_0 => ?_)
  · rw [c4_0, cond_true] at hD
    refine k_runB (pc' := 28) (loc' := [(0, .ref (37 * 1024)), (1, .int x1)]) (st' := [.int 0]) 1 rfl ?_
    cases hD
    exact k_zret rfl rfl (Or.inl rfl)
  · rw [c4_0, cond_false] at hD
    refine k_runB (pc' := 8) (loc' := [(0, .ref (37 * 1024)), (1, .int x1)]) (st' := [.ref (37 * 1024)]) 1 rfl ?_
    refine k_gf 37 0 (K := 11) rfl rfl rfl rfl rfl ?_
    refine k_gf 37 1 (K := 11) rfl rfl rfl rfl rfl ?_
    refine k_runB (pc' := 15) (loc' := [(0, .ref (37 * 1024)), (1, .int x1)]) (st' := [.ref (37 * 1024), .ref (37 * 1024 + 2)]) 1 rfl ?_
    refine k_gf 37 0 (K := 11) rfl rfl rfl rfl rfl ?_
    obtain ⟨v2, hv2, hD⟩ := Option.bind_eq_some_iff.mp hD
    refine k_ldI rfl (c_get (r := 37) (o := 2) (K := 11) rfl (by decide)) hv2 ?_
    refine k_runB (pc' := 20) (loc' := [(0, .ref (37 * 1024)), (1, .int x1)]) (st' := [.int x1, .int v2]) 1 rfl ?_
    refine k_ic rfl (fun c20_2 => ?_) (fun c20_2 => ?_)
    · rw [c20_2, cond_true] at hD
      refine k_runB (pc' := 28) (loc' := [(0, .ref (37 * 1024)), (1, .int x1)]) (st' := [.int 0]) 1 rfl ?_
      cases hD
      exact k_zret rfl rfl (Or.inl rfl)
    · rw [c20_2, cond_false] at hD
      refine k_runB (pc' := 28) (loc' := [(0, .ref (37 * 1024)), (1, .int x1)]) (st' := [.int 1]) 2 rfl ?_
      cases hD
      exact k_zret rfl rfl (Or.inr rfl)
def e_Reader_fail_15 (P : Nat → Nat → Nat) (F : Nat → Nat → Int32) (A : Nat → Nat → Nat → Int32) (J : Nat → Nat → Nat → Int64) (x1 : Int32) (x2 : Int32) : Option (Unit × (Nat → Nat → Nat) × (Nat → Nat → Int32) × (Nat → Nat → Nat → Int32) × (Nat → Nat → Nat → Int64)) :=
    (c_pf F 37 10 x1).bind fun F3 =>
    (c_pf F3 37 11 x2).bind fun F4 =>
    some ((), P, F4, A, J)
set_option maxRecDepth 10000 in
theorem t_e_Reader_fail_15 (ht : ∀ ci k, t.1 ci k = k_ty ci k)  {P : Nat → Nat → Nat} {F : Nat → Nat → Int32} {A : Nat → Nat → Nat → Int32} {J : Nat → Nat → Nat → Int64} {x1 : Int32} {x2 : Int32}  {w : Unit × (Nat → Nat → Nat) × (Nat → Nat → Int32) × (Nat → Nat → Nat → Int32) × (Nat → Nat → Nat → Int64)} : e_Reader_fail_15 P F A J x1 x2 = some w → k_run t lg (d) 42 15 [(0, .ref (37 * 1024)), (1, .int x1), (2, .int x2)] [] (c_h c B P F A J) (none, c_h c B w.2.1 w.2.2.1 w.2.2.2.1 w.2.2.2.2) := by
  intro hD
  unfold e_Reader_fail_15 at hD
  refine k_runB (pc' := 17) (loc' := [(0, .ref (37 * 1024)), (1, .int x1), (2, .int x2)]) (st' := [.int x1, .ref (37 * 1024)]) 2 rfl ?_
  obtain ⟨F3, hF3, hD⟩ := Option.bind_eq_some_iff.mp hD
  refine k_cpt 37 0 (K := 11) (key := 10) rfl rfl (ht 4 10) rfl rfl rfl hF3 ?_
  refine k_runB (pc' := 22) (loc' := [(0, .ref (37 * 1024)), (1, .int x1), (2, .int x2)]) (st' := [.int x2, .ref (37 * 1024)]) 2 rfl ?_
  obtain ⟨F4, hF4, hD⟩ := Option.bind_eq_some_iff.mp hD
  refine k_cpt 37 0 (K := 11) (key := 11) rfl rfl (ht 4 11) rfl rfl rfl hF4 ?_
  cases hD
  exact k_vret rfl rfl
/-- SleepWork$Reader.fail(II)V  -/
def e_Reader_fail (P : Nat → Nat → Nat) (F : Nat → Nat → Int32) (A : Nat → Nat → Nat → Int32) (J : Nat → Nat → Nat → Int64) (x1 : Int32) (x2 : Int32) : Option (Unit × (Nat → Nat → Nat) × (Nat → Nat → Int32) × (Nat → Nat → Nat → Int32) × (Nat → Nat → Nat → Int64)) :=
  cond (g_cnd .eq (F 37 10) 0)
  (e_Reader_fail_15 P F A J x1 x2)
  (cond (g_cnd .ge x2 (F 37 11))
  (some ((), P, F, A, J))
  (e_Reader_fail_15 P F A J x1 x2))
set_option maxRecDepth 10000 in
theorem t_e_Reader_fail (ht : ∀ ci k, t.1 ci k = k_ty ci k) {P : Nat → Nat → Nat} {F : Nat → Nat → Int32} {A : Nat → Nat → Nat → Int32} {J : Nat → Nat → Nat → Int64} {x1 : Int32} {x2 : Int32}  {w : Unit × (Nat → Nat → Nat) × (Nat → Nat → Int32) × (Nat → Nat → Nat → Int32) × (Nat → Nat → Nat → Int64)} : e_Reader_fail P F A J x1 x2 = some w → k_run t lg (d) 42 0 [(0, .ref (37 * 1024)), (1, .int x1), (2, .int x2)] [] (c_h c B P F A J) (none, c_h c B w.2.1 w.2.2.1 w.2.2.2.1 w.2.2.2.2) := by
  intro hD
  unfold e_Reader_fail at hD
  refine k_runB (pc' := 1) (loc' := [(0, .ref (37 * 1024)), (1, .int x1), (2, .int x2)]) (st' := [.ref (37 * 1024)]) 1 rfl ?_
  refine k_gf 37 0 (K := 11) rfl rfl rfl rfl rfl ?_
  refine k_if rfl (fun c4_0 => ?_) (fun c4_0 => ?_)
  · rw [c4_0, cond_true] at hD
    refine k_wk [0, 1, 2] (loc' := [(0, .ref (37 * 1024)), (1, .int x1), (2, .int x2)]) rfl rfl ?_
    exact t_e_Reader_fail_15 ht   hD
  · rw [c4_0, cond_false] at hD
    refine k_runB (pc' := 9) (loc' := [(0, .ref (37 * 1024)), (1, .int x1), (2, .int x2)]) (st' := [.ref (37 * 1024), .int x2]) 2 rfl ?_
    refine k_gf 37 0 (K := 11) rfl rfl rfl rfl rfl ?_
    refine k_ic rfl (fun c12_1 => ?_) (fun c12_1 => ?_)
    · rw [c12_1, cond_true] at hD
      cases hD
      exact k_vret rfl rfl
    · rw [c12_1, cond_false] at hD
      refine k_wk [0, 1, 2] (loc' := [(0, .ref (37 * 1024)), (1, .int x1), (2, .int x2)]) rfl rfl ?_
      exact t_e_Reader_fail_15 ht   hD
/-- SleepWork$Reader.take(I)Z  -/
def e_Reader_take (P : Nat → Nat → Nat) (F : Nat → Nat → Int32) (A : Nat → Nat → Nat → Int32) (J : Nat → Nat → Nat → Int64) (x1 : Int32) : Option (Int32 × (Nat → Nat → Nat) × (Nat → Nat → Int32) × (Nat → Nat → Nat → Int32) × (Nat → Nat → Nat → Int64)) :=
  cond (g_cnd .eq (F 37 10) 0)
  ((m_ld (A 37 2) 401 (F 37 7)).bind fun v2 =>
  cond (g_cnd .eq v2 x1)
  (cond (g_cnd .lt (F 37 7) 400)
  ((c_pf F 37 8 (F 37 7)).bind fun F5 =>
  (c_pf F5 37 7 ((F5 37 7) + 1)).bind fun F6 =>
  some (1, P, F6, A, J))
  ((m_ld (A 37 3) 401 (F 37 7)).bind fun v7 =>
  (e_Reader_fail P F A J 2 v7).bind fun (_, P9, F10, A11, J12) =>
  some (0, P9, F10, A11, J12)))
  ((m_ld (A 37 3) 401 (F 37 7)).bind fun v13 =>
  (e_Reader_fail P F A J 1 v13).bind fun (_, P15, F16, A17, J18) =>
  some (0, P15, F16, A17, J18)))
  (some (0, P, F, A, J))
set_option maxRecDepth 10000 in
theorem t_e_Reader_take (ht : ∀ ci k, t.1 ci k = k_ty ci k) {P : Nat → Nat → Nat} {F : Nat → Nat → Int32} {A : Nat → Nat → Nat → Int32} {J : Nat → Nat → Nat → Int64} {x1 : Int32}  {w : Int32 × (Nat → Nat → Nat) × (Nat → Nat → Int32) × (Nat → Nat → Nat → Int32) × (Nat → Nat → Nat → Int64)} : e_Reader_take P F A J x1 = some w → k_run t lg (d + 1) 45 0 [(0, .ref (37 * 1024)), (1, .int x1)] [] (c_h c B P F A J) (some (.int w.1), c_h c B w.2.1 w.2.2.1 w.2.2.2.1 w.2.2.2.2) := by
  intro hD
  unfold e_Reader_take at hD
  refine k_runB (pc' := 1) (loc' := [(0, .ref (37 * 1024)), (1, .int x1)]) (st' := [.ref (37 * 1024)]) 1 rfl ?_
  refine k_gf 37 0 (K := 11) rfl rfl rfl rfl rfl ?_
  refine k_if rfl (fun c4_0 => ?_) (fun c4_0 => ?_)
  · rw [c4_0, cond_true] at hD
    refine k_runB (pc' := 10) (loc' := [(0, .ref (37 * 1024)), (1, .int x1)]) (st' := [.ref (37 * 1024)]) 1 rfl ?_
    refine k_gf 37 0 (K := 11) rfl rfl rfl rfl rfl ?_
    refine k_gf 37 1 (K := 11) rfl rfl rfl rfl rfl ?_
    refine k_runB (pc' := 17) (loc' := [(0, .ref (37 * 1024)), (1, .int x1)]) (st' := [.ref (37 * 1024), .ref (37 * 1024 + 2)]) 1 rfl ?_
    refine k_gf 37 0 (K := 11) rfl rfl rfl rfl rfl ?_
    obtain ⟨v2, hv2, hD⟩ := Option.bind_eq_some_iff.mp hD
    refine k_ldI rfl (c_get (r := 37) (o := 2) (K := 11) rfl (by decide)) hv2 ?_
    refine k_runB (pc' := 22) (loc' := [(0, .ref (37 * 1024)), (1, .int x1)]) (st' := [.int x1, .int v2]) 1 rfl ?_
    refine k_ic rfl (fun c22_2 => ?_) (fun c22_2 => ?_)
    · rw [c22_2, cond_true] at hD
      refine k_runB (pc' := 45) (loc' := [(0, .ref (37 * 1024)), (1, .int x1)]) (st' := [.ref (37 * 1024)]) 1 rfl ?_
      refine k_gf 37 0 (K := 11) rfl rfl rfl rfl rfl ?_
      refine k_runB (pc' := 51) (loc' := [(0, .ref (37 * 1024)), (1, .int x1)]) (st' := [.int 400, .int (F 37 7)]) 1 rfl ?_
      refine k_ic rfl (fun c51_3 => ?_) (fun c51_3 => ?_)
      · rw [c51_3, cond_true] at hD
        refine k_runB (pc' := 75) (loc' := [(0, .ref (37 * 1024)), (1, .int x1)]) (st' := [.ref (37 * 1024), .ref (37 * 1024)]) 2 rfl ?_
        refine k_gf 37 0 (K := 11) rfl rfl rfl rfl rfl ?_
        obtain ⟨F5, hF5, hD⟩ := Option.bind_eq_some_iff.mp hD
        refine k_cpt 37 0 (K := 11) (key := 8) rfl rfl (ht 4 8) rfl rfl rfl hF5 ?_
        refine k_runB (pc' := 83) (loc' := [(0, .ref (37 * 1024)), (1, .int x1)]) (st' := [.ref (37 * 1024), .ref (37 * 1024)]) 2 rfl ?_
        refine k_gf 37 0 (K := 11) rfl rfl rfl rfl rfl ?_
        refine k_runB (pc' := 88) (loc' := [(0, .ref (37 * 1024)), (1, .int x1)]) (st' := [.int ((F5 37 7) + 1), .ref (37 * 1024)]) 2 rfl ?_
        obtain ⟨F6, hF6, hD⟩ := Option.bind_eq_some_iff.mp hD
        refine k_cpt 37 0 (K := 11) (key := 7) rfl rfl (ht 4 7) rfl rfl rfl hF6 ?_
        refine k_runB (pc' := 92) (loc' := [(0, .ref (37 * 1024)), (1, .int x1)]) (st' := [.int 1]) 1 rfl ?_
        cases hD
        exact k_zret rfl rfl (Or.inr rfl)
      · rw [c51_3, cond_false] at hD
        refine k_runB (pc' := 57) (loc' := [(0, .ref (37 * 1024)), (1, .int x1)]) (st' := [.ref (37 * 1024), .int 2, .ref (37 * 1024)]) 3 rfl ?_
        refine k_gf 37 0 (K := 11) rfl rfl rfl rfl rfl ?_
        refine k_gf 37 1 (K := 11) rfl rfl rfl rfl rfl ?_
        refine k_runB (pc' := 64) (loc' := [(0, .ref (37 * 1024)), (1, .int x1)]) (st' := [.ref (37 * 1024), .ref (37 * 1024 + 3), .int 2, .ref (37 * 1024)]) 1 rfl ?_
        refine k_gf 37 0 (K := 11) rfl rfl rfl rfl rfl ?_
        obtain ⟨v7, hv7, hD⟩ := Option.bind_eq_some_iff.mp hD
        refine k_ldI rfl (c_get (r := 37) (o := 3) (K := 11) rfl (by decide)) hv7 ?_
        obtain ⟨⟨v8, P9, F10, A11, J12⟩, hv8, hD⟩ := Option.bind_eq_some_iff.mp hD
        dsimp only at hD
        refine k_runV rfl rfl rfl (c_get (r := 37) (o := 0) (K := 11) rfl (by decide)) rfl rfl (t_e_Reader_fail (d := d) ht hv8) ?_
        refine k_runB (pc' := 72) (loc' := [(0, .ref (37 * 1024)), (1, .int x1)]) (st' := [.int 0]) 1 rfl ?_
        cases hD
        exact k_zret rfl rfl (Or.inl rfl)
    · rw [c22_2, cond_false] at hD
      refine k_runB (pc' := 28) (loc' := [(0, .ref (37 * 1024)), (1, .int x1)]) (st' := [.ref (37 * 1024), .int 1, .ref (37 * 1024)]) 3 rfl ?_
      refine k_gf 37 0 (K := 11) rfl rfl rfl rfl rfl ?_
      refine k_gf 37 1 (K := 11) rfl rfl rfl rfl rfl ?_
      refine k_runB (pc' := 35) (loc' := [(0, .ref (37 * 1024)), (1, .int x1)]) (st' := [.ref (37 * 1024), .ref (37 * 1024 + 3), .int 1, .ref (37 * 1024)]) 1 rfl ?_
      refine k_gf 37 0 (K := 11) rfl rfl rfl rfl rfl ?_
      obtain ⟨v13, hv13, hD⟩ := Option.bind_eq_some_iff.mp hD
      refine k_ldI rfl (c_get (r := 37) (o := 3) (K := 11) rfl (by decide)) hv13 ?_
      obtain ⟨⟨v14, P15, F16, A17, J18⟩, hv14, hD⟩ := Option.bind_eq_some_iff.mp hD
      dsimp only at hD
      refine k_runV rfl rfl rfl (c_get (r := 37) (o := 0) (K := 11) rfl (by decide)) rfl rfl (t_e_Reader_fail (d := d) ht hv14) ?_
      refine k_runB (pc' := 43) (loc' := [(0, .ref (37 * 1024)), (1, .int x1)]) (st' := [.int 0]) 1 rfl ?_
      cases hD
      exact k_zret rfl rfl (Or.inl rfl)
  · rw [c4_0, cond_false] at hD
    refine k_runB (pc' := 8) (loc' := [(0, .ref (37 * 1024)), (1, .int x1)]) (st' := [.int 0]) 1 rfl ?_
    cases hD
    exact k_zret rfl rfl (Or.inl rfl)
def e_Reader_takeFirst_22 (P : Nat → Nat → Nat) (F : Nat → Nat → Int32) (A : Nat → Nat → Nat → Int32) (J : Nat → Nat → Nat → Int64) (x1 : Int32) : Option (Unit × (Nat → Nat → Nat) × (Nat → Nat → Int32) × (Nat → Nat → Nat → Int32) × (Nat → Nat → Nat → Int64)) :=
    (e_Reader_take P F A J x1).bind fun (v13, P14, F15, A16, J17) =>
    some ((), P14, F15, A16, J17)
set_option maxRecDepth 10000 in
theorem t_e_Reader_takeFirst_22 (ht : ∀ ci k, t.1 ci k = k_ty ci k)  {P : Nat → Nat → Nat} {F : Nat → Nat → Int32} {A : Nat → Nat → Nat → Int32} {J : Nat → Nat → Nat → Int64} {x1 : Int32}  {w : Unit × (Nat → Nat → Nat) × (Nat → Nat → Int32) × (Nat → Nat → Nat → Int32) × (Nat → Nat → Nat → Int64)} : e_Reader_takeFirst_22 P F A J x1 = some w → k_run t lg (d + 2) 46 22 [(0, .ref (37 * 1024)), (1, .int x1)] [] (c_h c B P F A J) (none, c_h c B w.2.1 w.2.2.1 w.2.2.2.1 w.2.2.2.2) := by
  intro hD
  unfold e_Reader_takeFirst_22 at hD
  refine k_runB (pc' := 24) (loc' := [(0, .ref (37 * 1024)), (1, .int x1)]) (st' := [.int x1, .ref (37 * 1024)]) 2 rfl ?_
  obtain ⟨⟨v13, P14, F15, A16, J17⟩, hv13, hD⟩ := Option.bind_eq_some_iff.mp hD
  dsimp only at hD
  refine k_runV rfl rfl rfl (c_get (r := 37) (o := 0) (K := 11) rfl (by decide)) rfl rfl (t_e_Reader_take (d := d) ht hv13) ?_
  refine k_runB (pc' := 28) (loc' := [(0, .ref (37 * 1024)), (1, .int x1)]) (st' := []) 1 rfl ?_
  cases hD
  exact k_vret rfl rfl
/-- SleepWork$Reader.takeFirst(III)V  -/
def e_Reader_takeFirst (P : Nat → Nat → Nat) (F : Nat → Nat → Int32) (A : Nat → Nat → Nat → Int32) (J : Nat → Nat → Nat → Int64) (x1 : Int32) (x2 : Int32) (x3 : Int32) : Option (Unit × (Nat → Nat → Nat) × (Nat → Nat → Int32) × (Nat → Nat → Nat → Int32) × (Nat → Nat → Nat → Int64)) :=
  cond (g_cnd .lt x2 x3)
  (e_Reader_takeFirst_22 P F A J x1)
  ((m_ld (A 37 3) 401 (F 37 7)).bind fun v2 =>
  (e_Reader_fail P F A J 2 v2).bind fun (_, P4, F5, A6, J7) =>
  (e_Reader_take P4 F5 A6 J7 x1).bind fun (v8, P9, F10, A11, J12) =>
  some ((), P9, F10, A11, J12))
set_option maxRecDepth 10000 in
theorem t_e_Reader_takeFirst (ht : ∀ ci k, t.1 ci k = k_ty ci k) {P : Nat → Nat → Nat} {F : Nat → Nat → Int32} {A : Nat → Nat → Nat → Int32} {J : Nat → Nat → Nat → Int64} {x1 : Int32} {x2 : Int32} {x3 : Int32}  {w : Unit × (Nat → Nat → Nat) × (Nat → Nat → Int32) × (Nat → Nat → Nat → Int32) × (Nat → Nat → Nat → Int64)} : e_Reader_takeFirst P F A J x1 x2 x3 = some w → k_run t lg (d + 2) 46 0 [(0, .ref (37 * 1024)), (1, .int x1), (2, .int x2), (3, .int x3)] [] (c_h c B P F A J) (none, c_h c B w.2.1 w.2.2.1 w.2.2.2.1 w.2.2.2.2) := by
  intro hD
  unfold e_Reader_takeFirst at hD
  refine k_runB (pc' := 2) (loc' := [(0, .ref (37 * 1024)), (1, .int x1), (2, .int x2), (3, .int x3)]) (st' := [.int x3, .int x2]) 2 rfl ?_
  refine k_ic rfl (fun c2_0 => ?_) (fun c2_0 => ?_)
  · rw [c2_0, cond_true] at hD
    refine k_wk [0, 1] (loc' := [(0, .ref (37 * 1024)), (1, .int x1)]) rfl rfl ?_
    exact t_e_Reader_takeFirst_22 ht   hD
  · rw [c2_0, cond_false] at hD
    refine k_runB (pc' := 8) (loc' := [(0, .ref (37 * 1024)), (1, .int x1), (2, .int x2), (3, .int x3)]) (st' := [.ref (37 * 1024), .int 2, .ref (37 * 1024)]) 3 rfl ?_
    refine k_gf 37 0 (K := 11) rfl rfl rfl rfl rfl ?_
    refine k_gf 37 1 (K := 11) rfl rfl rfl rfl rfl ?_
    refine k_runB (pc' := 15) (loc' := [(0, .ref (37 * 1024)), (1, .int x1), (2, .int x2), (3, .int x3)]) (st' := [.ref (37 * 1024), .ref (37 * 1024 + 3), .int 2, .ref (37 * 1024)]) 1 rfl ?_
    refine k_gf 37 0 (K := 11) rfl rfl rfl rfl rfl ?_
    obtain ⟨v2, hv2, hD⟩ := Option.bind_eq_some_iff.mp hD
    refine k_ldI rfl (c_get (r := 37) (o := 3) (K := 11) rfl (by decide)) hv2 ?_
    obtain ⟨⟨v3, P4, F5, A6, J7⟩, hv3, hD⟩ := Option.bind_eq_some_iff.mp hD
    dsimp only at hD
    refine k_runV rfl rfl rfl (c_get (r := 37) (o := 0) (K := 11) rfl (by decide)) rfl rfl (t_e_Reader_fail (d := d + 1) ht hv3) ?_
    refine k_runB (pc' := 24) (loc' := [(0, .ref (37 * 1024)), (1, .int x1), (2, .int x2), (3, .int x3)]) (st' := [.int x1, .ref (37 * 1024)]) 2 rfl ?_
    obtain ⟨⟨v8, P9, F10, A11, J12⟩, hv8, hD⟩ := Option.bind_eq_some_iff.mp hD
    dsimp only at hD
    refine k_runV rfl rfl rfl (c_get (r := 37) (o := 0) (K := 11) rfl (by decide)) rfl rfl (t_e_Reader_take (d := d) ht hv8) ?_
    refine k_runB (pc' := 28) (loc' := [(0, .ref (37 * 1024)), (1, .int x1), (2, .int x2), (3, .int x3)]) (st' := []) 1 rfl ?_
    cases hD
    exact k_vret rfl rfl
def e_Reader_find_3 : Nat → (Nat → Nat → Nat) → (Nat → Nat → Int32) → (Nat → Nat → Nat → Int32) → (Nat → Nat → Nat → Int64) → Int64 → Int32 → Int32 → Option (Int32)
  | 0, _, _, _, _, _, _, _ => none
  | n + 1, P, F, A, J, x0, x3, x4 => cond (g_cnd .ge x4 x3)
    (some ((-1)))
    (cond (g_cnd .ge x4 (Int32.ofNat 8))
    (some ((-1)))
    ((m_ldJ (J 37 7) 8 x4).bind fun v3 =>
    cond (g_cnd .ne (lg_cmp v3 x0) 0)
    ((e_Reader_find_3 n) P F A J x0 x3 (x4 + 1))
    (some (x4))))
set_option maxRecDepth 10000 in
theorem t_e_Reader_find_3 {n : Nat}  {P : Nat → Nat → Nat} {F : Nat → Nat → Int32} {A : Nat → Nat → Nat → Int32} {J : Nat → Nat → Nat → Int64} {x0 : Int64} {x3 : Int32} {x4 : Int32}  {w : Int32} : e_Reader_find_3 n P F A J x0 x3 x4 = some w → k_run t lg (d) 49 3 [(0, .long (x0)), (2, .ref (37 * 1024 + 7)), (3, .int x3), (4, .int x4)] [] (c_h c B P F A J) (some (.int w), c_h c B P F A J) := by
  induction n generalizing P F A J x0 x3 x4 w with
  | zero => intro hD; cases hD
  | succ n ih =>
    intro hD
    have hK3 : ∀ (P : Nat → Nat → Nat) (F : Nat → Nat → Int32) (A : Nat → Nat → Nat → Int32) (J : Nat → Nat → Nat → Int64) (x0 : Int64) (x3 : Int32) (x4 : Int32) (w : Int32), e_Reader_find_3 n P F A J x0 x3 x4 = some w → k_run t lg (d) 49 3 [(0, .long (x0)), (2, .ref (37 * 1024 + 7)), (3, .int x3), (4, .int x4)] [] (c_h c B P F A J) (some (.int w), c_h c B P F A J) := fun _ _ _ _ _ _ _ _  h => ih  h
    unfold e_Reader_find_3 at hD
    refine k_runB (pc' := 6) (loc' := [(0, .long (x0)), (2, .ref (37 * 1024 + 7)), (3, .int x3), (4, .int x4)]) (st' := [.int x3, .int x4]) 2 rfl ?_
    refine k_ic rfl (fun c6_0 => ?_) (fun c6_0 => ?_)
    · rw [c6_0, cond_true] at hD
      refine k_runB (pc' := 35) (loc' := [(0, .long (x0)), (2, .ref (37 * 1024 + 7)), (3, .int x3), (4, .int x4)]) (st' := [.int ((-1))]) 1 rfl ?_
      cases hD
      exact k_iret rfl rfl
    · rw [c6_0, cond_false] at hD
      refine k_runB (pc' := 12) (loc' := [(0, .long (x0)), (2, .ref (37 * 1024 + 7)), (3, .int x3), (4, .int x4)]) (st' := [.ref (37 * 1024 + 7), .int x4]) 2 rfl ?_
      refine k_cln 37 7 (K := 11) rfl rfl rfl rfl ?_
      refine k_ic rfl (fun c13_1 => ?_) (fun c13_1 => ?_)
      · rw [c13_1, cond_true] at hD
        refine k_runB (pc' := 35) (loc' := [(0, .long (x0)), (2, .ref (37 * 1024 + 7)), (3, .int x3), (4, .int x4)]) (st' := [.int ((-1))]) 1 rfl ?_
        cases hD
        exact k_iret rfl rfl
      · rw [c13_1, cond_false] at hD
        refine k_runB (pc' := 19) (loc' := [(0, .long (x0)), (2, .ref (37 * 1024 + 7)), (3, .int x3), (4, .int x4)]) (st' := [.int x4, .ref (37 * 1024 + 7)]) 2 rfl ?_
        obtain ⟨v3, hv3, hD⟩ := Option.bind_eq_some_iff.mp hD
        refine k_ldL rfl (c_get (r := 37) (o := 7) (K := 11) rfl (by decide)) hv3 ?_
        refine k_runB (pc' := 22) (loc' := [(0, .long (x0)), (2, .ref (37 * 1024 + 7)), (3, .int x3), (4, .int x4)]) (st' := [.int (lg_cmp v3 x0)]) 2 rfl ?_
        refine k_if rfl (fun c22_3 => ?_) (fun c22_3 => ?_)
        · rw [c22_3, cond_true] at hD
          refine k_runB (pc' := 3) (loc' := [(0, .long (x0)), (2, .ref (37 * 1024 + 7)), (3, .int x3), (4, .int (x4 + 1))]) (st' := []) 2 rfl ?_
          refine k_wk [0, 2, 3, 4] (loc' := [(0, .long (x0)), (2, .ref (37 * 1024 + 7)), (3, .int x3), (4, .int (x4 + 1))]) rfl rfl ?_
          exact hK3 _ _ _ _ _ _ _ _  hD
        · rw [c22_3, cond_false] at hD
          refine k_runB (pc' := 27) (loc' := [(0, .long (x0)), (2, .ref (37 * 1024 + 7)), (3, .int x3), (4, .int x4)]) (st' := [.int x4]) 1 rfl ?_
          cases hD
          exact k_iret rfl rfl
/-- SleepWork$Reader.find(J[JI)I  -/
def e_Reader_find (n : Nat) (P : Nat → Nat → Nat) (F : Nat → Nat → Int32) (A : Nat → Nat → Nat → Int32) (J : Nat → Nat → Nat → Int64) (x0 : Int64) (x3 : Int32) : Option (Int32) :=
  e_Reader_find_3 n P F A J x0 x3 0
set_option maxRecDepth 10000 in
theorem t_e_Reader_find {n : Nat} {P : Nat → Nat → Nat} {F : Nat → Nat → Int32} {A : Nat → Nat → Nat → Int32} {J : Nat → Nat → Nat → Int64} {x0 : Int64} {x3 : Int32}  {w : Int32} : e_Reader_find n P F A J x0 x3 = some w → k_run t lg (d) 49 0 [(0, .long (x0)), (2, .ref (37 * 1024 + 7)), (3, .int x3)] [] (c_h c B P F A J) (some (.int w), c_h c B P F A J) := by
  intro hD
  unfold e_Reader_find at hD
  refine k_runB (pc' := 3) (loc' := [(0, .long (x0)), (2, .ref (37 * 1024 + 7)), (3, .int x3), (4, .int 0)]) (st' := []) 2 rfl ?_
  refine k_wk [0, 2, 3, 4] (loc' := [(0, .long (x0)), (2, .ref (37 * 1024 + 7)), (3, .int x3), (4, .int 0)]) rfl rfl ?_
  exact t_e_Reader_find_3   hD
def e_Reader_find_v1_3 : Nat → (Nat → Nat → Nat) → (Nat → Nat → Int32) → (Nat → Nat → Nat → Int32) → (Nat → Nat → Nat → Int64) → Int64 → Int32 → Int32 → Option (Int32)
  | 0, _, _, _, _, _, _, _ => none
  | n + 1, P, F, A, J, x0, x3, x4 => cond (g_cnd .ge x4 x3)
    (some ((-1)))
    (cond (g_cnd .ge x4 (Int32.ofNat 6))
    (some ((-1)))
    ((m_ldJ (J 37 8) 6 x4).bind fun v3 =>
    cond (g_cnd .ne (lg_cmp v3 x0) 0)
    ((e_Reader_find_v1_3 n) P F A J x0 x3 (x4 + 1))
    (some (x4))))
set_option maxRecDepth 10000 in
theorem t_e_Reader_find_v1_3 {n : Nat}  {P : Nat → Nat → Nat} {F : Nat → Nat → Int32} {A : Nat → Nat → Nat → Int32} {J : Nat → Nat → Nat → Int64} {x0 : Int64} {x3 : Int32} {x4 : Int32}  {w : Int32} : e_Reader_find_v1_3 n P F A J x0 x3 x4 = some w → k_run t lg (d) 49 3 [(0, .long (x0)), (2, .ref (37 * 1024 + 8)), (3, .int x3), (4, .int x4)] [] (c_h c B P F A J) (some (.int w), c_h c B P F A J) := by
  induction n generalizing P F A J x0 x3 x4 w with
  | zero => intro hD; cases hD
  | succ n ih =>
    intro hD
    have hK3 : ∀ (P : Nat → Nat → Nat) (F : Nat → Nat → Int32) (A : Nat → Nat → Nat → Int32) (J : Nat → Nat → Nat → Int64) (x0 : Int64) (x3 : Int32) (x4 : Int32) (w : Int32), e_Reader_find_v1_3 n P F A J x0 x3 x4 = some w → k_run t lg (d) 49 3 [(0, .long (x0)), (2, .ref (37 * 1024 + 8)), (3, .int x3), (4, .int x4)] [] (c_h c B P F A J) (some (.int w), c_h c B P F A J) := fun _ _ _ _ _ _ _ _  h => ih  h
    unfold e_Reader_find_v1_3 at hD
    refine k_runB (pc' := 6) (loc' := [(0, .long (x0)), (2, .ref (37 * 1024 + 8)), (3, .int x3), (4, .int x4)]) (st' := [.int x3, .int x4]) 2 rfl ?_
    refine k_ic rfl (fun c6_0 => ?_) (fun c6_0 => ?_)
    · rw [c6_0, cond_true] at hD
      refine k_runB (pc' := 35) (loc' := [(0, .long (x0)), (2, .ref (37 * 1024 + 8)), (3, .int x3), (4, .int x4)]) (st' := [.int ((-1))]) 1 rfl ?_
      cases hD
      exact k_iret rfl rfl
    · rw [c6_0, cond_false] at hD
      refine k_runB (pc' := 12) (loc' := [(0, .long (x0)), (2, .ref (37 * 1024 + 8)), (3, .int x3), (4, .int x4)]) (st' := [.ref (37 * 1024 + 8), .int x4]) 2 rfl ?_
      refine k_cln 37 8 (K := 11) rfl rfl rfl rfl ?_
      refine k_ic rfl (fun c13_1 => ?_) (fun c13_1 => ?_)
      · rw [c13_1, cond_true] at hD
        refine k_runB (pc' := 35) (loc' := [(0, .long (x0)), (2, .ref (37 * 1024 + 8)), (3, .int x3), (4, .int x4)]) (st' := [.int ((-1))]) 1 rfl ?_
        cases hD
        exact k_iret rfl rfl
      · rw [c13_1, cond_false] at hD
        refine k_runB (pc' := 19) (loc' := [(0, .long (x0)), (2, .ref (37 * 1024 + 8)), (3, .int x3), (4, .int x4)]) (st' := [.int x4, .ref (37 * 1024 + 8)]) 2 rfl ?_
        obtain ⟨v3, hv3, hD⟩ := Option.bind_eq_some_iff.mp hD
        refine k_ldL rfl (c_get (r := 37) (o := 8) (K := 11) rfl (by decide)) hv3 ?_
        refine k_runB (pc' := 22) (loc' := [(0, .long (x0)), (2, .ref (37 * 1024 + 8)), (3, .int x3), (4, .int x4)]) (st' := [.int (lg_cmp v3 x0)]) 2 rfl ?_
        refine k_if rfl (fun c22_3 => ?_) (fun c22_3 => ?_)
        · rw [c22_3, cond_true] at hD
          refine k_runB (pc' := 3) (loc' := [(0, .long (x0)), (2, .ref (37 * 1024 + 8)), (3, .int x3), (4, .int (x4 + 1))]) (st' := []) 2 rfl ?_
          refine k_wk [0, 2, 3, 4] (loc' := [(0, .long (x0)), (2, .ref (37 * 1024 + 8)), (3, .int x3), (4, .int (x4 + 1))]) rfl rfl ?_
          exact hK3 _ _ _ _ _ _ _ _  hD
        · rw [c22_3, cond_false] at hD
          refine k_runB (pc' := 27) (loc' := [(0, .long (x0)), (2, .ref (37 * 1024 + 8)), (3, .int x3), (4, .int x4)]) (st' := [.int x4]) 1 rfl ?_
          cases hD
          exact k_iret rfl rfl
/-- SleepWork$Reader.find(J[JI)I  -/
def e_Reader_find_v1 (n : Nat) (P : Nat → Nat → Nat) (F : Nat → Nat → Int32) (A : Nat → Nat → Nat → Int32) (J : Nat → Nat → Nat → Int64) (x0 : Int64) (x3 : Int32) : Option (Int32) :=
  e_Reader_find_v1_3 n P F A J x0 x3 0
set_option maxRecDepth 10000 in
theorem t_e_Reader_find_v1 {n : Nat} {P : Nat → Nat → Nat} {F : Nat → Nat → Int32} {A : Nat → Nat → Nat → Int32} {J : Nat → Nat → Nat → Int64} {x0 : Int64} {x3 : Int32}  {w : Int32} : e_Reader_find_v1 n P F A J x0 x3 = some w → k_run t lg (d) 49 0 [(0, .long (x0)), (2, .ref (37 * 1024 + 8)), (3, .int x3)] [] (c_h c B P F A J) (some (.int w), c_h c B P F A J) := by
  intro hD
  unfold e_Reader_find_v1 at hD
  refine k_runB (pc' := 3) (loc' := [(0, .long (x0)), (2, .ref (37 * 1024 + 8)), (3, .int x3), (4, .int 0)]) (st' := []) 2 rfl ?_
  refine k_wk [0, 2, 3, 4] (loc' := [(0, .long (x0)), (2, .ref (37 * 1024 + 8)), (3, .int x3), (4, .int 0)]) rfl rfl ?_
  exact t_e_Reader_find_v1_3   hD
def e_Reader_find_v2_3 : Nat → (Nat → Nat → Nat) → (Nat → Nat → Int32) → (Nat → Nat → Nat → Int32) → (Nat → Nat → Nat → Int64) → Int64 → Int32 → Int32 → Option (Int32)
  | 0, _, _, _, _, _, _, _ => none
  | n + 1, P, F, A, J, x0, x3, x4 => cond (g_cnd .ge x4 x3)
    (some ((-1)))
    (cond (g_cnd .ge x4 (Int32.ofNat 6))
    (some ((-1)))
    ((m_ldJ (J 37 9) 6 x4).bind fun v3 =>
    cond (g_cnd .ne (lg_cmp v3 x0) 0)
    ((e_Reader_find_v2_3 n) P F A J x0 x3 (x4 + 1))
    (some (x4))))
set_option maxRecDepth 10000 in
theorem t_e_Reader_find_v2_3 {n : Nat}  {P : Nat → Nat → Nat} {F : Nat → Nat → Int32} {A : Nat → Nat → Nat → Int32} {J : Nat → Nat → Nat → Int64} {x0 : Int64} {x3 : Int32} {x4 : Int32}  {w : Int32} : e_Reader_find_v2_3 n P F A J x0 x3 x4 = some w → k_run t lg (d) 49 3 [(0, .long (x0)), (2, .ref (37 * 1024 + 9)), (3, .int x3), (4, .int x4)] [] (c_h c B P F A J) (some (.int w), c_h c B P F A J) := by
  induction n generalizing P F A J x0 x3 x4 w with
  | zero => intro hD; cases hD
  | succ n ih =>
    intro hD
    have hK3 : ∀ (P : Nat → Nat → Nat) (F : Nat → Nat → Int32) (A : Nat → Nat → Nat → Int32) (J : Nat → Nat → Nat → Int64) (x0 : Int64) (x3 : Int32) (x4 : Int32) (w : Int32), e_Reader_find_v2_3 n P F A J x0 x3 x4 = some w → k_run t lg (d) 49 3 [(0, .long (x0)), (2, .ref (37 * 1024 + 9)), (3, .int x3), (4, .int x4)] [] (c_h c B P F A J) (some (.int w), c_h c B P F A J) := fun _ _ _ _ _ _ _ _  h => ih  h
    unfold e_Reader_find_v2_3 at hD
    refine k_runB (pc' := 6) (loc' := [(0, .long (x0)), (2, .ref (37 * 1024 + 9)), (3, .int x3), (4, .int x4)]) (st' := [.int x3, .int x4]) 2 rfl ?_
    refine k_ic rfl (fun c6_0 => ?_) (fun c6_0 => ?_)
    · rw [c6_0, cond_true] at hD
      refine k_runB (pc' := 35) (loc' := [(0, .long (x0)), (2, .ref (37 * 1024 + 9)), (3, .int x3), (4, .int x4)]) (st' := [.int ((-1))]) 1 rfl ?_
      cases hD
      exact k_iret rfl rfl
    · rw [c6_0, cond_false] at hD
      refine k_runB (pc' := 12) (loc' := [(0, .long (x0)), (2, .ref (37 * 1024 + 9)), (3, .int x3), (4, .int x4)]) (st' := [.ref (37 * 1024 + 9), .int x4]) 2 rfl ?_
      refine k_cln 37 9 (K := 11) rfl rfl rfl rfl ?_
      refine k_ic rfl (fun c13_1 => ?_) (fun c13_1 => ?_)
      · rw [c13_1, cond_true] at hD
        refine k_runB (pc' := 35) (loc' := [(0, .long (x0)), (2, .ref (37 * 1024 + 9)), (3, .int x3), (4, .int x4)]) (st' := [.int ((-1))]) 1 rfl ?_
        cases hD
        exact k_iret rfl rfl
      · rw [c13_1, cond_false] at hD
        refine k_runB (pc' := 19) (loc' := [(0, .long (x0)), (2, .ref (37 * 1024 + 9)), (3, .int x3), (4, .int x4)]) (st' := [.int x4, .ref (37 * 1024 + 9)]) 2 rfl ?_
        obtain ⟨v3, hv3, hD⟩ := Option.bind_eq_some_iff.mp hD
        refine k_ldL rfl (c_get (r := 37) (o := 9) (K := 11) rfl (by decide)) hv3 ?_
        refine k_runB (pc' := 22) (loc' := [(0, .long (x0)), (2, .ref (37 * 1024 + 9)), (3, .int x3), (4, .int x4)]) (st' := [.int (lg_cmp v3 x0)]) 2 rfl ?_
        refine k_if rfl (fun c22_3 => ?_) (fun c22_3 => ?_)
        · rw [c22_3, cond_true] at hD
          refine k_runB (pc' := 3) (loc' := [(0, .long (x0)), (2, .ref (37 * 1024 + 9)), (3, .int x3), (4, .int (x4 + 1))]) (st' := []) 2 rfl ?_
          refine k_wk [0, 2, 3, 4] (loc' := [(0, .long (x0)), (2, .ref (37 * 1024 + 9)), (3, .int x3), (4, .int (x4 + 1))]) rfl rfl ?_
          exact hK3 _ _ _ _ _ _ _ _  hD
        · rw [c22_3, cond_false] at hD
          refine k_runB (pc' := 27) (loc' := [(0, .long (x0)), (2, .ref (37 * 1024 + 9)), (3, .int x3), (4, .int x4)]) (st' := [.int x4]) 1 rfl ?_
          cases hD
          exact k_iret rfl rfl
/-- SleepWork$Reader.find(J[JI)I  -/
def e_Reader_find_v2 (n : Nat) (P : Nat → Nat → Nat) (F : Nat → Nat → Int32) (A : Nat → Nat → Nat → Int32) (J : Nat → Nat → Nat → Int64) (x0 : Int64) (x3 : Int32) : Option (Int32) :=
  e_Reader_find_v2_3 n P F A J x0 x3 0
set_option maxRecDepth 10000 in
theorem t_e_Reader_find_v2 {n : Nat} {P : Nat → Nat → Nat} {F : Nat → Nat → Int32} {A : Nat → Nat → Nat → Int32} {J : Nat → Nat → Nat → Int64} {x0 : Int64} {x3 : Int32}  {w : Int32} : e_Reader_find_v2 n P F A J x0 x3 = some w → k_run t lg (d) 49 0 [(0, .long (x0)), (2, .ref (37 * 1024 + 9)), (3, .int x3)] [] (c_h c B P F A J) (some (.int w), c_h c B P F A J) := by
  intro hD
  unfold e_Reader_find_v2 at hD
  refine k_runB (pc' := 3) (loc' := [(0, .long (x0)), (2, .ref (37 * 1024 + 9)), (3, .int x3), (4, .int 0)]) (st' := []) 2 rfl ?_
  refine k_wk [0, 2, 3, 4] (loc' := [(0, .long (x0)), (2, .ref (37 * 1024 + 9)), (3, .int x3), (4, .int 0)]) rfl rfl ?_
  exact t_e_Reader_find_v2_3   hD
def e_Reader_find_v3_3 : Nat → (Nat → Nat → Nat) → (Nat → Nat → Int32) → (Nat → Nat → Nat → Int32) → (Nat → Nat → Nat → Int64) → Int64 → Int32 → Int32 → Option (Int32)
  | 0, _, _, _, _, _, _, _ => none
  | n + 1, P, F, A, J, x0, x3, x4 => cond (g_cnd .ge x4 x3)
    (some ((-1)))
    (cond (g_cnd .ge x4 (Int32.ofNat 6))
    (some ((-1)))
    ((m_ldJ (J 37 10) 6 x4).bind fun v3 =>
    cond (g_cnd .ne (lg_cmp v3 x0) 0)
    ((e_Reader_find_v3_3 n) P F A J x0 x3 (x4 + 1))
    (some (x4))))
set_option maxRecDepth 10000 in
theorem t_e_Reader_find_v3_3 {n : Nat}  {P : Nat → Nat → Nat} {F : Nat → Nat → Int32} {A : Nat → Nat → Nat → Int32} {J : Nat → Nat → Nat → Int64} {x0 : Int64} {x3 : Int32} {x4 : Int32}  {w : Int32} : e_Reader_find_v3_3 n P F A J x0 x3 x4 = some w → k_run t lg (d) 49 3 [(0, .long (x0)), (2, .ref (37 * 1024 + 10)), (3, .int x3), (4, .int x4)] [] (c_h c B P F A J) (some (.int w), c_h c B P F A J) := by
  induction n generalizing P F A J x0 x3 x4 w with
  | zero => intro hD; cases hD
  | succ n ih =>
    intro hD
    have hK3 : ∀ (P : Nat → Nat → Nat) (F : Nat → Nat → Int32) (A : Nat → Nat → Nat → Int32) (J : Nat → Nat → Nat → Int64) (x0 : Int64) (x3 : Int32) (x4 : Int32) (w : Int32), e_Reader_find_v3_3 n P F A J x0 x3 x4 = some w → k_run t lg (d) 49 3 [(0, .long (x0)), (2, .ref (37 * 1024 + 10)), (3, .int x3), (4, .int x4)] [] (c_h c B P F A J) (some (.int w), c_h c B P F A J) := fun _ _ _ _ _ _ _ _  h => ih  h
    unfold e_Reader_find_v3_3 at hD
    refine k_runB (pc' := 6) (loc' := [(0, .long (x0)), (2, .ref (37 * 1024 + 10)), (3, .int x3), (4, .int x4)]) (st' := [.int x3, .int x4]) 2 rfl ?_
    refine k_ic rfl (fun c6_0 => ?_) (fun c6_0 => ?_)
    · rw [c6_0, cond_true] at hD
      refine k_runB (pc' := 35) (loc' := [(0, .long (x0)), (2, .ref (37 * 1024 + 10)), (3, .int x3), (4, .int x4)]) (st' := [.int ((-1))]) 1 rfl ?_
      cases hD
      exact k_iret rfl rfl
    · rw [c6_0, cond_false] at hD
      refine k_runB (pc' := 12) (loc' := [(0, .long (x0)), (2, .ref (37 * 1024 + 10)), (3, .int x3), (4, .int x4)]) (st' := [.ref (37 * 1024 + 10), .int x4]) 2 rfl ?_
      refine k_cln 37 10 (K := 11) rfl rfl rfl rfl ?_
      refine k_ic rfl (fun c13_1 => ?_) (fun c13_1 => ?_)
      · rw [c13_1, cond_true] at hD
        refine k_runB (pc' := 35) (loc' := [(0, .long (x0)), (2, .ref (37 * 1024 + 10)), (3, .int x3), (4, .int x4)]) (st' := [.int ((-1))]) 1 rfl ?_
        cases hD
        exact k_iret rfl rfl
      · rw [c13_1, cond_false] at hD
        refine k_runB (pc' := 19) (loc' := [(0, .long (x0)), (2, .ref (37 * 1024 + 10)), (3, .int x3), (4, .int x4)]) (st' := [.int x4, .ref (37 * 1024 + 10)]) 2 rfl ?_
        obtain ⟨v3, hv3, hD⟩ := Option.bind_eq_some_iff.mp hD
        refine k_ldL rfl (c_get (r := 37) (o := 10) (K := 11) rfl (by decide)) hv3 ?_
        refine k_runB (pc' := 22) (loc' := [(0, .long (x0)), (2, .ref (37 * 1024 + 10)), (3, .int x3), (4, .int x4)]) (st' := [.int (lg_cmp v3 x0)]) 2 rfl ?_
        refine k_if rfl (fun c22_3 => ?_) (fun c22_3 => ?_)
        · rw [c22_3, cond_true] at hD
          refine k_runB (pc' := 3) (loc' := [(0, .long (x0)), (2, .ref (37 * 1024 + 10)), (3, .int x3), (4, .int (x4 + 1))]) (st' := []) 2 rfl ?_
          refine k_wk [0, 2, 3, 4] (loc' := [(0, .long (x0)), (2, .ref (37 * 1024 + 10)), (3, .int x3), (4, .int (x4 + 1))]) rfl rfl ?_
          exact hK3 _ _ _ _ _ _ _ _  hD
        · rw [c22_3, cond_false] at hD
          refine k_runB (pc' := 27) (loc' := [(0, .long (x0)), (2, .ref (37 * 1024 + 10)), (3, .int x3), (4, .int x4)]) (st' := [.int x4]) 1 rfl ?_
          cases hD
          exact k_iret rfl rfl
/-- SleepWork$Reader.find(J[JI)I  -/
def e_Reader_find_v3 (n : Nat) (P : Nat → Nat → Nat) (F : Nat → Nat → Int32) (A : Nat → Nat → Nat → Int32) (J : Nat → Nat → Nat → Int64) (x0 : Int64) (x3 : Int32) : Option (Int32) :=
  e_Reader_find_v3_3 n P F A J x0 x3 0
set_option maxRecDepth 10000 in
theorem t_e_Reader_find_v3 {n : Nat} {P : Nat → Nat → Nat} {F : Nat → Nat → Int32} {A : Nat → Nat → Nat → Int32} {J : Nat → Nat → Nat → Int64} {x0 : Int64} {x3 : Int32}  {w : Int32} : e_Reader_find_v3 n P F A J x0 x3 = some w → k_run t lg (d) 49 0 [(0, .long (x0)), (2, .ref (37 * 1024 + 10)), (3, .int x3)] [] (c_h c B P F A J) (some (.int w), c_h c B P F A J) := by
  intro hD
  unfold e_Reader_find_v3 at hD
  refine k_runB (pc' := 3) (loc' := [(0, .long (x0)), (2, .ref (37 * 1024 + 10)), (3, .int x3), (4, .int 0)]) (st' := []) 2 rfl ?_
  refine k_wk [0, 2, 3, 4] (loc' := [(0, .long (x0)), (2, .ref (37 * 1024 + 10)), (3, .int x3), (4, .int 0)]) rfl rfl ?_
  exact t_e_Reader_find_v3_3   hD
/-- SleepWork$Reader.failLate(I)V  -/
def e_Reader_failLate (P : Nat → Nat → Nat) (F : Nat → Nat → Int32) (A : Nat → Nat → Nat → Int32) (J : Nat → Nat → Nat → Int64) (x1 : Int32) : Option (Unit × (Nat → Nat → Nat) × (Nat → Nat → Int32) × (Nat → Nat → Nat → Int32) × (Nat → Nat → Nat → Int64)) :=
  cond (g_cnd .ne (F 37 12) 0)
  (some ((), P, F, A, J))
  ((c_pf F 37 12 x1).bind fun F2 =>
  (m_ld (A 37 3) 401 (F2 37 8)).bind fun v3 =>
  (c_pf F2 37 13 v3).bind fun F4 =>
  some ((), P, F4, A, J))
set_option maxRecDepth 10000 in
theorem t_e_Reader_failLate (ht : ∀ ci k, t.1 ci k = k_ty ci k) {P : Nat → Nat → Nat} {F : Nat → Nat → Int32} {A : Nat → Nat → Nat → Int32} {J : Nat → Nat → Nat → Int64} {x1 : Int32}  {w : Unit × (Nat → Nat → Nat) × (Nat → Nat → Int32) × (Nat → Nat → Nat → Int32) × (Nat → Nat → Nat → Int64)} : e_Reader_failLate P F A J x1 = some w → k_run t lg (d) 43 0 [(0, .ref (37 * 1024)), (1, .int x1)] [] (c_h c B P F A J) (none, c_h c B w.2.1 w.2.2.1 w.2.2.2.1 w.2.2.2.2) := by
  intro hD
  unfold e_Reader_failLate at hD
  refine k_runB (pc' := 1) (loc' := [(0, .ref (37 * 1024)), (1, .int x1)]) (st' := [.ref (37 * 1024)]) 1 rfl ?_
  refine k_gf 37 0 (K := 11) rfl rfl rfl rfl rfl ?_
  refine k_if rfl (fun c4_0 => ?_) (fun c4_0 => ?_)
  · rw [c4_0, cond_true] at hD
    cases hD
    exact k_vret rfl rfl
  · rw [c4_0, cond_false] at hD
    refine k_runB (pc' := 9) (loc' := [(0, .ref (37 * 1024)), (1, .int x1)]) (st' := [.int x1, .ref (37 * 1024)]) 2 rfl ?_
    obtain ⟨F2, hF2, hD⟩ := Option.bind_eq_some_iff.mp hD
    refine k_cpt 37 0 (K := 11) (key := 12) rfl rfl (ht 4 12) rfl rfl rfl hF2 ?_
    refine k_runB (pc' := 14) (loc' := [(0, .ref (37 * 1024)), (1, .int x1)]) (st' := [.ref (37 * 1024), .ref (37 * 1024)]) 2 rfl ?_
    refine k_gf 37 0 (K := 11) rfl rfl rfl rfl rfl ?_
    refine k_gf 37 1 (K := 11) rfl rfl rfl rfl rfl ?_
    refine k_runB (pc' := 21) (loc' := [(0, .ref (37 * 1024)), (1, .int x1)]) (st' := [.ref (37 * 1024), .ref (37 * 1024 + 3), .ref (37 * 1024)]) 1 rfl ?_
    refine k_gf 37 0 (K := 11) rfl rfl rfl rfl rfl ?_
    obtain ⟨v3, hv3, hD⟩ := Option.bind_eq_some_iff.mp hD
    refine k_ldI rfl (c_get (r := 37) (o := 3) (K := 11) rfl (by decide)) hv3 ?_
    obtain ⟨F4, hF4, hD⟩ := Option.bind_eq_some_iff.mp hD
    refine k_cpt 37 0 (K := 11) (key := 13) rfl rfl (ht 4 13) rfl rfl rfl hF4 ?_
    cases hD
    exact k_vret rfl rfl
def e_Reader_takeNewName_106 (n : Nat) (P : Nat → Nat → Nat) (F : Nat → Nat → Int32) (A : Nat → Nat → Nat → Int32) (J : Nat → Nat → Nat → Int64) (x2 : Int32) (x3 : Int64) : Option (Unit × (Nat → Nat → Nat) × (Nat → Nat → Int32) × (Nat → Nat → Nat → Int32) × (Nat → Nat → Nat → Int64)) :=
    (c_stJ J 37 7 8 x2 x3).bind fun J27 =>
    some ((), P, F, A, J27)
set_option maxRecDepth 10000 in
theorem t_e_Reader_takeNewName_106 (ht : ∀ ci k, t.1 ci k = k_ty ci k) {n : Nat}  {P : Nat → Nat → Nat} {F : Nat → Nat → Int32} {A : Nat → Nat → Nat → Int32} {J : Nat → Nat → Nat → Int64} {x2 : Int32} {x3 : Int64}  {w : Unit × (Nat → Nat → Nat) × (Nat → Nat → Int32) × (Nat → Nat → Nat → Int32) × (Nat → Nat → Nat → Int64)} : e_Reader_takeNewName_106 n P F A J x2 x3 = some w → k_run t lg (d + 2) 47 106 [(0, .ref (37 * 1024)), (1, .ref (37 * 1024 + 7)), (2, .int x2), (3, .long (x3))] [] (c_h c B P F A J) (none, c_h c B w.2.1 w.2.2.1 w.2.2.2.1 w.2.2.2.2) := by
  intro hD
  unfold e_Reader_takeNewName_106 at hD
  refine k_runB (pc' := 109) (loc' := [(0, .ref (37 * 1024)), (1, .ref (37 * 1024 + 7)), (2, .int x2), (3, .long (x3))]) (st' := [.long (x3), .int x2, .ref (37 * 1024 + 7)]) 3 rfl ?_
  obtain ⟨J27, hJ27, hD⟩ := Option.bind_eq_some_iff.mp hD
  refine k_cstL 37 7 (K := 11) rfl rfl rfl rfl (fun _ => rfl) hJ27 ?_
  cases hD
  exact k_vret rfl rfl
def e_Reader_takeNewName_101 (n : Nat) (P : Nat → Nat → Nat) (F : Nat → Nat → Int32) (A : Nat → Nat → Nat → Int32) (J : Nat → Nat → Nat → Int64) (x2 : Int32) (x3 : Int64) : Option (Unit × (Nat → Nat → Nat) × (Nat → Nat → Int32) × (Nat → Nat → Nat → Int32) × (Nat → Nat → Nat → Int64)) :=
    (e_Reader_failLate P F A J 3).bind fun (_, P22, F23, A24, J25) =>
    (c_stJ J25 37 7 8 x2 x3).bind fun J26 =>
    some ((), P22, F23, A24, J26)
set_option maxRecDepth 10000 in
theorem t_e_Reader_takeNewName_101 (ht : ∀ ci k, t.1 ci k = k_ty ci k) {n : Nat}  {P : Nat → Nat → Nat} {F : Nat → Nat → Int32} {A : Nat → Nat → Nat → Int32} {J : Nat → Nat → Nat → Int64} {x2 : Int32} {x3 : Int64}  {w : Unit × (Nat → Nat → Nat) × (Nat → Nat → Int32) × (Nat → Nat → Nat → Int32) × (Nat → Nat → Nat → Int64)} : e_Reader_takeNewName_101 n P F A J x2 x3 = some w → k_run t lg (d + 2) 47 101 [(0, .ref (37 * 1024)), (1, .ref (37 * 1024 + 7)), (2, .int x2), (3, .long (x3))] [] (c_h c B P F A J) (none, c_h c B w.2.1 w.2.2.1 w.2.2.2.1 w.2.2.2.2) := by
  intro hD
  unfold e_Reader_takeNewName_101 at hD
  refine k_runB (pc' := 103) (loc' := [(0, .ref (37 * 1024)), (1, .ref (37 * 1024 + 7)), (2, .int x2), (3, .long (x3))]) (st' := [.int 3, .ref (37 * 1024)]) 2 rfl ?_
  obtain ⟨⟨v21, P22, F23, A24, J25⟩, hv21, hD⟩ := Option.bind_eq_some_iff.mp hD
  dsimp only at hD
  refine k_runV rfl rfl rfl (c_get (r := 37) (o := 0) (K := 11) rfl (by decide)) rfl rfl (t_e_Reader_failLate (d := d + 1) ht hv21) ?_
  refine k_runB (pc' := 109) (loc' := [(0, .ref (37 * 1024)), (1, .ref (37 * 1024 + 7)), (2, .int x2), (3, .long (x3))]) (st' := [.long (x3), .int x2, .ref (37 * 1024 + 7)]) 3 rfl ?_
  obtain ⟨J26, hJ26, hD⟩ := Option.bind_eq_some_iff.mp hD
  refine k_cstL 37 7 (K := 11) rfl rfl rfl rfl (fun _ => rfl) hJ26 ?_
  cases hD
  exact k_vret rfl rfl
/-- SleepWork$Reader.takeNewName([JI)V  -/
def e_Reader_takeNewName (n : Nat) (P : Nat → Nat → Nat) (F : Nat → Nat → Int32) (A : Nat → Nat → Nat → Int32) (J : Nat → Nat → Nat → Int64) (x2 : Int32) : Option (Unit × (Nat → Nat → Nat) × (Nat → Nat → Int32) × (Nat → Nat → Nat → Int32) × (Nat → Nat → Nat → Int64)) :=
  (e_Reader_take P F A J 100).bind fun (v1, P2, F3, A4, J5) =>
  cond (g_cnd .eq v1 0)
  (some ((), P2, F3, A4, J5))
  (cond (g_cnd .lt x2 (Int32.ofNat 8))
  ((m_ldJ (J5 37 5) 401 (F3 37 8)).bind fun v8 =>
  (c_chk 6 (P2 37 5)).bind fun q9 =>
  (e_Reader_find n P2 F3 A4 J5 v8 (F3 q9 13)).bind fun v10 =>
  cond (g_cnd .ge v10 0)
  (e_Reader_takeNewName_101 n P2 F3 A4 J5 x2 v8)
  ((c_chk 6 (P2 37 5)).bind fun q12 =>
  (e_Reader_find_v1 n P2 F3 A4 J5 v8 (F3 q12 15)).bind fun v13 =>
  cond (g_cnd .ge v13 0)
  (e_Reader_takeNewName_101 n P2 F3 A4 J5 x2 v8)
  ((c_chk 6 (P2 37 5)).bind fun q15 =>
  (e_Reader_find_v2 n P2 F3 A4 J5 v8 (F3 q15 16)).bind fun v16 =>
  cond (g_cnd .ge v16 0)
  (e_Reader_takeNewName_101 n P2 F3 A4 J5 x2 v8)
  ((c_chk 6 (P2 37 5)).bind fun q18 =>
  (e_Reader_find_v3 n P2 F3 A4 J5 v8 (F3 q18 17)).bind fun v19 =>
  cond (g_cnd .lt v19 0)
  (e_Reader_takeNewName_106 n P2 F3 A4 J5 x2 v8)
  (e_Reader_takeNewName_101 n P2 F3 A4 J5 x2 v8)))))
  (some ((), P2, F3, A4, J5)))
set_option maxRecDepth 10000 in
theorem t_e_Reader_takeNewName (ht : ∀ ci k, t.1 ci k = k_ty ci k) {n : Nat} {P : Nat → Nat → Nat} {F : Nat → Nat → Int32} {A : Nat → Nat → Nat → Int32} {J : Nat → Nat → Nat → Int64} {x2 : Int32}  {w : Unit × (Nat → Nat → Nat) × (Nat → Nat → Int32) × (Nat → Nat → Nat → Int32) × (Nat → Nat → Nat → Int64)} : e_Reader_takeNewName n P F A J x2 = some w → k_run t lg (d + 2) 47 0 [(0, .ref (37 * 1024)), (1, .ref (37 * 1024 + 7)), (2, .int x2)] [] (c_h c B P F A J) (none, c_h c B w.2.1 w.2.2.1 w.2.2.2.1 w.2.2.2.2) := by
  intro hD
  unfold e_Reader_takeNewName at hD
  refine k_runB (pc' := 3) (loc' := [(0, .ref (37 * 1024)), (1, .ref (37 * 1024 + 7)), (2, .int x2)]) (st' := [.int 100, .ref (37 * 1024)]) 2 rfl ?_
  obtain ⟨⟨v1, P2, F3, A4, J5⟩, hv1, hD⟩ := Option.bind_eq_some_iff.mp hD
  dsimp only at hD
  refine k_runV rfl rfl rfl (c_get (r := 37) (o := 0) (K := 11) rfl (by decide)) rfl rfl (t_e_Reader_take (d := d) ht hv1) ?_
  refine k_if rfl (fun c6_5 => ?_) (fun c6_5 => ?_)
  · rw [c6_5, cond_true] at hD
    cases hD
    exact k_vret rfl rfl
  · rw [c6_5, cond_false] at hD
    refine k_runB (pc' := 11) (loc' := [(0, .ref (37 * 1024)), (1, .ref (37 * 1024 + 7)), (2, .int x2)]) (st' := [.ref (37 * 1024 + 7), .int x2]) 2 rfl ?_
    refine k_cln 37 7 (K := 11) rfl rfl rfl rfl ?_
    refine k_ic rfl (fun c12_6 => ?_) (fun c12_6 => ?_)
    · rw [c12_6, cond_true] at hD
      refine k_runB (pc' := 17) (loc' := [(0, .ref (37 * 1024)), (1, .ref (37 * 1024 + 7)), (2, .int x2)]) (st' := [.ref (37 * 1024)]) 1 rfl ?_
      refine k_gf 37 0 (K := 11) rfl rfl rfl rfl rfl ?_
      refine k_gf 37 1 (K := 11) rfl rfl rfl rfl rfl ?_
      refine k_runB (pc' := 24) (loc' := [(0, .ref (37 * 1024)), (1, .ref (37 * 1024 + 7)), (2, .int x2)]) (st' := [.ref (37 * 1024), .ref (37 * 1024 + 5)]) 1 rfl ?_
      refine k_gf 37 0 (K := 11) rfl rfl rfl rfl rfl ?_
      obtain ⟨v8, hv8, hD⟩ := Option.bind_eq_some_iff.mp hD
      refine k_ldL rfl (c_get (r := 37) (o := 5) (K := 11) rfl (by decide)) hv8 ?_
      refine k_runB (pc' := 31) (loc' := [(0, .ref (37 * 1024)), (1, .ref (37 * 1024 + 7)), (2, .int x2), (3, .long (v8))]) (st' := [.ref (37 * 1024), .long (v8)]) 3 rfl ?_
      refine k_gf 37 0 (K := 11) rfl rfl rfl rfl rfl ?_
      refine k_runB (pc' := 35) (loc' := [(0, .ref (37 * 1024)), (1, .ref (37 * 1024 + 7)), (2, .int x2), (3, .long (v8))]) (st' := [.ref (37 * 1024), .ref (37 * 1024 + 7), .long (v8)]) 1 rfl ?_
      obtain ⟨q9, hq9, hD⟩ := Option.bind_eq_some_iff.mp hD
      refine k_gq 37 0 (K := 11) (K2 := 6) (key := 5) rfl rfl rfl rfl rfl hq9 (fun kq9 => ?_)
      refine k_gf q9 0 (K := 6) kq9 rfl rfl rfl rfl ?_
      obtain ⟨v10, hv10, hD⟩ := Option.bind_eq_some_iff.mp hD
      refine k_runC rfl rfl rfl rfl (t_e_Reader_find (d := d + 1) hv10) ?_
      refine k_if rfl (fun c44_10 => ?_) (fun c44_10 => ?_)
      · rw [c44_10, cond_true] at hD
        refine k_wk [0, 1, 2, 3] (loc' := [(0, .ref (37 * 1024)), (1, .ref (37 * 1024 + 7)), (2, .int x2), (3, .long (v8))]) rfl rfl ?_
        exact t_e_Reader_takeNewName_101 ht   hD
      · rw [c44_10, cond_false] at hD
        refine k_runB (pc' := 49) (loc' := [(0, .ref (37 * 1024)), (1, .ref (37 * 1024 + 7)), (2, .int x2), (3, .long (v8))]) (st' := [.ref (37 * 1024), .long (v8)]) 2 rfl ?_
        refine k_gf 37 0 (K := 11) rfl rfl rfl rfl rfl ?_
        refine k_runB (pc' := 53) (loc' := [(0, .ref (37 * 1024)), (1, .ref (37 * 1024 + 7)), (2, .int x2), (3, .long (v8))]) (st' := [.ref (37 * 1024), .ref (37 * 1024 + 8), .long (v8)]) 1 rfl ?_
        obtain ⟨q12, hq12, hD⟩ := Option.bind_eq_some_iff.mp hD
        refine k_gq 37 0 (K := 11) (K2 := 6) (key := 5) rfl rfl rfl rfl rfl hq12 (fun kq12 => ?_)
        refine k_gf q12 0 (K := 6) kq12 rfl rfl rfl rfl ?_
        obtain ⟨v13, hv13, hD⟩ := Option.bind_eq_some_iff.mp hD
        refine k_runC rfl rfl rfl rfl (t_e_Reader_find_v1 (d := d + 1) hv13) ?_
        refine k_if rfl (fun c62_13 => ?_) (fun c62_13 => ?_)
        · rw [c62_13, cond_true] at hD
          refine k_wk [0, 1, 2, 3] (loc' := [(0, .ref (37 * 1024)), (1, .ref (37 * 1024 + 7)), (2, .int x2), (3, .long (v8))]) rfl rfl ?_
          exact t_e_Reader_takeNewName_101 ht   hD
        · rw [c62_13, cond_false] at hD
          refine k_runB (pc' := 67) (loc' := [(0, .ref (37 * 1024)), (1, .ref (37 * 1024 + 7)), (2, .int x2), (3, .long (v8))]) (st' := [.ref (37 * 1024), .long (v8)]) 2 rfl ?_
          refine k_gf 37 0 (K := 11) rfl rfl rfl rfl rfl ?_
          refine k_runB (pc' := 71) (loc' := [(0, .ref (37 * 1024)), (1, .ref (37 * 1024 + 7)), (2, .int x2), (3, .long (v8))]) (st' := [.ref (37 * 1024), .ref (37 * 1024 + 9), .long (v8)]) 1 rfl ?_
          obtain ⟨q15, hq15, hD⟩ := Option.bind_eq_some_iff.mp hD
          refine k_gq 37 0 (K := 11) (K2 := 6) (key := 5) rfl rfl rfl rfl rfl hq15 (fun kq15 => ?_)
          refine k_gf q15 0 (K := 6) kq15 rfl rfl rfl rfl ?_
          obtain ⟨v16, hv16, hD⟩ := Option.bind_eq_some_iff.mp hD
          refine k_runC rfl rfl rfl rfl (t_e_Reader_find_v2 (d := d + 1) hv16) ?_
          refine k_if rfl (fun c80_16 => ?_) (fun c80_16 => ?_)
          · rw [c80_16, cond_true] at hD
            refine k_wk [0, 1, 2, 3] (loc' := [(0, .ref (37 * 1024)), (1, .ref (37 * 1024 + 7)), (2, .int x2), (3, .long (v8))]) rfl rfl ?_
            exact t_e_Reader_takeNewName_101 ht   hD
          · rw [c80_16, cond_false] at hD
            refine k_runB (pc' := 85) (loc' := [(0, .ref (37 * 1024)), (1, .ref (37 * 1024 + 7)), (2, .int x2), (3, .long (v8))]) (st' := [.ref (37 * 1024), .long (v8)]) 2 rfl ?_
            refine k_gf 37 0 (K := 11) rfl rfl rfl rfl rfl ?_
            refine k_runB (pc' := 89) (loc' := [(0, .ref (37 * 1024)), (1, .ref (37 * 1024 + 7)), (2, .int x2), (3, .long (v8))]) (st' := [.ref (37 * 1024), .ref (37 * 1024 + 10), .long (v8)]) 1 rfl ?_
            obtain ⟨q18, hq18, hD⟩ := Option.bind_eq_some_iff.mp hD
            refine k_gq 37 0 (K := 11) (K2 := 6) (key := 5) rfl rfl rfl rfl rfl hq18 (fun kq18 => ?_)
            refine k_gf q18 0 (K := 6) kq18 rfl rfl rfl rfl ?_
            obtain ⟨v19, hv19, hD⟩ := Option.bind_eq_some_iff.mp hD
            refine k_runC rfl rfl rfl rfl (t_e_Reader_find_v3 (d := d + 1) hv19) ?_
            refine k_if rfl (fun c98_19 => ?_) (fun c98_19 => ?_)
            · rw [c98_19, cond_true] at hD
              refine k_wk [0, 1, 2, 3] (loc' := [(0, .ref (37 * 1024)), (1, .ref (37 * 1024 + 7)), (2, .int x2), (3, .long (v8))]) rfl rfl ?_
              exact t_e_Reader_takeNewName_106 ht   hD
            · rw [c98_19, cond_false] at hD
              refine k_wk [0, 1, 2, 3] (loc' := [(0, .ref (37 * 1024)), (1, .ref (37 * 1024 + 7)), (2, .int x2), (3, .long (v8))]) rfl rfl ?_
              exact t_e_Reader_takeNewName_101 ht   hD
    · rw [c12_6, cond_false] at hD
      cases hD
      exact k_vret rfl rfl
/-- SleepWork$Reader.readRoom()V  -/
def e_Reader_readRoom (n : Nat) (P : Nat → Nat → Nat) (F : Nat → Nat → Int32) (A : Nat → Nat → Nat → Int32) (J : Nat → Nat → Nat → Int64) : Option (Unit × (Nat → Nat → Nat) × (Nat → Nat → Int32) × (Nat → Nat → Nat → Int32) × (Nat → Nat → Nat → Int64)) :=
  (c_chk 6 (P 37 5)).bind fun q1 =>
  (e_Reader_takeFirst P F A J 0 (F q1 13) 8).bind fun (_, P3, F4, A5, J6) =>
  (c_chk 6 (P3 37 5)).bind fun q7 =>
  (e_Reader_takeNewName n P3 F4 A5 J6 (F4 q7 13)).bind fun (_, P9, F10, A11, J12) =>
  (e_Reader_take P9 F10 A11 J12 59).bind fun (v13, P14, F15, A16, J17) =>
  cond (g_cnd .eq v13 0)
  (some ((), P14, F15, A16, J17))
  ((c_chk 6 (P14 37 5)).bind fun q19 =>
  (c_pf F15 q19 13 ((F15 q19 13) + 1)).bind fun F20 =>
  some ((), P14, F20, A16, J17))
set_option maxRecDepth 10000 in
theorem t_e_Reader_readRoom (ht : ∀ ci k, t.1 ci k = k_ty ci k) {n : Nat} {P : Nat → Nat → Nat} {F : Nat → Nat → Int32} {A : Nat → Nat → Nat → Int32} {J : Nat → Nat → Nat → Int64}   {w : Unit × (Nat → Nat → Nat) × (Nat → Nat → Int32) × (Nat → Nat → Nat → Int32) × (Nat → Nat → Nat → Int64)} : e_Reader_readRoom n P F A J = some w → k_run t lg (d + 3) 52 0 [(0, .ref (37 * 1024))] [] (c_h c B P F A J) (none, c_h c B w.2.1 w.2.2.1 w.2.2.2.1 w.2.2.2.2) := by
  intro hD
  unfold e_Reader_readRoom at hD
  refine k_runB (pc' := 3) (loc' := [(0, .ref (37 * 1024))]) (st' := [.ref (37 * 1024), .int 0, .ref (37 * 1024)]) 3 rfl ?_
  obtain ⟨q1, hq1, hD⟩ := Option.bind_eq_some_iff.mp hD
  refine k_gq 37 0 (K := 11) (K2 := 6) (key := 5) rfl rfl rfl rfl rfl hq1 (fun kq1 => ?_)
  refine k_gf q1 0 (K := 6) kq1 rfl rfl rfl rfl ?_
  refine k_runB (pc' := 11) (loc' := [(0, .ref (37 * 1024))]) (st' := [.int 8, .int (F q1 13), .int 0, .ref (37 * 1024)]) 1 rfl ?_
  obtain ⟨⟨v2, P3, F4, A5, J6⟩, hv2, hD⟩ := Option.bind_eq_some_iff.mp hD
  dsimp only at hD
  refine k_runV rfl rfl rfl (c_get (r := 37) (o := 0) (K := 11) rfl (by decide)) rfl rfl (t_e_Reader_takeFirst (d := d) ht hv2) ?_
  refine k_runB (pc' := 16) (loc' := [(0, .ref (37 * 1024))]) (st' := [.ref (37 * 1024), .ref (37 * 1024)]) 2 rfl ?_
  refine k_gf 37 0 (K := 11) rfl rfl rfl rfl rfl ?_
  refine k_runB (pc' := 20) (loc' := [(0, .ref (37 * 1024))]) (st' := [.ref (37 * 1024), .ref (37 * 1024 + 7), .ref (37 * 1024)]) 1 rfl ?_
  obtain ⟨q7, hq7, hD⟩ := Option.bind_eq_some_iff.mp hD
  refine k_gq 37 0 (K := 11) (K2 := 6) (key := 5) rfl rfl rfl rfl rfl hq7 (fun kq7 => ?_)
  refine k_gf q7 0 (K := 6) kq7 rfl rfl rfl rfl ?_
  obtain ⟨⟨v8, P9, F10, A11, J12⟩, hv8, hD⟩ := Option.bind_eq_some_iff.mp hD
  dsimp only at hD
  refine k_runV rfl rfl rfl (c_get (r := 37) (o := 0) (K := 11) rfl (by decide)) rfl rfl (t_e_Reader_takeNewName (d := d) ht hv8) ?_
  refine k_runB (pc' := 32) (loc' := [(0, .ref (37 * 1024))]) (st' := [.int 59, .ref (37 * 1024)]) 2 rfl ?_
  obtain ⟨⟨v13, P14, F15, A16, J17⟩, hv13, hD⟩ := Option.bind_eq_some_iff.mp hD
  dsimp only at hD
  refine k_runV rfl rfl rfl (c_get (r := 37) (o := 0) (K := 11) rfl (by decide)) rfl rfl (t_e_Reader_take (d := d + 1) ht hv13) ?_
  refine k_if rfl (fun c35_17 => ?_) (fun c35_17 => ?_)
  · rw [c35_17, cond_true] at hD
    cases hD
    exact k_vret rfl rfl
  · rw [c35_17, cond_false] at hD
    refine k_runB (pc' := 39) (loc' := [(0, .ref (37 * 1024))]) (st' := [.ref (37 * 1024)]) 1 rfl ?_
    obtain ⟨q19, hq19, hD⟩ := Option.bind_eq_some_iff.mp hD
    refine k_gq 37 0 (K := 11) (K2 := 6) (key := 5) rfl rfl rfl rfl rfl hq19 (fun kq19 => ?_)
    refine k_runB (pc' := 43) (loc' := [(0, .ref (37 * 1024))]) (st' := [.ref (q19 * 1024), .ref (q19 * 1024)]) 1 rfl ?_
    refine k_gf q19 0 (K := 6) kq19 rfl rfl rfl rfl ?_
    refine k_runB (pc' := 48) (loc' := [(0, .ref (37 * 1024))]) (st' := [.int ((F15 q19 13) + 1), .ref (q19 * 1024)]) 2 rfl ?_
    obtain ⟨F20, hF20, hD⟩ := Option.bind_eq_some_iff.mp hD
    refine k_cpt q19 0 (K := 6) (key := 13) kq19 rfl (ht 1 13) rfl rfl rfl hF20 ?_
    cases hD
    exact k_vret rfl rfl
end MC
