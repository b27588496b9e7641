/-! the class's methods as functions (printed by wip/dec2.py) -/
section MC
variable {t : gT} {lg : Nat → Nat} {d : Nat} {c : Nat × Nat} {B : Nat → List gE}
def e_House_worth_21 : Nat → (Nat → Nat → Nat) → (Nat → Nat → Int32) → (Nat → Nat → Nat → Int32) → (Nat → Nat → Nat → Int64) → Nat → Nat → Int32 → Int32 → Int32 → Option (Int32)
  | 0, _, _, _, _, _, _, _, _, _ => none
  | n + 1, P, F, A, J, r0, r1, x3, x4, x5 => cond (g_cnd .ge x5 x4)
    (some (x3))
    ((m_ld (A r1 1) 36 x5).bind fun v3 =>
    (m_ld (A r0 7) 36 x5).bind fun v4 =>
    (m_ld (A r0 8) 36 x5).bind fun v5 =>
    (m_ld (A r1 1) 36 x5).bind fun v6 =>
    (m_ld (A r0 9) 36 x5).bind fun v7 =>
    (e_House_worth_21 n) P F A J r0 r1 (x3 + (((if v4 < v3 then v4 else v3) * v5) - ((v6 - (if v4 < v3 then v4 else v3)) * v7))) x4 (x5 + 1))
set_option maxRecDepth 10000 in
theorem t_e_House_worth_21 {n : Nat}  {P : Nat → Nat → Nat} {F : Nat → Nat → Int32} {A : Nat → Nat → Nat → Int32} {J : Nat → Nat → Nat → Int64} {r0 : Nat} {r1 : Nat} {x3 : Int32} {x4 : Int32} {x5 : Int32} (hr0 : c_kind r0 = 6) (hr1 : c_kind r1 = 2) {w : Int32} : e_House_worth_21 n P F A J r0 r1 x3 x4 x5 = some w → k_run t lg (d) 26 21 [(0, .ref (r0 * 1024)), (1, .ref (r1 * 1024)), (3, .int x3), (4, .int x4), (5, .int x5)] [] (c_h c B P F A J) (some (.int w), c_h c B P F A J) := by
  induction n generalizing P F A J r0 r1 x3 x4 x5 w with
  | zero => intro hD; cases hD
  | succ n ih =>
    intro hD
    have hK21 : ∀ (P : Nat → Nat → Nat) (F : Nat → Nat → Int32) (A : Nat → Nat → Nat → Int32) (J : Nat → Nat → Nat → Int64) (r0 : Nat) (r1 : Nat) (x3 : Int32) (x4 : Int32) (x5 : Int32) (w : Int32), c_kind r0 = 6 → c_kind r1 = 2 → e_House_worth_21 n P F A J r0 r1 x3 x4 x5 = some w → k_run t lg (d) 26 21 [(0, .ref (r0 * 1024)), (1, .ref (r1 * 1024)), (3, .int x3), (4, .int x4), (5, .int x5)] [] (c_h c B P F A J) (some (.int w), c_h c B P F A J) := fun _ _ _ _ _ _ _ _ _ _ kr0 kr1 h => ih kr0 kr1 h
    unfold e_House_worth_21 at hD
    refine k_runB (pc' := 25) (loc' := [(0, .ref (r0 * 1024)), (1, .ref (r1 * 1024)), (3, .int x3), (4, .int x4), (5, .int x5)]) (st' := [.int x4, .int x5]) 2 rfl ?_
    refine k_ic rfl (fun c25_1 => ?_) (fun c25_1 => ?_)
    · rw [c25_1, cond_true] at hD
      refine k_runB (pc' := 86) (loc' := [(0, .ref (r0 * 1024)), (1, .ref (r1 * 1024)), (3, .int x3), (4, .int x4), (5, .int x5)]) (st' := [.int x3]) 1 rfl ?_
      cases hD
      exact k_iret rfl rfl
    · rw [c25_1, cond_false] at hD
      refine k_runB (pc' := 29) (loc' := [(0, .ref (r0 * 1024)), (1, .ref (r1 * 1024)), (3, .int x3), (4, .int x4), (5, .int x5)]) (st' := [.ref (r1 * 1024)]) 1 rfl ?_
      refine k_gf r1 0 (K := 2) hr1 rfl rfl rfl rfl ?_
      refine k_runB (pc' := 34) (loc' := [(0, .ref (r0 * 1024)), (1, .ref (r1 * 1024)), (3, .int x3), (4, .int x4), (5, .int x5)]) (st' := [.int x5, .ref (r1 * 1024 + 1)]) 1 rfl ?_
      obtain ⟨v3, hv3, hD⟩ := Option.bind_eq_some_iff.mp hD
      refine k_ldI rfl (c_get (r := r1) (o := 1) (K := 2) hr1 (by decide)) hv3 ?_
      refine k_runB (pc' := 36) (loc' := [(0, .ref (r0 * 1024)), (1, .ref (r1 * 1024)), (3, .int x3), (4, .int x4), (5, .int x5)]) (st' := [.ref (r0 * 1024), .int v3]) 1 rfl ?_
      refine k_gf r0 0 (K := 6) hr0 rfl rfl rfl rfl ?_
      refine k_runB (pc' := 41) (loc' := [(0, .ref (r0 * 1024)), (1, .ref (r1 * 1024)), (3, .int x3), (4, .int x4), (5, .int x5)]) (st' := [.int x5, .ref (r0 * 1024 + 7), .int v3]) 1 rfl ?_
      obtain ⟨v4, hv4, hD⟩ := Option.bind_eq_some_iff.mp hD
      refine k_ldI rfl (c_get (r := r0) (o := 7) (K := 6) hr0 (by decide)) hv4 ?_
      refine k_runB (pc' := 51) (loc' := [(0, .ref (r0 * 1024)), (1, .ref (r1 * 1024)), (3, .int x3), (4, .int x4), (5, .int x5), (6, .int (if v4 < v3 then v4 else v3))]) (st' := [.ref (r0 * 1024), .int (if v4 < v3 then v4 else v3), .int x3]) 5 rfl ?_
      refine k_gf r0 0 (K := 6) hr0 rfl rfl rfl rfl ?_
      refine k_runB (pc' := 56) (loc' := [(0, .ref (r0 * 1024)), (1, .ref (r1 * 1024)), (3, .int x3), (4, .int x4), (5, .int x5), (6, .int (if v4 < v3 then v4 else v3))]) (st' := [.int x5, .ref (r0 * 1024 + 8), .int (if v4 < v3 then v4 else v3), .int x3]) 1 rfl ?_
      obtain ⟨v5, hv5, hD⟩ := Option.bind_eq_some_iff.mp hD
      refine k_ldI rfl (c_get (r := r0) (o := 8) (K := 6) hr0 (by decide)) hv5 ?_
      refine k_runB (pc' := 59) (loc' := [(0, .ref (r0 * 1024)), (1, .ref (r1 * 1024)), (3, .int x3), (4, .int x4), (5, .int x5), (6, .int (if v4 < v3 then v4 else v3))]) (st' := [.ref (r1 * 1024), .int ((if v4 < v3 then v4 else v3) * v5), .int x3]) 2 rfl ?_
      refine k_gf r1 0 (K := 2) hr1 rfl rfl rfl rfl ?_
      refine k_runB (pc' := 64) (loc' := [(0, .ref (r0 * 1024)), (1, .ref (r1 * 1024)), (3, .int x3), (4, .int x4), (5, .int x5), (6, .int (if v4 < v3 then v4 else v3))]) (st' := [.int x5, .ref (r1 * 1024 + 1), .int ((if v4 < v3 then v4 else v3) * v5), .int x3]) 1 rfl ?_
      obtain ⟨v6, hv6, hD⟩ := Option.bind_eq_some_iff.mp hD
      refine k_ldI rfl (c_get (r := r1) (o := 1) (K := 2) hr1 (by decide)) hv6 ?_
      refine k_runB (pc' := 69) (loc' := [(0, .ref (r0 * 1024)), (1, .ref (r1 * 1024)), (3, .int x3), (4, .int x4), (5, .int x5), (6, .int (if v4 < v3 then v4 else v3))]) (st' := [.ref (r0 * 1024), .int (v6 - (if v4 < v3 then v4 else v3)), .int ((if v4 < v3 then v4 else v3) * v5), .int x3]) 3 rfl ?_
      refine k_gf r0 0 (K := 6) hr0 rfl rfl rfl rfl ?_
      refine k_runB (pc' := 74) (loc' := [(0, .ref (r0 * 1024)), (1, .ref (r1 * 1024)), (3, .int x3), (4, .int x4), (5, .int x5), (6, .int (if v4 < v3 then v4 else v3))]) (st' := [.int x5, .ref (r0 * 1024 + 9), .int (v6 - (if v4 < v3 then v4 else v3)), .int ((if v4 < v3 then v4 else v3) * v5), .int x3]) 1 rfl ?_
      obtain ⟨v7, hv7, hD⟩ := Option.bind_eq_some_iff.mp hD
      refine k_ldI rfl (c_get (r := r0) (o := 9) (K := 6) hr0 (by decide)) hv7 ?_
      refine k_runB (pc' := 21) (loc' := [(0, .ref (r0 * 1024)), (1, .ref (r1 * 1024)), (3, .int (x3 + (((if v4 < v3 then v4 else v3) * v5) - ((v6 - (if v4 < v3 then v4 else v3)) * v7)))), (4, .int x4), (5, .int (x5 + 1)), (6, .int (if v4 < v3 then v4 else v3))]) (st' := []) 6 rfl ?_
      refine k_wk [0, 1, 3, 4, 5] (loc' := [(0, .ref (r0 * 1024)), (1, .ref (r1 * 1024)), (3, .int (x3 + (((if v4 < v3 then v4 else v3) * v5) - ((v6 - (if v4 < v3 then v4 else v3)) * v7)))), (4, .int x4), (5, .int (x5 + 1))]) rfl rfl ?_
      exact hK21 _ _ _ _ _ _ _ _ _ _ hr0 hr1 hD
/-- SleepWork$House.worth(LSleepWork$State;I)I  -/
def e_House_worth (n : Nat) (P : Nat → Nat → Nat) (F : Nat → Nat → Int32) (A : Nat → Nat → Nat → Int32) (J : Nat → Nat → Nat → Int64) (r0 : Nat) (r1 : Nat) (x2 : Int32) : Option (Int32) :=
  (m_ld (A r0 5) 6 x2).bind fun v1 =>
  e_House_worth_21 n P F A J r0 r1 0 ((x2 * 6) + v1) (x2 * 6)
set_option maxRecDepth 10000 in
theorem t_e_House_worth {n : Nat} {P : Nat → Nat → Nat} {F : Nat → Nat → Int32} {A : Nat → Nat → Nat → Int32} {J : Nat → Nat → Nat → Int64} {r0 : Nat} {r1 : Nat} {x2 : Int32} (hr0 : c_kind r0 = 6) (hr1 : c_kind r1 = 2) {w : Int32} : e_House_worth n P F A J r0 r1 x2 = some w → k_run t lg (d) 26 0 [(0, .ref (r0 * 1024)), (1, .ref (r1 * 1024)), (2, .int x2)] [] (c_h c B P F A J) (some (.int w), c_h c B P F A J) := by
  intro hD
  unfold e_House_worth at hD
  refine k_runB (pc' := 7) (loc' := [(0, .ref (r0 * 1024)), (1, .ref (r1 * 1024)), (2, .int x2), (3, .int 0)]) (st' := [.ref (r0 * 1024), .int (x2 * 6)]) 6 rfl ?_
  refine k_gf r0 0 (K := 6) hr0 rfl rfl rfl rfl ?_
  refine k_runB (pc' := 11) (loc' := [(0, .ref (r0 * 1024)), (1, .ref (r1 * 1024)), (2, .int x2), (3, .int 0)]) (st' := [.int x2, .ref (r0 * 1024 + 5), .int (x2 * 6)]) 1 rfl ?_
  obtain ⟨v1, hv1, hD⟩ := Option.bind_eq_some_iff.mp hD
  refine k_ldI rfl (c_get (r := r0) (o := 5) (K := 6) hr0 (by decide)) hv1 ?_
  refine k_runB (pc' := 21) (loc' := [(0, .ref (r0 * 1024)), (1, .ref (r1 * 1024)), (2, .int x2), (3, .int 0), (4, .int ((x2 * 6) + v1)), (5, .int (x2 * 6))]) (st' := []) 6 rfl ?_
  refine k_wk [0, 1, 3, 4, 5] (loc' := [(0, .ref (r0 * 1024)), (1, .ref (r1 * 1024)), (3, .int 0), (4, .int ((x2 * 6) + v1)), (5, .int (x2 * 6))]) rfl rfl ?_
  exact t_e_House_worth_21  hr0 hr1 hD
def e_House_worthOfAll_4 : Nat → (Nat → Nat → Nat) → (Nat → Nat → Int32) → (Nat → Nat → Nat → Int32) → (Nat → Nat → Nat → Int64) → Nat → Nat → Int32 → Int32 → Option (Int32)
  | 0, _, _, _, _, _, _, _, _ => none
  | n + 1, P, F, A, J, r0, r1, x2, x3 => cond (g_cnd .ge x3 (F r0 16))
    (some (x2))
    ((e_House_worth n P F A J r0 r1 x3).bind fun v2 =>
    (e_House_worthOfAll_4 n) P F A J r0 r1 (x2 + v2) (x3 + 1))
set_option maxRecDepth 10000 in
theorem t_e_House_worthOfAll_4 {n : Nat}  {P : Nat → Nat → Nat} {F : Nat → Nat → Int32} {A : Nat → Nat → Nat → Int32} {J : Nat → Nat → Nat → Int64} {r0 : Nat} {r1 : Nat} {x2 : Int32} {x3 : Int32} (hr0 : c_kind r0 = 6) (hr1 : c_kind r1 = 2) {w : Int32} : e_House_worthOfAll_4 n P F A J r0 r1 x2 x3 = some w → k_run t lg (d + 1) 27 4 [(0, .ref (r0 * 1024)), (1, .ref (r1 * 1024)), (2, .int x2), (3, .int x3)] [] (c_h c B P F A J) (some (.int w), c_h c B P F A J) := by
  induction n generalizing P F A J r0 r1 x2 x3 w with
  | zero => intro hD; cases hD
  | succ n ih =>
    intro hD
    have hK4 : ∀ (P : Nat → Nat → Nat) (F : Nat → Nat → Int32) (A : Nat → Nat → Nat → Int32) (J : Nat → Nat → Nat → Int64) (r0 : Nat) (r1 : Nat) (x2 : Int32) (x3 : Int32) (w : Int32), c_kind r0 = 6 → c_kind r1 = 2 → e_House_worthOfAll_4 n P F A J r0 r1 x2 x3 = some w → k_run t lg (d + 1) 27 4 [(0, .ref (r0 * 1024)), (1, .ref (r1 * 1024)), (2, .int x2), (3, .int x3)] [] (c_h c B P F A J) (some (.int w), c_h c B P F A J) := fun _ _ _ _ _ _ _ _ _ kr0 kr1 h => ih kr0 kr1 h
    unfold e_House_worthOfAll_4 at hD
    refine k_runB (pc' := 6) (loc' := [(0, .ref (r0 * 1024)), (1, .ref (r1 * 1024)), (2, .int x2), (3, .int x3)]) (st' := [.ref (r0 * 1024), .int x3]) 2 rfl ?_
    refine k_gf r0 0 (K := 6) hr0 rfl rfl rfl rfl ?_
    refine k_ic rfl (fun c9_0 => ?_) (fun c9_0 => ?_)
    · rw [c9_0, cond_true] at hD
      refine k_runB (pc' := 28) (loc' := [(0, .ref (r0 * 1024)), (1, .ref (r1 * 1024)), (2, .int x2), (3, .int x3)]) (st' := [.int x2]) 1 rfl ?_
      cases hD
      exact k_iret rfl rfl
    · rw [c9_0, cond_false] at hD
      refine k_runB (pc' := 16) (loc' := [(0, .ref (r0 * 1024)), (1, .ref (r1 * 1024)), (2, .int x2), (3, .int x3)]) (st' := [.int x3, .ref (r1 * 1024), .ref (r0 * 1024), .int x2]) 4 rfl ?_
      obtain ⟨v2, hv2, hD⟩ := Option.bind_eq_some_iff.mp hD
      refine k_runV rfl rfl rfl (c_get (r := r0) (o := 0) (K := 6) hr0 (by decide)) rfl rfl (t_e_House_worth (d := d) hr0 hr1 hv2) ?_
      refine k_runB (pc' := 4) (loc' := [(0, .ref (r0 * 1024)), (1, .ref (r1 * 1024)), (2, .int (x2 + v2)), (3, .int (x3 + 1))]) (st' := []) 4 rfl ?_
      refine k_wk [0, 1, 2, 3] (loc' := [(0, .ref (r0 * 1024)), (1, .ref (r1 * 1024)), (2, .int (x2 + v2)), (3, .int (x3 + 1))]) rfl rfl ?_
      exact hK4 _ _ _ _ _ _ _ _ _ hr0 hr1 hD
/-- SleepWork$House.worthOfAll(LSleepWork$State;)I  -/
def e_House_worthOfAll (n : Nat) (P : Nat → Nat → Nat) (F : Nat → Nat → Int32) (A : Nat → Nat → Nat → Int32) (J : Nat → Nat → Nat → Int64) (r0 : Nat) (r1 : Nat) : Option (Int32) :=
  e_House_worthOfAll_4 n P F A J r0 r1 0 0
set_option maxRecDepth 10000 in
theorem t_e_House_worthOfAll {n : Nat} {P : Nat → Nat → Nat} {F : Nat → Nat → Int32} {A : Nat → Nat → Nat → Int32} {J : Nat → Nat → Nat → Int64} {r0 : Nat} {r1 : Nat} (hr0 : c_kind r0 = 6) (hr1 : c_kind r1 = 2) {w : Int32} : e_House_worthOfAll n P F A J r0 r1 = some w → k_run t lg (d + 1) 27 0 [(0, .ref (r0 * 1024)), (1, .ref (r1 * 1024))] [] (c_h c B P F A J) (some (.int w), c_h c B P F A J) := by
  intro hD
  unfold e_House_worthOfAll at hD
  refine k_runB (pc' := 4) (loc' := [(0, .ref (r0 * 1024)), (1, .ref (r1 * 1024)), (2, .int 0), (3, .int 0)]) (st' := []) 4 rfl ?_
  refine k_wk [0, 1, 2, 3] (loc' := [(0, .ref (r0 * 1024)), (1, .ref (r1 * 1024)), (2, .int 0), (3, .int 0)]) rfl rfl ?_
  exact t_e_House_worthOfAll_4  hr0 hr1 hD
/-- SleepWork$State.copy(LSleepWork$State;)V  -/
def e_State_copy (P : Nat → Nat → Nat) (F : Nat → Nat → Int32) (A : Nat → Nat → Nat → Int32) (J : Nat → Nat → Nat → Int64) (r0 : Nat) (r1 : Nat) : Option (Unit × (Nat → Nat → Nat) × (Nat → Nat → Int32) × (Nat → Nat → Nat → Int32) × (Nat → Nat → Nat → Int64)) :=
  (c_cp A r1 1 r0 1 36).bind fun A1 =>
  (c_cp A1 r1 2 r0 2 6).bind fun A2 =>
  (c_cp A2 r1 3 r0 3 6).bind fun A3 =>
  (c_cp A3 r1 4 r0 4 6).bind fun A4 =>
  (c_cp A4 r1 5 r0 5 6).bind fun A5 =>
  (c_cp A5 r1 6 r0 6 6).bind fun A6 =>
  (c_cp A6 r1 7 r0 7 6).bind fun A7 =>
  (c_pf F r0 7 (F r1 7)).bind fun F8 =>
  (c_pf F8 r0 8 (F8 r1 8)).bind fun F9 =>
  some ((), P, F9, A7, J)
set_option maxRecDepth 10000 in
theorem t_e_State_copy (ht : ∀ ci k, t.1 ci k = k_ty ci k) {P : Nat → Nat → Nat} {F : Nat → Nat → Int32} {A : Nat → Nat → Nat → Int32} {J : Nat → Nat → Nat → Int64} {r0 : Nat} {r1 : Nat} (hr0 : c_kind r0 = 2) (hr1 : c_kind r1 = 2) {w : Unit × (Nat → Nat → Nat) × (Nat → Nat → Int32) × (Nat → Nat → Nat → Int32) × (Nat → Nat → Nat → Int64)} : e_State_copy P F A J r0 r1 = some w → k_run t lg (d) 85 0 [(0, .ref (r0 * 1024)), (1, .ref (r1 * 1024))] [] (c_h c B P F A J) (none, c_h c B w.2.1 w.2.2.1 w.2.2.2.1 w.2.2.2.2) := by
  intro hD
  unfold e_State_copy at hD
  refine k_runB (pc' := 1) (loc' := [(0, .ref (r0 * 1024)), (1, .ref (r1 * 1024))]) (st' := [.ref (r1 * 1024)]) 1 rfl ?_
  refine k_gf r1 0 (K := 2) hr1 rfl rfl rfl rfl ?_
  refine k_runB (pc' := 6) (loc' := [(0, .ref (r0 * 1024)), (1, .ref (r1 * 1024))]) (st' := [.ref (r0 * 1024), .int 0, .ref (r1 * 1024 + 1)]) 2 rfl ?_
  refine k_gf r0 0 (K := 2) hr0 rfl rfl rfl rfl ?_
  refine k_runB (pc' := 12) (loc' := [(0, .ref (r0 * 1024)), (1, .ref (r1 * 1024))]) (st' := [.int 36, .int 0, .ref (r0 * 1024 + 1), .int 0, .ref (r1 * 1024 + 1)]) 2 rfl ?_
  obtain ⟨A1, hA1, hD⟩ := Option.bind_eq_some_iff.mp hD
  refine k_ccp r1 1 r0 1 (K := 2) (K2 := 2) hr1 hr0 rfl rfl rfl rfl rfl (fun _ => rfl) rfl hA1 ?_
  refine k_runB (pc' := 16) (loc' := [(0, .ref (r0 * 1024)), (1, .ref (r1 * 1024))]) (st' := [.ref (r1 * 1024)]) 1 rfl ?_
  refine k_gf r1 0 (K := 2) hr1 rfl rfl rfl rfl ?_
  refine k_runB (pc' := 21) (loc' := [(0, .ref (r0 * 1024)), (1, .ref (r1 * 1024))]) (st' := [.ref (r0 * 1024), .int 0, .ref (r1 * 1024 + 2)]) 2 rfl ?_
  refine k_gf r0 0 (K := 2) hr0 rfl rfl rfl rfl ?_
  refine k_runB (pc' := 27) (loc' := [(0, .ref (r0 * 1024)), (1, .ref (r1 * 1024))]) (st' := [.int 6, .int 0, .ref (r0 * 1024 + 2), .int 0, .ref (r1 * 1024 + 2)]) 2 rfl ?_
  obtain ⟨A2, hA2, hD⟩ := Option.bind_eq_some_iff.mp hD
  refine k_ccp r1 2 r0 2 (K := 2) (K2 := 2) hr1 hr0 rfl rfl rfl rfl rfl (fun _ => rfl) rfl hA2 ?_
  refine k_runB (pc' := 31) (loc' := [(0, .ref (r0 * 1024)), (1, .ref (r1 * 1024))]) (st' := [.ref (r1 * 1024)]) 1 rfl ?_
  refine k_gf r1 0 (K := 2) hr1 rfl rfl rfl rfl ?_
  refine k_runB (pc' := 36) (loc' := [(0, .ref (r0 * 1024)), (1, .ref (r1 * 1024))]) (st' := [.ref (r0 * 1024), .int 0, .ref (r1 * 1024 + 3)]) 2 rfl ?_
  refine k_gf r0 0 (K := 2) hr0 rfl rfl rfl rfl ?_
  refine k_runB (pc' := 42) (loc' := [(0, .ref (r0 * 1024)), (1, .ref (r1 * 1024))]) (st' := [.int 6, .int 0, .ref (r0 * 1024 + 3), .int 0, .ref (r1 * 1024 + 3)]) 2 rfl ?_
  obtain ⟨A3, hA3, hD⟩ := Option.bind_eq_some_iff.mp hD
  refine k_ccp r1 3 r0 3 (K := 2) (K2 := 2) hr1 hr0 rfl rfl rfl rfl rfl (fun _ => rfl) rfl hA3 ?_
  refine k_runB (pc' := 46) (loc' := [(0, .ref (r0 * 1024)), (1, .ref (r1 * 1024))]) (st' := [.ref (r1 * 1024)]) 1 rfl ?_
  refine k_gf r1 0 (K := 2) hr1 rfl rfl rfl rfl ?_
  refine k_runB (pc' := 51) (loc' := [(0, .ref (r0 * 1024)), (1, .ref (r1 * 1024))]) (st' := [.ref (r0 * 1024), .int 0, .ref (r1 * 1024 + 4)]) 2 rfl ?_
  refine k_gf r0 0 (K := 2) hr0 rfl rfl rfl rfl ?_
  refine k_runB (pc' := 57) (loc' := [(0, .ref (r0 * 1024)), (1, .ref (r1 * 1024))]) (st' := [.int 6, .int 0, .ref (r0 * 1024 + 4), .int 0, .ref (r1 * 1024 + 4)]) 2 rfl ?_
  obtain ⟨A4, hA4, hD⟩ := Option.bind_eq_some_iff.mp hD
  refine k_ccp r1 4 r0 4 (K := 2) (K2 := 2) hr1 hr0 rfl rfl rfl rfl rfl (fun _ => rfl) rfl hA4 ?_
  refine k_runB (pc' := 61) (loc' := [(0, .ref (r0 * 1024)), (1, .ref (r1 * 1024))]) (st' := [.ref (r1 * 1024)]) 1 rfl ?_
  refine k_gf r1 0 (K := 2) hr1 rfl rfl rfl rfl ?_
  refine k_runB (pc' := 66) (loc' := [(0, .ref (r0 * 1024)), (1, .ref (r1 * 1024))]) (st' := [.ref (r0 * 1024), .int 0, .ref (r1 * 1024 + 5)]) 2 rfl ?_
  refine k_gf r0 0 (K := 2) hr0 rfl rfl rfl rfl ?_
  refine k_runB (pc' := 72) (loc' := [(0, .ref (r0 * 1024)), (1, .ref (r1 * 1024))]) (st' := [.int 6, .int 0, .ref (r0 * 1024 + 5), .int 0, .ref (r1 * 1024 + 5)]) 2 rfl ?_
  obtain ⟨A5, hA5, hD⟩ := Option.bind_eq_some_iff.mp hD
  refine k_ccp r1 5 r0 5 (K := 2) (K2 := 2) hr1 hr0 rfl rfl rfl rfl rfl (fun _ => rfl) rfl hA5 ?_
  refine k_runB (pc' := 76) (loc' := [(0, .ref (r0 * 1024)), (1, .ref (r1 * 1024))]) (st' := [.ref (r1 * 1024)]) 1 rfl ?_
  refine k_gf r1 0 (K := 2) hr1 rfl rfl rfl rfl ?_
  refine k_runB (pc' := 81) (loc' := [(0, .ref (r0 * 1024)), (1, .ref (r1 * 1024))]) (st' := [.ref (r0 * 1024), .int 0, .ref (r1 * 1024 + 6)]) 2 rfl ?_
  refine k_gf r0 0 (K := 2) hr0 rfl rfl rfl rfl ?_
  refine k_runB (pc' := 87) (loc' := [(0, .ref (r0 * 1024)), (1, .ref (r1 * 1024))]) (st' := [.int 6, .int 0, .ref (r0 * 1024 + 6), .int 0, .ref (r1 * 1024 + 6)]) 2 rfl ?_
  obtain ⟨A6, hA6, hD⟩ := Option.bind_eq_some_iff.mp hD
  refine k_ccp r1 6 r0 6 (K := 2) (K2 := 2) hr1 hr0 rfl rfl rfl rfl rfl (fun _ => rfl) rfl hA6 ?_
  refine k_runB (pc' := 91) (loc' := [(0, .ref (r0 * 1024)), (1, .ref (r1 * 1024))]) (st' := [.ref (r1 * 1024)]) 1 rfl ?_
  refine k_gf r1 0 (K := 2) hr1 rfl rfl rfl rfl ?_
  refine k_runB (pc' := 96) (loc' := [(0, .ref (r0 * 1024)), (1, .ref (r1 * 1024))]) (st' := [.ref (r0 * 1024), .int 0, .ref (r1 * 1024 + 7)]) 2 rfl ?_
  refine k_gf r0 0 (K := 2) hr0 rfl rfl rfl rfl ?_
  refine k_runB (pc' := 102) (loc' := [(0, .ref (r0 * 1024)), (1, .ref (r1 * 1024))]) (st' := [.int 6, .int 0, .ref (r0 * 1024 + 7), .int 0, .ref (r1 * 1024 + 7)]) 2 rfl ?_
  obtain ⟨A7, hA7, hD⟩ := Option.bind_eq_some_iff.mp hD
  refine k_ccp r1 7 r0 7 (K := 2) (K2 := 2) hr1 hr0 rfl rfl rfl rfl rfl (fun _ => rfl) rfl hA7 ?_
  refine k_runB (pc' := 107) (loc' := [(0, .ref (r0 * 1024)), (1, .ref (r1 * 1024))]) (st' := [.ref (r1 * 1024), .ref (r0 * 1024)]) 2 rfl ?_
  refine k_gf r1 0 (K := 2) hr1 rfl rfl rfl rfl ?_
  obtain ⟨F8, hF8, hD⟩ := Option.bind_eq_some_iff.mp hD
  refine k_cpt r0 0 (K := 2) (key := 7) hr0 rfl (ht 7 7) rfl rfl rfl hF8 ?_
  refine k_runB (pc' := 115) (loc' := [(0, .ref (r0 * 1024)), (1, .ref (r1 * 1024))]) (st' := [.ref (r1 * 1024), .ref (r0 * 1024)]) 2 rfl ?_
  refine k_gf r1 0 (K := 2) hr1 rfl rfl rfl rfl ?_
  obtain ⟨F9, hF9, hD⟩ := Option.bind_eq_some_iff.mp hD
  refine k_cpt r0 0 (K := 2) (key := 8) hr0 rfl (ht 7 8) rfl rfl rfl hF9 ?_
  cases hD
  exact k_vret rfl rfl
/-- SleepWork$Evening.gainOfTrial()I  -/
def e_Evening_gainOfTrial (n : Nat) (P : Nat → Nat → Nat) (F : Nat → Nat → Int32) (A : Nat → Nat → Nat → Int32) (J : Nat → Nat → Nat → Int64) : Option (Int32 × (Nat → Nat → Nat) × (Nat → Nat → Int32) × (Nat → Nat → Nat → Int32) × (Nat → Nat → Nat → Int64)) :=
  (c_chk 6 (P 32 4)).bind fun q1 =>
  (c_chk 6 (P 32 4)).bind fun q2 =>
  (e_Sleep_goTill n P F A J (F q1 18) q2 33).bind fun (_, P4, F5, A6, J7) =>
  (c_chk 6 (P4 32 4)).bind fun q8 =>
  (e_House_worthOfAll n P4 F5 A6 J7 q8 33).bind fun v9 =>
  some (v9 - (F5 32 5), P4, F5, A6, J7)
set_option maxRecDepth 10000 in
theorem t_e_Evening_gainOfTrial (ht : ∀ ci k, t.1 ci k = k_ty ci k) {n : Nat} {P : Nat → Nat → Nat} {F : Nat → Nat → Int32} {A : Nat → Nat → Nat → Int32} {J : Nat → Nat → Nat → Int64}   {w : Int32 × (Nat → Nat → Nat) × (Nat → Nat → Int32) × (Nat → Nat → Nat → Int32) × (Nat → Nat → Nat → Int64)} : e_Evening_gainOfTrial n P F A J = some w → k_run t lg (d + 5) 7 0 [(0, .ref (32 * 1024))] [] (c_h c B P F A J) (some (.int w.1), c_h c B w.2.1 w.2.2.1 w.2.2.2.1 w.2.2.2.2) := by
  intro hD
  unfold e_Evening_gainOfTrial at hD
  refine k_runB (pc' := 1) (loc' := [(0, .ref (32 * 1024))]) (st' := [.ref (32 * 1024)]) 1 rfl ?_
  refine k_gf 32 0 (K := 7) rfl rfl rfl rfl rfl ?_
  refine k_runB (pc' := 5) (loc' := [(0, .ref (32 * 1024))]) (st' := [.ref (32 * 1024), .ref (36 * 1024)]) 1 rfl ?_
  obtain ⟨q1, hq1, hD⟩ := Option.bind_eq_some_iff.mp hD
  refine k_gq 32 0 (K := 7) (K2 := 6) (key := 4) rfl rfl rfl rfl rfl hq1 (fun kq1 => ?_)
  refine k_gf q1 0 (K := 6) kq1 rfl rfl rfl rfl ?_
  refine k_runB (pc' := 12) (loc' := [(0, .ref (32 * 1024))]) (st' := [.ref (32 * 1024), .int (F q1 18), .ref (36 * 1024)]) 1 rfl ?_
  obtain ⟨q2, hq2, hD⟩ := Option.bind_eq_some_iff.mp hD
  refine k_gq 32 0 (K := 7) (K2 := 6) (key := 4) rfl rfl rfl rfl rfl hq2 (fun kq2 => ?_)
  refine k_runB (pc' := 16) (loc' := [(0, .ref (32 * 1024))]) (st' := [.ref (32 * 1024), .ref (q2 * 1024), .int (F q1 18), .ref (36 * 1024)]) 1 rfl ?_
  refine k_gf 32 0 (K := 7) rfl rfl rfl rfl rfl ?_
  obtain ⟨⟨v3, P4, F5, A6, J7⟩, hv3, hD⟩ := Option.bind_eq_some_iff.mp hD
  dsimp only at hD
  refine k_runV rfl rfl rfl (c_get (r := 36) (o := 0) (K := 10) rfl (by decide)) rfl rfl (t_e_Sleep_goTill (d := d) ht kq2 rfl hv3) ?_
  refine k_runB (pc' := 23) (loc' := [(0, .ref (32 * 1024))]) (st' := [.ref (32 * 1024)]) 1 rfl ?_
  obtain ⟨q8, hq8, hD⟩ := Option.bind_eq_some_iff.mp hD
  refine k_gq 32 0 (K := 7) (K2 := 6) (key := 4) rfl rfl rfl rfl rfl hq8 (fun kq8 => ?_)
  refine k_runB (pc' := 27) (loc' := [(0, .ref (32 * 1024))]) (st' := [.ref (32 * 1024), .ref (q8 * 1024)]) 1 rfl ?_
  refine k_gf 32 0 (K := 7) rfl rfl rfl rfl rfl ?_
  obtain ⟨v9, hv9, hD⟩ := Option.bind_eq_some_iff.mp hD
  refine k_runV rfl rfl rfl (c_get (r := q8) (o := 0) (K := 6) kq8 (by decide)) rfl rfl (t_e_House_worthOfAll (d := d + 3) kq8 rfl hv9) ?_
  refine k_runB (pc' := 34) (loc' := [(0, .ref (32 * 1024))]) (st' := [.ref (32 * 1024), .int v9]) 1 rfl ?_
  refine k_gf 32 0 (K := 7) rfl rfl rfl rfl rfl ?_
  refine k_runB (pc' := 38) (loc' := [(0, .ref (32 * 1024))]) (st' := [.int (v9 - (F5 32 5))]) 1 rfl ?_
  cases hD
  exact k_iret rfl rfl
/-- SleepWork$Evening.gainAsItIs()I  -/
def e_Evening_gainAsItIs (n : Nat) (P : Nat → Nat → Nat) (F : Nat → Nat → Int32) (A : Nat → Nat → Nat → Int32) (J : Nat → Nat → Nat → Int64) : Option (Int32 × (Nat → Nat → Nat) × (Nat → Nat → Int32) × (Nat → Nat → Nat → Int32) × (Nat → Nat → Nat → Int64)) :=
  (c_chk 6 (P 32 4)).bind fun q1 =>
  (e_House_worthOfAll n P F A J q1 2).bind fun v2 =>
  (c_pf F 32 5 v2).bind fun F3 =>
  (e_State_copy P F3 A J 33 2).bind fun (_, P5, F6, A7, J8) =>
  (e_Evening_gainOfTrial n P5 F6 A7 J8).bind fun (v9, P10, F11, A12, J13) =>
  some (v9, P10, F11, A12, J13)
set_option maxRecDepth 10000 in
theorem t_e_Evening_gainAsItIs (ht : ∀ ci k, t.1 ci k = k_ty ci k) {n : Nat} {P : Nat → Nat → Nat} {F : Nat → Nat → Int32} {A : Nat → Nat → Nat → Int32} {J : Nat → Nat → Nat → Int64}   {w : Int32 × (Nat → Nat → Nat) × (Nat → Nat → Int32) × (Nat → Nat → Nat → Int32) × (Nat → Nat → Nat → Int64)} : e_Evening_gainAsItIs n P F A J = some w → k_run t lg (d + 6) 5 0 [(0, .ref (32 * 1024))] [] (c_h c B P F A J) (some (.int w.1), c_h c B w.2.1 w.2.2.1 w.2.2.2.1 w.2.2.2.2) := by
  intro hD
  unfold e_Evening_gainAsItIs at hD
  refine k_runB (pc' := 2) (loc' := [(0, .ref (32 * 1024))]) (st' := [.ref (32 * 1024), .ref (32 * 1024)]) 2 rfl ?_
  obtain ⟨q1, hq1, hD⟩ := Option.bind_eq_some_iff.mp hD
  refine k_gq 32 0 (K := 7) (K2 := 6) (key := 4) rfl rfl rfl rfl rfl hq1 (fun kq1 => ?_)
  refine k_runB (pc' := 6) (loc' := [(0, .ref (32 * 1024))]) (st' := [.ref (32 * 1024), .ref (q1 * 1024), .ref (32 * 1024)]) 1 rfl ?_
  refine k_gf 32 0 (K := 7) rfl rfl rfl rfl rfl ?_
  obtain ⟨v2, hv2, hD⟩ := Option.bind_eq_some_iff.mp hD
  refine k_runV rfl rfl rfl (c_get (r := q1) (o := 0) (K := 6) kq1 (by decide)) rfl rfl (t_e_House_worthOfAll (d := d + 4) kq1 rfl hv2) ?_
  obtain ⟨F3, hF3, hD⟩ := Option.bind_eq_some_iff.mp hD
  refine k_cpt 32 0 (K := 7) (key := 5) rfl rfl (ht 0 5) rfl rfl rfl hF3 ?_
  refine k_runB (pc' := 16) (loc' := [(0, .ref (32 * 1024))]) (st' := [.ref (32 * 1024)]) 1 rfl ?_
  refine k_gf 32 0 (K := 7) rfl rfl rfl rfl rfl ?_
  refine k_runB (pc' := 20) (loc' := [(0, .ref (32 * 1024))]) (st' := [.ref (32 * 1024), .ref (33 * 1024)]) 1 rfl ?_
  refine k_gf 32 0 (K := 7) rfl rfl rfl rfl rfl ?_
  obtain ⟨⟨v4, P5, F6, A7, J8⟩, hv4, hD⟩ := Option.bind_eq_some_iff.mp hD
  dsimp only at hD
  refine k_runV rfl rfl rfl (c_get (r := 33) (o := 0) (K := 2) rfl (by decide)) rfl rfl (t_e_State_copy (d := d + 5) ht rfl rfl hv4) ?_
  refine k_runB (pc' := 27) (loc' := [(0, .ref (32 * 1024))]) (st' := [.ref (32 * 1024)]) 1 rfl ?_
  obtain ⟨⟨v9, P10, F11, A12, J13⟩, hv9, hD⟩ := Option.bind_eq_some_iff.mp hD
  dsimp only at hD
  refine k_runV rfl rfl rfl (c_get (r := 32) (o := 0) (K := 7) rfl (by decide)) rfl rfl (t_e_Evening_gainOfTrial (d := d) ht hv9) ?_
  cases hD
  exact k_iret rfl rfl
/-- SleepWork$Evening.strokesTill(II)I  -/
def e_Evening_strokesTill (n : Nat) (P : Nat → Nat → Nat) (F : Nat → Nat → Int32) (A : Nat → Nat → Nat → Int32) (J : Nat → Nat → Nat → Int64) (x1 : Int32) (x2 : Int32) : Option (Int32 × (Nat → Nat → Nat) × (Nat → Nat → Int32) × (Nat → Nat → Nat → Int32) × (Nat → Nat → Nat → Int64)) :=
  (e_State_copy P F A J 33 2).bind fun (_, P2, F3, A4, J5) =>
  (c_chk 6 (P2 32 4)).bind fun q6 =>
  (e_Sleep_goTill n P2 F3 A4 J5 x2 q6 33).bind fun (_, P8, F9, A10, J11) =>
  (m_ld (A10 33 5) 6 x1).bind fun v12 =>
  some (v12, P8, F9, A10, J11)
set_option maxRecDepth 10000 in
theorem t_e_Evening_strokesTill (ht : ∀ ci k, t.1 ci k = k_ty ci k) {n : Nat} {P : Nat → Nat → Nat} {F : Nat → Nat → Int32} {A : Nat → Nat → Nat → Int32} {J : Nat → Nat → Nat → Int64} {x1 : Int32} {x2 : Int32}  {w : Int32 × (Nat → Nat → Nat) × (Nat → Nat → Int32) × (Nat → Nat → Nat → Int32) × (Nat → Nat → Nat → Int64)} : e_Evening_strokesTill n P F A J x1 x2 = some w → k_run t lg (d + 5) 6 0 [(0, .ref (32 * 1024)), (1, .int x1), (2, .int x2)] [] (c_h c B P F A J) (some (.int w.1), c_h c B w.2.1 w.2.2.1 w.2.2.2.1 w.2.2.2.2) := by
  intro hD
  unfold e_Evening_strokesTill at hD
  refine k_runB (pc' := 1) (loc' := [(0, .ref (32 * 1024)), (1, .int x1), (2, .int x2)]) (st' := [.ref (32 * 1024)]) 1 rfl ?_
  refine k_gf 32 0 (K := 7) rfl rfl rfl rfl rfl ?_
  refine k_runB (pc' := 5) (loc' := [(0, .ref (32 * 1024)), (1, .int x1), (2, .int x2)]) (st' := [.ref (32 * 1024), .ref (33 * 1024)]) 1 rfl ?_
  refine k_gf 32 0 (K := 7) rfl rfl rfl rfl rfl ?_
  obtain ⟨⟨v1, P2, F3, A4, J5⟩, hv1, hD⟩ := Option.bind_eq_some_iff.mp hD
  dsimp only at hD
  refine k_runV rfl rfl rfl (c_get (r := 33) (o := 0) (K := 2) rfl (by decide)) rfl rfl (t_e_State_copy (d := d + 4) ht rfl rfl hv1) ?_
  refine k_runB (pc' := 12) (loc' := [(0, .ref (32 * 1024)), (1, .int x1), (2, .int x2)]) (st' := [.ref (32 * 1024)]) 1 rfl ?_
  refine k_gf 32 0 (K := 7) rfl rfl rfl rfl rfl ?_
  refine k_runB (pc' := 17) (loc' := [(0, .ref (32 * 1024)), (1, .int x1), (2, .int x2)]) (st' := [.ref (32 * 1024), .int x2, .ref (36 * 1024)]) 2 rfl ?_
  obtain ⟨q6, hq6, hD⟩ := Option.bind_eq_some_iff.mp hD
  refine k_gq 32 0 (K := 7) (K2 := 6) (key := 4) rfl rfl rfl rfl rfl hq6 (fun kq6 => ?_)
  refine k_runB (pc' := 21) (loc' := [(0, .ref (32 * 1024)), (1, .int x1), (2, .int x2)]) (st' := [.ref (32 * 1024), .ref (q6 * 1024), .int x2, .ref (36 * 1024)]) 1 rfl ?_
  refine k_gf 32 0 (K := 7) rfl rfl rfl rfl rfl ?_
  obtain ⟨⟨v7, P8, F9, A10, J11⟩, hv7, hD⟩ := Option.bind_eq_some_iff.mp hD
  dsimp only at hD
  refine k_runV rfl rfl rfl (c_get (r := 36) (o := 0) (K := 10) rfl (by decide)) rfl rfl (t_e_Sleep_goTill (d := d) ht kq6 rfl hv7) ?_
  refine k_runB (pc' := 28) (loc' := [(0, .ref (32 * 1024)), (1, .int x1), (2, .int x2)]) (st' := [.ref (32 * 1024)]) 1 rfl ?_
  refine k_gf 32 0 (K := 7) rfl rfl rfl rfl rfl ?_
  refine k_gf 33 0 (K := 2) rfl rfl rfl rfl rfl ?_
  refine k_runB (pc' := 35) (loc' := [(0, .ref (32 * 1024)), (1, .int x1), (2, .int x2)]) (st' := [.int x1, .ref (33 * 1024 + 5)]) 1 rfl ?_
  obtain ⟨v12, hv12, hD⟩ := Option.bind_eq_some_iff.mp hD
  refine k_ldI rfl (c_get (r := 33) (o := 5) (K := 2) rfl (by decide)) hv12 ?_
  cases hD
  exact k_iret rfl rfl
def e_Evening_isAnswered_26 (n : Nat) (P : Nat → Nat → Nat) (F : Nat → Nat → Int32) (A : Nat → Nat → Nat → Int32) (J : Nat → Nat → Nat → Int64) (x1 : Int32) (x2 : Int32) (x3 : Int32) : Option (Int32 × (Nat → Nat → Nat) × (Nat → Nat → Int32) × (Nat → Nat → Nat → Int32) × (Nat → Nat → Nat → Int64)) :=
    (c_pf F 32 6 x1).bind fun F4 =>
    (c_pf F4 32 7 x2).bind fun F5 =>
    (c_pf F5 32 8 x3).bind fun F6 =>
    (c_chk 6 (P 32 4)).bind fun q7 =>
    (e_House_worthOfAll n P F6 A J q7 2).bind fun v8 =>
    (c_pf F6 32 5 v8).bind fun F9 =>
    (c_pf F9 32 10 ((-2000000000))).bind fun F10 =>
    some (0, P, F10, A, J)
set_option maxRecDepth 10000 in
theorem t_e_Evening_isAnswered_26 (ht : ∀ ci k, t.1 ci k = k_ty ci k) {n : Nat}  {P : Nat → Nat → Nat} {F : Nat → Nat → Int32} {A : Nat → Nat → Nat → Int32} {J : Nat → Nat → Nat → Int64} {x1 : Int32} {x2 : Int32} {x3 : Int32}  {w : Int32 × (Nat → Nat → Nat) × (Nat → Nat → Int32) × (Nat → Nat → Nat → Int32) × (Nat → Nat → Nat → Int64)} : e_Evening_isAnswered_26 n P F A J x1 x2 x3 = some w → k_run t lg (d + 2) 8 26 [(0, .ref (32 * 1024)), (1, .int x1), (2, .int x2), (3, .int x3)] [] (c_h c B P F A J) (some (.int w.1), c_h c B w.2.1 w.2.2.1 w.2.2.2.1 w.2.2.2.2) := by
  intro hD
  unfold e_Evening_isAnswered_26 at hD
  refine k_runB (pc' := 28) (loc' := [(0, .ref (32 * 1024)), (1, .int x1), (2, .int x2), (3, .int x3)]) (st' := [.int x1, .ref (32 * 1024)]) 2 rfl ?_
  obtain ⟨F4, hF4, hD⟩ := Option.bind_eq_some_iff.mp hD
  refine k_cpt 32 0 (K := 7) (key := 6) rfl rfl (ht 0 6) rfl rfl rfl hF4 ?_
  refine k_runB (pc' := 33) (loc' := [(0, .ref (32 * 1024)), (1, .int x1), (2, .int x2), (3, .int x3)]) (st' := [.int x2, .ref (32 * 1024)]) 2 rfl ?_
  obtain ⟨F5, hF5, hD⟩ := Option.bind_eq_some_iff.mp hD
  refine k_cpt 32 0 (K := 7) (key := 7) rfl rfl (ht 0 7) rfl rfl rfl hF5 ?_
  refine k_runB (pc' := 38) (loc' := [(0, .ref (32 * 1024)), (1, .int x1), (2, .int x2), (3, .int x3)]) (st' := [.int x3, .ref (32 * 1024)]) 2 rfl ?_
  obtain ⟨F6, hF6, hD⟩ := Option.bind_eq_some_iff.mp hD
  refine k_cpt 32 0 (K := 7) (key := 8) rfl rfl (ht 0 8) rfl rfl rfl hF6 ?_
  refine k_runB (pc' := 43) (loc' := [(0, .ref (32 * 1024)), (1, .int x1), (2, .int x2), (3, .int x3)]) (st' := [.ref (32 * 1024), .ref (32 * 1024)]) 2 rfl ?_
  obtain ⟨q7, hq7, hD⟩ := Option.bind_eq_some_iff.mp hD
  refine k_gq 32 0 (K := 7) (K2 := 6) (key := 4) rfl rfl rfl rfl rfl hq7 (fun kq7 => ?_)
  refine k_runB (pc' := 47) (loc' := [(0, .ref (32 * 1024)), (1, .int x1), (2, .int x2), (3, .int x3)]) (st' := [.ref (32 * 1024), .ref (q7 * 1024), .ref (32 * 1024)]) 1 rfl ?_
  refine k_gf 32 0 (K := 7) rfl rfl rfl rfl rfl ?_
  obtain ⟨v8, hv8, hD⟩ := Option.bind_eq_some_iff.mp hD
  refine k_runV rfl rfl rfl (c_get (r := q7) (o := 0) (K := 6) kq7 (by decide)) rfl rfl (t_e_House_worthOfAll (d := d) kq7 rfl hv8) ?_
  obtain ⟨F9, hF9, hD⟩ := Option.bind_eq_some_iff.mp hD
  refine k_cpt 32 0 (K := 7) (key := 5) rfl rfl (ht 0 5) rfl rfl rfl hF9 ?_
  refine k_runB (pc' := 59) (loc' := [(0, .ref (32 * 1024)), (1, .int x1), (2, .int x2), (3, .int x3)]) (st' := [.int ((-2000000000)), .ref (32 * 1024)]) 2 rfl ?_
  obtain ⟨F10, hF10, hD⟩ := Option.bind_eq_some_iff.mp hD
  refine k_cpt 32 0 (K := 7) (key := 10) rfl rfl (ht 0 10) rfl rfl rfl hF10 ?_
  refine k_runB (pc' := 63) (loc' := [(0, .ref (32 * 1024)), (1, .int x1), (2, .int x2), (3, .int x3)]) (st' := [.int 0]) 1 rfl ?_
  cases hD
  exact k_zret rfl rfl (Or.inl rfl)
/-- SleepWork$Evening.isAnswered(III)Z  -/
def e_Evening_isAnswered (n : Nat) (P : Nat → Nat → Nat) (F : Nat → Nat → Int32) (A : Nat → Nat → Nat → Int32) (J : Nat → Nat → Nat → Int64) (x1 : Int32) (x2 : Int32) (x3 : Int32) : Option (Int32 × (Nat → Nat → Nat) × (Nat → Nat → Int32) × (Nat → Nat → Nat → Int32) × (Nat → Nat → Nat → Int64)) :=
  cond (g_cnd .ne (F 32 6) x1)
  (e_Evening_isAnswered_26 n P F A J x1 x2 x3)
  (cond (g_cnd .ne (F 32 7) x2)
  (e_Evening_isAnswered_26 n P F A J x1 x2 x3)
  (cond (g_cnd .ne (F 32 8) x3)
  (e_Evening_isAnswered_26 n P F A J x1 x2 x3)
  (some (1, P, F, A, J))))
set_option maxRecDepth 10000 in
theorem t_e_Evening_isAnswered (ht : ∀ ci k, t.1 ci k = k_ty ci k) {n : Nat} {P : Nat → Nat → Nat} {F : Nat → Nat → Int32} {A : Nat → Nat → Nat → Int32} {J : Nat → Nat → Nat → Int64} {x1 : Int32} {x2 : Int32} {x3 : Int32}  {w : Int32 × (Nat → Nat → Nat) × (Nat → Nat → Int32) × (Nat → Nat → Nat → Int32) × (Nat → Nat → Nat → Int64)} : e_Evening_isAnswered n P F A J x1 x2 x3 = some w → k_run t lg (d + 2) 8 0 [(0, .ref (32 * 1024)), (1, .int x1), (2, .int x2), (3, .int x3)] [] (c_h c B P F A J) (some (.int w.1), c_h c B w.2.1 w.2.2.1 w.2.2.2.1 w.2.2.2.2) := by
  intro hD
  unfold e_Evening_isAnswered at hD
  refine k_runB (pc' := 1) (loc' := [(0, .ref (32 * 1024)), (1, .int x1), (2, .int x2), (3, .int x3)]) (st' := [.ref (32 * 1024)]) 1 rfl ?_
  refine k_gf 32 0 (K := 7) rfl rfl rfl rfl rfl ?_
  refine k_runB (pc' := 5) (loc' := [(0, .ref (32 * 1024)), (1, .int x1), (2, .int x2), (3, .int x3)]) (st' := [.int x1, .int (F 32 6)]) 1 rfl ?_
  refine k_ic rfl (fun c5_0 => ?_) (fun c5_0 => ?_)
  · rw [c5_0, cond_true] at hD
    refine k_wk [0, 1, 2, 3] (loc' := [(0, .ref (32 * 1024)), (1, .int x1), (2, .int x2), (3, .int x3)]) rfl rfl ?_
    exact t_e_Evening_isAnswered_26 ht   hD
  · rw [c5_0, cond_false] at hD
    refine k_runB (pc' := 9) (loc' := [(0, .ref (32 * 1024)), (1, .int x1), (2, .int x2), (3, .int x3)]) (st' := [.ref (32 * 1024)]) 1 rfl ?_
    refine k_gf 32 0 (K := 7) rfl rfl rfl rfl rfl ?_
    refine k_runB (pc' := 13) (loc' := [(0, .ref (32 * 1024)), (1, .int x1), (2, .int x2), (3, .int x3)]) (st' := [.int x2, .int (F 32 7)]) 1 rfl ?_
    refine k_ic rfl (fun c13_1 => ?_) (fun c13_1 => ?_)
    · rw [c13_1, cond_true] at hD
      refine k_wk [0, 1, 2, 3] (loc' := [(0, .ref (32 * 1024)), (1, .int x1), (2, .int x2), (3, .int x3)]) rfl rfl ?_
      exact t_e_Evening_isAnswered_26 ht   hD
    · rw [c13_1, cond_false] at hD
      refine k_runB (pc' := 17) (loc' := [(0, .ref (32 * 1024)), (1, .int x1), (2, .int x2), (3, .int x3)]) (st' := [.ref (32 * 1024)]) 1 rfl ?_
      refine k_gf 32 0 (K := 7) rfl rfl rfl rfl rfl ?_
      refine k_runB (pc' := 21) (loc' := [(0, .ref (32 * 1024)), (1, .int x1), (2, .int x2), (3, .int x3)]) (st' := [.int x3, .int (F 32 8)]) 1 rfl ?_
      refine k_ic rfl (fun c21_2 => ?_) (fun c21_2 => ?_)
      · rw [c21_2, cond_true] at hD
        refine k_wk [0, 1, 2, 3] (loc' := [(0, .ref (32 * 1024)), (1, .int x1), (2, .int x2), (3, .int x3)]) rfl rfl ?_
        exact t_e_Evening_isAnswered_26 ht   hD
      · rw [c21_2, cond_false] at hD
        refine k_runB (pc' := 25) (loc' := [(0, .ref (32 * 1024)), (1, .int x1), (2, .int x2), (3, .int x3)]) (st' := [.int 1]) 1 rfl ?_
        cases hD
        exact k_zret rfl rfl (Or.inr rfl)
/-- SleepWork$Evening.offer(III)V  -/
def e_Evening_offer (P : Nat → Nat → Nat) (F : Nat → Nat → Int32) (A : Nat → Nat → Nat → Int32) (J : Nat → Nat → Nat → Int64) (x1 : Int32) (x2 : Int32) (x3 : Int32) : Option (Unit × (Nat → Nat → Nat) × (Nat → Nat → Int32) × (Nat → Nat → Nat → Int32) × (Nat → Nat → Nat → Int64)) :=
  cond (g_cnd .le x1 (F 32 10))
  (some ((), P, F, A, J))
  ((c_pf F 32 10 x1).bind fun F2 =>
  (c_pf F2 32 12 x2).bind fun F3 =>
  (c_pf F3 32 13 x3).bind fun F4 =>
  some ((), P, F4, A, J))
set_option maxRecDepth 10000 in
theorem t_e_Evening_offer (ht : ∀ ci k, t.1 ci k = k_ty ci k) {P : Nat → Nat → Nat} {F : Nat → Nat → Int32} {A : Nat → Nat → Nat → Int32} {J : Nat → Nat → Nat → Int64} {x1 : Int32} {x2 : Int32} {x3 : Int32}  {w : Unit × (Nat → Nat → Nat) × (Nat → Nat → Int32) × (Nat → Nat → Nat → Int32) × (Nat → Nat → Nat → Int64)} : e_Evening_offer P F A J x1 x2 x3 = some w → k_run t lg (d) 9 0 [(0, .ref (32 * 1024)), (1, .int x1), (2, .int x2), (3, .int x3)] [] (c_h c B P F A J) (none, c_h c B w.2.1 w.2.2.1 w.2.2.2.1 w.2.2.2.2) := by
  intro hD
  unfold e_Evening_offer at hD
  refine k_runB (pc' := 2) (loc' := [(0, .ref (32 * 1024)), (1, .int x1), (2, .int x2), (3, .int x3)]) (st' := [.ref (32 * 1024), .int x1]) 2 rfl ?_
  refine k_gf 32 0 (K := 7) rfl rfl rfl rfl rfl ?_
  refine k_ic rfl (fun c5_0 => ?_) (fun c5_0 => ?_)
  · rw [c5_0, cond_true] at hD
    cases hD
    exact k_vret rfl rfl
  · rw [c5_0, cond_false] at hD
    refine k_runB (pc' := 10) (loc' := [(0, .ref (32 * 1024)), (1, .int x1), (2, .int x2), (3, .int x3)]) (st' := [.int x1, .ref (32 * 1024)]) 2 rfl ?_
    obtain ⟨F2, hF2, hD⟩ := Option.bind_eq_some_iff.mp hD
    refine k_cpt 32 0 (K := 7) (key := 10) rfl rfl (ht 0 10) rfl rfl rfl hF2 ?_
    refine k_runB (pc' := 15) (loc' := [(0, .ref (32 * 1024)), (1, .int x1), (2, .int x2), (3, .int x3)]) (st' := [.int x2, .ref (32 * 1024)]) 2 rfl ?_
    obtain ⟨F3, hF3, hD⟩ := Option.bind_eq_some_iff.mp hD
    refine k_cpt 32 0 (K := 7) (key := 12) rfl rfl (ht 0 12) rfl rfl rfl hF3 ?_
    refine k_runB (pc' := 20) (loc' := [(0, .ref (32 * 1024)), (1, .int x1), (2, .int x2), (3, .int x3)]) (st' := [.int x3, .ref (32 * 1024)]) 2 rfl ?_
    obtain ⟨F4, hF4, hD⟩ := Option.bind_eq_some_iff.mp hD
    refine k_cpt 32 0 (K := 7) (key := 13) rfl rfl (ht 0 13) rfl rfl rfl hF4 ?_
    cases hD
    exact k_vret rfl rfl
/-- SleepWork$House.mayBeLeft(I)Z  -/
def e_House_mayBeLeft (P : Nat → Nat → Nat) (F : Nat → Nat → Int32) (A : Nat → Nat → Nat → Int32) (J : Nat → Nat → Nat → Int64) (r0 : Nat) (x1 : Int32) : Option (Int32) :=
  cond (g_cnd .lt x1 0)
  (some (1))
  ((m_rem x1 6).bind fun v2 =>
  (m_div x1 6).bind fun v3 =>
  (m_ld (A r0 5) 6 v3).bind fun v4 =>
  cond (g_cnd .ge v2 v4)
  (some (0))
  (some (1)))
set_option maxRecDepth 10000 in
theorem t_e_House_mayBeLeft {P : Nat → Nat → Nat} {F : Nat → Nat → Int32} {A : Nat → Nat → Nat → Int32} {J : Nat → Nat → Nat → Int64} {r0 : Nat} {x1 : Int32} (hr0 : c_kind r0 = 6) {w : Int32} : e_House_mayBeLeft P F A J r0 x1 = some w → k_run t lg (d) 24 0 [(0, .ref (r0 * 1024)), (1, .int x1)] [] (c_h c B P F A J) (some (.int w), c_h c B P F A J) := by
  intro hD
  unfold e_House_mayBeLeft at hD
  refine k_runB (pc' := 1) (loc' := [(0, .ref (r0 * 1024)), (1, .int x1)]) (st' := [.int x1]) 1 rfl ?_
  refine k_if rfl (fun c1_0 => ?_) (fun c1_0 => ?_)
  · rw [c1_0, cond_true] at hD
    refine k_runB (pc' := 25) (loc' := [(0, .ref (r0 * 1024)), (1, .int x1)]) (st' := [.int 1]) 2 rfl ?_
    cases hD
    exact k_zret rfl rfl (Or.inr rfl)
  · rw [c1_0, cond_false] at hD
    refine k_runB (pc' := 7) (loc' := [(0, .ref (r0 * 1024)), (1, .int x1)]) (st' := [.int 6, .int x1]) 2 rfl ?_
    obtain ⟨v2, hv2, hD⟩ := Option.bind_eq_some_iff.mp hD
    refine k_rmI rfl hv2 ?_
    refine k_runB (pc' := 9) (loc' := [(0, .ref (r0 * 1024)), (1, .int x1)]) (st' := [.ref (r0 * 1024), .int v2]) 1 rfl ?_
    refine k_gf r0 0 (K := 6) hr0 rfl rfl rfl rfl ?_
    refine k_runB (pc' := 15) (loc' := [(0, .ref (r0 * 1024)), (1, .int x1)]) (st' := [.int 6, .int x1, .ref (r0 * 1024 + 5), .int v2]) 2 rfl ?_
    obtain ⟨v3, hv3, hD⟩ := Option.bind_eq_some_iff.mp hD
    refine k_dvI rfl hv3 ?_
    obtain ⟨v4, hv4, hD⟩ := Option.bind_eq_some_iff.mp hD
    refine k_ldI rfl (c_get (r := r0) (o := 5) (K := 6) hr0 (by decide)) hv4 ?_
    refine k_ic rfl (fun c17_4 => ?_) (fun c17_4 => ?_)
    · rw [c17_4, cond_true] at hD
      refine k_runB (pc' := 25) (loc' := [(0, .ref (r0 * 1024)), (1, .int x1)]) (st' := [.int 0]) 1 rfl ?_
      cases hD
      exact k_zret rfl rfl (Or.inl rfl)
    · rw [c17_4, cond_false] at hD
      refine k_runB (pc' := 25) (loc' := [(0, .ref (r0 * 1024)), (1, .int x1)]) (st' := [.int 1]) 2 rfl ?_
      cases hD
      exact k_zret rfl rfl (Or.inr rfl)
def e_Evening_seekForOne_73 (K13 : (Nat → Nat → Nat) → (Nat → Nat → Int32) → (Nat → Nat → Nat → Int32) → (Nat → Nat → Nat → Int64) → Int32 → Int32 → Option (Unit × (Nat → Nat → Nat) × (Nat → Nat → Int32) × (Nat → Nat → Nat → Int32) × (Nat → Nat → Nat → Int64))) (n : Nat) (P : Nat → Nat → Nat) (F : Nat → Nat → Int32) (A : Nat → Nat → Nat → Int32) (J : Nat → Nat → Nat → Int64) (x1 : Int32) (x2 : Int32) : Option (Unit × (Nat → Nat → Nat) × (Nat → Nat → Int32) × (Nat → Nat → Nat → Int32) × (Nat → Nat → Nat → Int64)) :=
    K13 P F A J x1 (x2 + 1)
set_option maxRecDepth 10000 in
theorem t_e_Evening_seekForOne_73 (ht : ∀ ci k, t.1 ci k = k_ty ci k) {n : Nat} {K13 : (Nat → Nat → Nat) → (Nat → Nat → Int32) → (Nat → Nat → Nat → Int32) → (Nat → Nat → Nat → Int64) → Int32 → Int32 → Option (Unit × (Nat → Nat → Nat) × (Nat → Nat → Int32) × (Nat → Nat → Nat → Int32) × (Nat → Nat → Nat → Int64))} (hK13 : ∀ (P : Nat → Nat → Nat) (F : Nat → Nat → Int32) (A : Nat → Nat → Nat → Int32) (J : Nat → Nat → Nat → Int64) (x1 : Int32) (x2 : Int32) (w : Unit × (Nat → Nat → Nat) × (Nat → Nat → Int32) × (Nat → Nat → Nat → Int32) × (Nat → Nat → Nat → Int64)), K13 P F A J x1 x2 = some w → k_run t lg (d + 6) 10 13 [(0, .ref (32 * 1024)), (1, .int x1), (2, .int x2)] [] (c_h c B P F A J) (none, c_h c B w.2.1 w.2.2.1 w.2.2.2.1 w.2.2.2.2)) {P : Nat → Nat → Nat} {F : Nat → Nat → Int32} {A : Nat → Nat → Nat → Int32} {J : Nat → Nat → Nat → Int64} {x1 : Int32} {x2 : Int32}  {w : Unit × (Nat → Nat → Nat) × (Nat → Nat → Int32) × (Nat → Nat → Nat → Int32) × (Nat → Nat → Nat → Int64)} : e_Evening_seekForOne_73 K13 n P F A J x1 x2 = some w → k_run t lg (d + 6) 10 73 [(0, .ref (32 * 1024)), (1, .int x1), (2, .int x2)] [] (c_h c B P F A J) (none, c_h c B w.2.1 w.2.2.1 w.2.2.2.1 w.2.2.2.2) := by
  intro hD
  unfold e_Evening_seekForOne_73 at hD
  refine k_runB (pc' := 13) (loc' := [(0, .ref (32 * 1024)), (1, .int x1), (2, .int (x2 + 1))]) (st' := []) 2 rfl ?_
  refine k_wk [0, 1, 2] (loc' := [(0, .ref (32 * 1024)), (1, .int x1), (2, .int (x2 + 1))]) rfl rfl ?_
  exact hK13 _ _ _ _ _ _ _  hD
def e_Evening_seekForOne_13 : Nat → (Nat → Nat → Nat) → (Nat → Nat → Int32) → (Nat → Nat → Nat → Int32) → (Nat → Nat → Nat → Int64) → Int32 → Int32 → Option (Unit × (Nat → Nat → Nat) × (Nat → Nat → Int32) × (Nat → Nat → Nat → Int32) × (Nat → Nat → Nat → Int64))
  | 0, _, _, _, _, _, _ => none
  | n + 1, P, F, A, J, x1, x2 => cond (g_cnd .ge x2 36)
    (some ((), P, F, A, J))
    ((c_chk 6 (P 32 4)).bind fun q8 =>
    (e_House_mayBeLeft P F A J q8 x2).bind fun v9 =>
    cond (g_cnd .eq v9 0)
    (e_Evening_seekForOne_73 (e_Evening_seekForOne_13 n) n P F A J x1 x2)
    ((e_State_copy P F A J 33 2).bind fun (_, P12, F13, A14, J15) =>
    (c_st A14 33 3 6 x1 x2).bind fun A16 =>
    (e_Evening_gainOfTrial n P12 F13 A16 J15).bind fun (v17, P18, F19, A20, J21) =>
    (e_Evening_offer P18 F19 A20 J21 v17 x2 ((-1))).bind fun (_, P23, F24, A25, J26) =>
    cond (g_cnd .ge x2 0)
    (e_Evening_seekForOne_73 (e_Evening_seekForOne_13 n) n P23 F24 A25 J26 x1 x2)
    ((c_pf F24 32 11 (F24 32 10)).bind fun F28 =>
    (e_Evening_seekForOne_13 n) P23 F28 A25 J26 x1 (x2 + 1))))
set_option maxRecDepth 10000 in
theorem t_e_Evening_seekForOne_13 (ht : ∀ ci k, t.1 ci k = k_ty ci k) {n : Nat}  {P : Nat → Nat → Nat} {F : Nat → Nat → Int32} {A : Nat → Nat → Nat → Int32} {J : Nat → Nat → Nat → Int64} {x1 : Int32} {x2 : Int32}  {w : Unit × (Nat → Nat → Nat) × (Nat → Nat → Int32) × (Nat → Nat → Nat → Int32) × (Nat → Nat → Nat → Int64)} : e_Evening_seekForOne_13 n P F A J x1 x2 = some w → k_run t lg (d + 6) 10 13 [(0, .ref (32 * 1024)), (1, .int x1), (2, .int x2)] [] (c_h c B P F A J) (none, c_h c B w.2.1 w.2.2.1 w.2.2.2.1 w.2.2.2.2) := by
  induction n generalizing P F A J x1 x2 w with
  | zero => intro hD; cases hD
  | succ n ih =>
    intro hD
    have hK13 : ∀ (P : Nat → Nat → Nat) (F : Nat → Nat → Int32) (A : Nat → Nat → Nat → Int32) (J : Nat → Nat → Nat → Int64) (x1 : Int32) (x2 : Int32) (w : Unit × (Nat → Nat → Nat) × (Nat → Nat → Int32) × (Nat → Nat → Nat → Int32) × (Nat → Nat → Nat → Int64)), e_Evening_seekForOne_13 n P F A J x1 x2 = some w → k_run t lg (d + 6) 10 13 [(0, .ref (32 * 1024)), (1, .int x1), (2, .int x2)] [] (c_h c B P F A J) (none, c_h c B w.2.1 w.2.2.1 w.2.2.2.1 w.2.2.2.2) := fun _ _ _ _ _ _ _  h => ih  h
    unfold e_Evening_seekForOne_13 at hD
    refine k_runB (pc' := 16) (loc' := [(0, .ref (32 * 1024)), (1, .int x1), (2, .int x2)]) (st' := [.int 36, .int x2]) 2 rfl ?_
    refine k_ic rfl (fun c16_6 => ?_) (fun c16_6 => ?_)
    · rw [c16_6, cond_true] at hD
      cases hD
      exact k_vret rfl rfl
    · rw [c16_6, cond_false] at hD
      refine k_runB (pc' := 20) (loc' := [(0, .ref (32 * 1024)), (1, .int x1), (2, .int x2)]) (st' := [.ref (32 * 1024)]) 1 rfl ?_
      obtain ⟨q8, hq8, hD⟩ := Option.bind_eq_some_iff.mp hD
      refine k_gq 32 0 (K := 7) (K2 := 6) (key := 4) rfl rfl rfl rfl rfl hq8 (fun kq8 => ?_)
      refine k_runB (pc' := 24) (loc' := [(0, .ref (32 * 1024)), (1, .int x1), (2, .int x2)]) (st' := [.int x2, .ref (q8 * 1024)]) 1 rfl ?_
      obtain ⟨v9, hv9, hD⟩ := Option.bind_eq_some_iff.mp hD
      refine k_runV rfl rfl rfl (c_get (r := q8) (o := 0) (K := 6) kq8 (by decide)) rfl rfl (t_e_House_mayBeLeft (d := d + 5) kq8 hv9) ?_
      refine k_if rfl (fun c27_9 => ?_) (fun c27_9 => ?_)
      · rw [c27_9, cond_true] at hD
        refine k_wk [0, 1, 2] (loc' := [(0, .ref (32 * 1024)), (1, .int x1), (2, .int x2)]) rfl rfl ?_
        exact t_e_Evening_seekForOne_73 ht hK13  hD
      · rw [c27_9, cond_false] at hD
        refine k_runB (pc' := 31) (loc' := [(0, .ref (32 * 1024)), (1, .int x1), (2, .int x2)]) (st' := [.ref (32 * 1024)]) 1 rfl ?_
        refine k_gf 32 0 (K := 7) rfl rfl rfl rfl rfl ?_
        refine k_runB (pc' := 35) (loc' := [(0, .ref (32 * 1024)), (1, .int x1), (2, .int x2)]) (st' := [.ref (32 * 1024), .ref (33 * 1024)]) 1 rfl ?_
        refine k_gf 32 0 (K := 7) rfl rfl rfl rfl rfl ?_
        obtain ⟨⟨v11, P12, F13, A14, J15⟩, hv11, hD⟩ := Option.bind_eq_some_iff.mp hD
        dsimp only at hD
        refine k_runV rfl rfl rfl (c_get (r := 33) (o := 0) (K := 2) rfl (by decide)) rfl rfl (t_e_State_copy (d := d + 5) ht rfl rfl hv11) ?_
        refine k_runB (pc' := 42) (loc' := [(0, .ref (32 * 1024)), (1, .int x1), (2, .int x2)]) (st' := [.ref (32 * 1024)]) 1 rfl ?_
        refine k_gf 32 0 (K := 7) rfl rfl rfl rfl rfl ?_
        refine k_gf 33 0 (K := 2) rfl rfl rfl rfl rfl ?_
        refine k_runB (pc' := 50) (loc' := [(0, .ref (32 * 1024)), (1, .int x1), (2, .int x2)]) (st' := [.int x2, .int x1, .ref (33 * 1024 + 3)]) 2 rfl ?_
        obtain ⟨A16, hA16, hD⟩ := Option.bind_eq_some_iff.mp hD
        refine k_cstI 33 3 (K := 2) rfl rfl rfl rfl (fun _ => rfl) hA16 ?_
        refine k_runB (pc' := 53) (loc' := [(0, .ref (32 * 1024)), (1, .int x1), (2, .int x2)]) (st' := [.ref (32 * 1024), .ref (32 * 1024)]) 2 rfl ?_
        obtain ⟨⟨v17, P18, F19, A20, J21⟩, hv17, hD⟩ := Option.bind_eq_some_iff.mp hD
        dsimp only at hD
        refine k_runV rfl rfl rfl (c_get (r := 32) (o := 0) (K := 7) rfl (by decide)) rfl rfl (t_e_Evening_gainOfTrial (d := d) ht hv17) ?_
        refine k_runB (pc' := 58) (loc' := [(0, .ref (32 * 1024)), (1, .int x1), (2, .int x2)]) (st' := [.int ((-1)), .int x2, .int v17, .ref (32 * 1024)]) 2 rfl ?_
        obtain ⟨⟨v22, P23, F24, A25, J26⟩, hv22, hD⟩ := Option.bind_eq_some_iff.mp hD
        dsimp only at hD
        refine k_runV rfl rfl rfl (c_get (r := 32) (o := 0) (K := 7) rfl (by decide)) rfl rfl (t_e_Evening_offer (d := d + 5) ht hv22) ?_
        refine k_runB (pc' := 62) (loc' := [(0, .ref (32 * 1024)), (1, .int x1), (2, .int x2)]) (st' := [.int x2]) 1 rfl ?_
        refine k_if rfl (fun c62_26 => ?_) (fun c62_26 => ?_)
        · rw [c62_26, cond_true] at hD
          refine k_wk [0, 1, 2] (loc' := [(0, .ref (32 * 1024)), (1, .int x1), (2, .int x2)]) rfl rfl ?_
          exact t_e_Evening_seekForOne_73 ht hK13  hD
        · rw [c62_26, cond_false] at hD
          refine k_runB (pc' := 67) (loc' := [(0, .ref (32 * 1024)), (1, .int x1), (2, .int x2)]) (st' := [.ref (32 * 1024), .ref (32 * 1024)]) 2 rfl ?_
          refine k_gf 32 0 (K := 7) rfl rfl rfl rfl rfl ?_
          obtain ⟨F28, hF28, hD⟩ := Option.bind_eq_some_iff.mp hD
          refine k_cpt 32 0 (K := 7) (key := 11) rfl rfl (ht 0 11) rfl rfl rfl hF28 ?_
          refine k_runB (pc' := 13) (loc' := [(0, .ref (32 * 1024)), (1, .int x1), (2, .int (x2 + 1))]) (st' := []) 2 rfl ?_
          refine k_wk [0, 1, 2] (loc' := [(0, .ref (32 * 1024)), (1, .int x1), (2, .int (x2 + 1))]) rfl rfl ?_
          exact hK13 _ _ _ _ _ _ _  hD
/-- SleepWork$Evening.seekForOne(I)V  -/
def e_Evening_seekForOne (n : Nat) (P : Nat → Nat → Nat) (F : Nat → Nat → Int32) (A : Nat → Nat → Nat → Int32) (J : Nat → Nat → Nat → Int64) (x1 : Int32) : Option (Unit × (Nat → Nat → Nat) × (Nat → Nat → Int32) × (Nat → Nat → Nat → Int32) × (Nat → Nat → Nat → Int64)) :=
  (e_Evening_isAnswered n P F A J 0 x1 ((-1))).bind fun (v1, P2, F3, A4, J5) =>
  cond (g_cnd .eq v1 0)
  (e_Evening_seekForOne_13 n P2 F3 A4 J5 x1 ((-1)))
  (some ((), P2, F3, A4, J5))
set_option maxRecDepth 10000 in
theorem t_e_Evening_seekForOne (ht : ∀ ci k, t.1 ci k = k_ty ci k) {n : Nat} {P : Nat → Nat → Nat} {F : Nat → Nat → Int32} {A : Nat → Nat → Nat → Int32} {J : Nat → Nat → Nat → Int64} {x1 : Int32}  {w : Unit × (Nat → Nat → Nat) × (Nat → Nat → Int32) × (Nat → Nat → Nat → Int32) × (Nat → Nat → Nat → Int64)} : e_Evening_seekForOne n P F A J x1 = some w → k_run t lg (d + 6) 10 0 [(0, .ref (32 * 1024)), (1, .int x1)] [] (c_h c B P F A J) (none, c_h c B w.2.1 w.2.2.1 w.2.2.2.1 w.2.2.2.2) := by
  intro hD
  unfold e_Evening_seekForOne at hD
  refine k_runB (pc' := 4) (loc' := [(0, .ref (32 * 1024)), (1, .int x1)]) (st' := [.int ((-1)), .int x1, .int 0, .ref (32 * 1024)]) 4 rfl ?_
  obtain ⟨⟨v1, P2, F3, A4, J5⟩, hv1, hD⟩ := Option.bind_eq_some_iff.mp hD
  dsimp only at hD
  refine k_runV rfl rfl rfl (c_get (r := 32) (o := 0) (K := 7) rfl (by decide)) rfl rfl (t_e_Evening_isAnswered (d := d + 3) ht hv1) ?_
  refine k_if rfl (fun c7_5 => ?_) (fun c7_5 => ?_)
  · rw [c7_5, cond_true] at hD
    refine k_runB (pc' := 13) (loc' := [(0, .ref (32 * 1024)), (1, .int x1), (2, .int ((-1)))]) (st' := []) 2 rfl ?_
    refine k_wk [0, 1, 2] (loc' := [(0, .ref (32 * 1024)), (1, .int x1), (2, .int ((-1)))]) rfl rfl ?_
    exact t_e_Evening_seekForOne_13 ht   hD
  · rw [c7_5, cond_false] at hD
    cases hD
    exact k_vret rfl rfl
end MC
