/-! the class's methods as functions (printed by wip/dec2.py) -/
section MC
variable {t : gT} {lg : Nat → Nat} {d : Nat} {c : Nat × Nat} {B : Nat → List gE}
/-- SleepWork$Ways.drop()V  -/
def e_Ways_drop (P : Nat → Nat → Nat) (F : Nat → Nat → Int32) (A : Nat → Nat → Nat → Int32) (J : Nat → Nat → Nat → Int64) : Option (Unit × (Nat → Nat → Nat) × (Nat → Nat → Int32) × (Nat → Nat → Nat → Int32) × (Nat → Nat → Nat → Int64)) :=
  (c_pf F 36 101 ((-1))).bind fun F1 =>
  some ((), P, F1, A, J)
set_option maxRecDepth 10000 in
theorem t_e_Ways_drop (ht : ∀ ci k, t.1 ci k = k_ty ci k) {P : Nat → Nat → Nat} {F : Nat → Nat → Int32} {A : Nat → Nat → Nat → Int32} {J : Nat → Nat → Nat → Int64}   {w : Unit × (Nat → Nat → Nat) × (Nat → Nat → Int32) × (Nat → Nat → Nat → Int32) × (Nat → Nat → Nat → Int64)} : e_Ways_drop P F A J = some w → k_run t lg (d) 94 0 [(0, .ref (36 * 1024 + 1))] [] (c_h c B P F A J) (none, c_h c B w.2.1 w.2.2.1 w.2.2.2.1 w.2.2.2.2) := by
  intro hD
  unfold e_Ways_drop at hD
  refine k_runB (pc' := 2) (loc' := [(0, .ref (36 * 1024 + 1))]) (st' := [.int ((-1)), .ref (36 * 1024 + 1)]) 2 rfl ?_
  obtain ⟨F1, hF1, hD⟩ := Option.bind_eq_some_iff.mp hD
  refine k_cpt 36 1 (K := 10) (key := 101) rfl rfl (ht 10 1) rfl rfl rfl hF1 ?_
  cases hD
  exact k_vret rfl rfl
/-- SleepWork$Evening.setStale()V  -/
def e_Evening_setStale (P : Nat → Nat → Nat) (F : Nat → Nat → Int32) (A : Nat → Nat → Nat → Int32) (J : Nat → Nat → Nat → Int64) : Option (Unit × (Nat → Nat → Nat) × (Nat → Nat → Int32) × (Nat → Nat → Nat → Int32) × (Nat → Nat → Nat → Int64)) :=
  (c_pf F 32 6 ((-1))).bind fun F1 =>
  some ((), P, F1, A, J)
set_option maxRecDepth 10000 in
theorem t_e_Evening_setStale (ht : ∀ ci k, t.1 ci k = k_ty ci k) {P : Nat → Nat → Nat} {F : Nat → Nat → Int32} {A : Nat → Nat → Nat → Int32} {J : Nat → Nat → Nat → Int64}   {w : Unit × (Nat → Nat → Nat) × (Nat → Nat → Int32) × (Nat → Nat → Nat → Int32) × (Nat → Nat → Nat → Int64)} : e_Evening_setStale P F A J = some w → k_run t lg (d) 2 0 [(0, .ref (32 * 1024))] [] (c_h c B P F A J) (none, c_h c B w.2.1 w.2.2.1 w.2.2.2.1 w.2.2.2.2) := by
  intro hD
  unfold e_Evening_setStale at hD
  refine k_runB (pc' := 2) (loc' := [(0, .ref (32 * 1024))]) (st' := [.int ((-1)), .ref (32 * 1024)]) 2 rfl ?_
  obtain ⟨F1, hF1, hD⟩ := Option.bind_eq_some_iff.mp hD
  refine k_cpt 32 0 (K := 7) (key := 6) rfl rfl (ht 0 6) rfl rfl rfl hF1 ?_
  cases hD
  exact k_vret rfl rfl
/-- SleepWork$Evening.enter(LSleepWork$House;)V  -/
def e_Evening_enter (P : Nat → Nat → Nat) (F : Nat → Nat → Int32) (A : Nat → Nat → Nat → Int32) (J : Nat → Nat → Nat → Int64) (r1 : Nat) : Option (Unit × (Nat → Nat → Nat) × (Nat → Nat → Int32) × (Nat → Nat → Nat → Int32) × (Nat → Nat → Nat → Int64)) :=
  (c_pp P 32 4 r1).bind fun P1 =>
  (e_Ways_drop P1 F A J).bind fun (_, P3, F4, A5, J6) =>
  (e_Evening_setStale P3 F4 A5 J6).bind fun (_, P8, F9, A10, J11) =>
  some ((), P8, F9, A10, J11)
set_option maxRecDepth 10000 in
theorem t_e_Evening_enter (ht : ∀ ci k, t.1 ci k = k_ty ci k) {P : Nat → Nat → Nat} {F : Nat → Nat → Int32} {A : Nat → Nat → Nat → Int32} {J : Nat → Nat → Nat → Int64} {r1 : Nat} (hr1 : c_kind r1 = 6) {w : Unit × (Nat → Nat → Nat) × (Nat → Nat → Int32) × (Nat → Nat → Nat → Int32) × (Nat → Nat → Nat → Int64)} : e_Evening_enter P F A J r1 = some w → k_run t lg (d + 1) 1 0 [(0, .ref (32 * 1024)), (1, .ref (r1 * 1024))] [] (c_h c B P F A J) (none, c_h c B w.2.1 w.2.2.1 w.2.2.2.1 w.2.2.2.2) := by
  intro hD
  unfold e_Evening_enter at hD
  refine k_runB (pc' := 2) (loc' := [(0, .ref (32 * 1024)), (1, .ref (r1 * 1024))]) (st' := [.ref (r1 * 1024), .ref (32 * 1024)]) 2 rfl ?_
  obtain ⟨P1, hP1, hD⟩ := Option.bind_eq_some_iff.mp hD
  refine k_cpp 32 0 (K := 7) (key := 4) (C := "SleepWork$House") (q := r1) rfl rfl (ht 0 4) rfl rfl rfl hP1 ?_
  refine k_runB (pc' := 6) (loc' := [(0, .ref (32 * 1024)), (1, .ref (r1 * 1024))]) (st' := [.ref (32 * 1024)]) 1 rfl ?_
  refine k_gf 32 0 (K := 7) rfl rfl rfl rfl rfl ?_
  refine k_gf 36 0 (K := 10) rfl rfl rfl rfl rfl ?_
  obtain ⟨⟨v2, P3, F4, A5, J6⟩, hv2, hD⟩ := Option.bind_eq_some_iff.mp hD
  dsimp only at hD
  refine k_runV rfl rfl rfl (c_get (r := 36) (o := 1) (K := 10) rfl (by decide)) rfl rfl (t_e_Ways_drop (d := d) ht hv2) ?_
  refine k_runB (pc' := 16) (loc' := [(0, .ref (32 * 1024)), (1, .ref (r1 * 1024))]) (st' := [.ref (32 * 1024)]) 1 rfl ?_
  obtain ⟨⟨v7, P8, F9, A10, J11⟩, hv7, hD⟩ := Option.bind_eq_some_iff.mp hD
  dsimp only at hD
  refine k_runV rfl rfl rfl (c_get (r := 32) (o := 0) (K := 7) rfl (by decide)) rfl rfl (t_e_Evening_setStale (d := d) ht hv7) ?_
  cases hD
  exact k_vret rfl rfl
def e_Ways_takeDoors_127 (K39 : (Nat → Nat → Nat) → (Nat → Nat → Int32) → (Nat → Nat → Nat → Int32) → (Nat → Nat → Nat → Int64) → Nat → Int32 → Int32 → Option (Unit × (Nat → Nat → Nat) × (Nat → Nat → Int32) × (Nat → Nat → Nat → Int32) × (Nat → Nat → Nat → Int64))) (n : Nat) (P : Nat → Nat → Nat) (F : Nat → Nat → Int32) (A : Nat → Nat → Nat → Int32) (J : Nat → Nat → Nat → Int64) (r1 : Nat) (x2 : Int32) (x3 : Int32) : Option (Unit × (Nat → Nat → Nat) × (Nat → Nat → Int32) × (Nat → Nat → Nat → Int32) × (Nat → Nat → Nat → Int64)) :=
    K39 P F A J r1 x2 (x3 + 1)
set_option maxRecDepth 10000 in
theorem t_e_Ways_takeDoors_127 {n : Nat} {K39 : (Nat → Nat → Nat) → (Nat → Nat → Int32) → (Nat → Nat → Nat → Int32) → (Nat → Nat → Nat → Int64) → Nat → Int32 → Int32 → Option (Unit × (Nat → Nat → Nat) × (Nat → Nat → Int32) × (Nat → Nat → Nat → Int32) × (Nat → Nat → Nat → Int64))} (hK39 : ∀ (P : Nat → Nat → Nat) (F : Nat → Nat → Int32) (A : Nat → Nat → Nat → Int32) (J : Nat → Nat → Nat → Int64) (r1 : Nat) (x2 : Int32) (x3 : Int32) (w : Unit × (Nat → Nat → Nat) × (Nat → Nat → Int32) × (Nat → Nat → Nat → Int32) × (Nat → Nat → Nat → Int64)), c_kind r1 = 6 → K39 P F A J r1 x2 x3 = some w → k_run t lg (d + 1) 96 39 [(0, .ref (36 * 1024 + 1)), (1, .ref (r1 * 1024)), (2, .int x2), (3, .int x3)] [] (c_h c B P F A J) (none, c_h c B w.2.1 w.2.2.1 w.2.2.2.1 w.2.2.2.2)) {P : Nat → Nat → Nat} {F : Nat → Nat → Int32} {A : Nat → Nat → Nat → Int32} {J : Nat → Nat → Nat → Int64} {r1 : Nat} {x2 : Int32} {x3 : Int32} (hr1 : c_kind r1 = 6) {w : Unit × (Nat → Nat → Nat) × (Nat → Nat → Int32) × (Nat → Nat → Nat → Int32) × (Nat → Nat → Nat → Int64)} : e_Ways_takeDoors_127 K39 n P F A J r1 x2 x3 = some w → k_run t lg (d + 1) 96 127 [(0, .ref (36 * 1024 + 1)), (1, .ref (r1 * 1024)), (2, .int x2), (3, .int x3)] [] (c_h c B P F A J) (none, c_h c B w.2.1 w.2.2.1 w.2.2.2.1 w.2.2.2.2) := by
  intro hD
  unfold e_Ways_takeDoors_127 at hD
  refine k_runB (pc' := 39) (loc' := [(0, .ref (36 * 1024 + 1)), (1, .ref (r1 * 1024)), (2, .int x2), (3, .int (x3 + 1))]) (st' := []) 2 rfl ?_
  refine k_wk [0, 1, 2, 3] (loc' := [(0, .ref (36 * 1024 + 1)), (1, .ref (r1 * 1024)), (2, .int x2), (3, .int (x3 + 1))]) rfl rfl ?_
  exact hK39 _ _ _ _ _ _ _ _ hr1 hD
def e_Ways_takeDoors_39 : Nat → (Nat → Nat → Nat) → (Nat → Nat → Int32) → (Nat → Nat → Nat → Int32) → (Nat → Nat → Nat → Int64) → Nat → Int32 → Int32 → Option (Unit × (Nat → Nat → Nat) × (Nat → Nat → Int32) × (Nat → Nat → Nat → Int32) × (Nat → Nat → Nat → Int64))
  | 0, _, _, _, _, _, _, _ => none
  | n + 1, P, F, A, J, r1, x2, x3 => cond (g_cnd .ge x3 (F r1 14))
    (some ((), P, F, A, J))
    (cond (g_cnd .ne (x2 &&& ((1 : Int32) <<< (x3 &&& 31))) 0)
    (e_Ways_takeDoors_127 (e_Ways_takeDoors_39 n) n P F A J r1 x2 x3)
    ((m_ld (A r1 1) 12 x3).bind fun v6 =>
    (m_ld (A r1 2) 12 x3).bind fun v7 =>
    (m_ld (A r1 2) 12 x3).bind fun v8 =>
    (m_ld (A r1 1) 12 x3).bind fun v9 =>
    (m_ld (A 36 2) 64 ((v6 * 8) + v7)).bind fun v10 =>
    (m_ld (A r1 3) 12 x3).bind fun v11 =>
    (c_st A 36 2 64 ((v6 * 8) + v7) (if v11 < v10 then v11 else v10)).bind fun A12 =>
    (c_st A12 36 2 64 ((v8 * 8) + v9) (if v11 < v10 then v11 else v10)).bind fun A13 =>
    (e_Ways_takeDoors_39 n) P F A13 J r1 x2 (x3 + 1)))
set_option maxRecDepth 10000 in
theorem t_e_Ways_takeDoors_39 {n : Nat}  {P : Nat → Nat → Nat} {F : Nat → Nat → Int32} {A : Nat → Nat → Nat → Int32} {J : Nat → Nat → Nat → Int64} {r1 : Nat} {x2 : Int32} {x3 : Int32} (hr1 : c_kind r1 = 6) {w : Unit × (Nat → Nat → Nat) × (Nat → Nat → Int32) × (Nat → Nat → Nat → Int32) × (Nat → Nat → Nat → Int64)} : e_Ways_takeDoors_39 n P F A J r1 x2 x3 = some w → k_run t lg (d + 1) 96 39 [(0, .ref (36 * 1024 + 1)), (1, .ref (r1 * 1024)), (2, .int x2), (3, .int x3)] [] (c_h c B P F A J) (none, c_h c B w.2.1 w.2.2.1 w.2.2.2.1 w.2.2.2.2) := by
  induction n generalizing P F A J r1 x2 x3 w with
  | zero => intro hD; cases hD
  | succ n ih =>
    intro hD
    have hK39 : ∀ (P : Nat → Nat → Nat) (F : Nat → Nat → Int32) (A : Nat → Nat → Nat → Int32) (J : Nat → Nat → Nat → Int64) (r1 : Nat) (x2 : Int32) (x3 : Int32) (w : Unit × (Nat → Nat → Nat) × (Nat → Nat → Int32) × (Nat → Nat → Nat → Int32) × (Nat → Nat → Nat → Int64)), c_kind r1 = 6 → e_Ways_takeDoors_39 n P F A J r1 x2 x3 = some w → k_run t lg (d + 1) 96 39 [(0, .ref (36 * 1024 + 1)), (1, .ref (r1 * 1024)), (2, .int x2), (3, .int x3)] [] (c_h c B P F A J) (none, c_h c B w.2.1 w.2.2.1 w.2.2.2.1 w.2.2.2.2) := fun _ _ _ _ _ _ _ _ kr1 h => ih kr1 h
    unfold e_Ways_takeDoors_39 at hD
    refine k_runB (pc' := 41) (loc' := [(0, .ref (36 * 1024 + 1)), (1, .ref (r1 * 1024)), (2, .int x2), (3, .int x3)]) (st' := [.ref (r1 * 1024), .int x3]) 2 rfl ?_
    refine k_gf r1 0 (K := 6) hr1 rfl rfl rfl rfl ?_
    refine k_ic rfl (fun c44_3 => ?_) (fun c44_3 => ?_)
    · rw [c44_3, cond_true] at hD
      cases hD
      exact k_vret rfl rfl
    · rw [c44_3, cond_false] at hD
      refine k_runB (pc' := 52) (loc' := [(0, .ref (36 * 1024 + 1)), (1, .ref (r1 * 1024)), (2, .int x2), (3, .int x3)]) (st' := [.int (x2 &&& ((1 : Int32) <<< (x3 &&& 31)))]) 5 rfl ?_
      refine k_if rfl (fun c52_4 => ?_) (fun c52_4 => ?_)
      · rw [c52_4, cond_true] at hD
        refine k_wk [0, 1, 2, 3] (loc' := [(0, .ref (36 * 1024 + 1)), (1, .ref (r1 * 1024)), (2, .int x2), (3, .int x3)]) rfl rfl ?_
        exact t_e_Ways_takeDoors_127 hK39 hr1 hD
      · rw [c52_4, cond_false] at hD
        refine k_runB (pc' := 56) (loc' := [(0, .ref (36 * 1024 + 1)), (1, .ref (r1 * 1024)), (2, .int x2), (3, .int x3)]) (st' := [.ref (r1 * 1024)]) 1 rfl ?_
        refine k_gf r1 0 (K := 6) hr1 rfl rfl rfl rfl ?_
        refine k_runB (pc' := 60) (loc' := [(0, .ref (36 * 1024 + 1)), (1, .ref (r1 * 1024)), (2, .int x2), (3, .int x3)]) (st' := [.int x3, .ref (r1 * 1024 + 1)]) 1 rfl ?_
        obtain ⟨v6, hv6, hD⟩ := Option.bind_eq_some_iff.mp hD
        refine k_ldI rfl (c_get (r := r1) (o := 1) (K := 6) hr1 (by decide)) hv6 ?_
        refine k_runB (pc' := 65) (loc' := [(0, .ref (36 * 1024 + 1)), (1, .ref (r1 * 1024)), (2, .int x2), (3, .int x3)]) (st' := [.ref (r1 * 1024), .int (v6 * 8)]) 3 rfl ?_
        refine k_gf r1 0 (K := 6) hr1 rfl rfl rfl rfl ?_
        refine k_runB (pc' := 69) (loc' := [(0, .ref (36 * 1024 + 1)), (1, .ref (r1 * 1024)), (2, .int x2), (3, .int x3)]) (st' := [.int x3, .ref (r1 * 1024 + 2), .int (v6 * 8)]) 1 rfl ?_
        obtain ⟨v7, hv7, hD⟩ := Option.bind_eq_some_iff.mp hD
        refine k_ldI rfl (c_get (r := r1) (o := 2) (K := 6) hr1 (by decide)) hv7 ?_
        refine k_runB (pc' := 74) (loc' := [(0, .ref (36 * 1024 + 1)), (1, .ref (r1 * 1024)), (2, .int x2), (3, .int x3), (4, .int ((v6 * 8) + v7))]) (st' := [.ref (r1 * 1024)]) 3 rfl ?_
        refine k_gf r1 0 (K := 6) hr1 rfl rfl rfl rfl ?_
        refine k_runB (pc' := 78) (loc' := [(0, .ref (36 * 1024 + 1)), (1, .ref (r1 * 1024)), (2, .int x2), (3, .int x3), (4, .int ((v6 * 8) + v7))]) (st' := [.int x3, .ref (r1 * 1024 + 2)]) 1 rfl ?_
        obtain ⟨v8, hv8, hD⟩ := Option.bind_eq_some_iff.mp hD
        refine k_ldI rfl (c_get (r := r1) (o := 2) (K := 6) hr1 (by decide)) hv8 ?_
        refine k_runB (pc' := 83) (loc' := [(0, .ref (36 * 1024 + 1)), (1, .ref (r1 * 1024)), (2, .int x2), (3, .int x3), (4, .int ((v6 * 8) + v7))]) (st' := [.ref (r1 * 1024), .int (v8 * 8)]) 3 rfl ?_
        refine k_gf r1 0 (K := 6) hr1 rfl rfl rfl rfl ?_
        refine k_runB (pc' := 87) (loc' := [(0, .ref (36 * 1024 + 1)), (1, .ref (r1 * 1024)), (2, .int x2), (3, .int x3), (4, .int ((v6 * 8) + v7))]) (st' := [.int x3, .ref (r1 * 1024 + 1), .int (v8 * 8)]) 1 rfl ?_
        obtain ⟨v9, hv9, hD⟩ := Option.bind_eq_some_iff.mp hD
        refine k_ldI rfl (c_get (r := r1) (o := 1) (K := 6) hr1 (by decide)) hv9 ?_
        refine k_runB (pc' := 92) (loc' := [(0, .ref (36 * 1024 + 1)), (1, .ref (r1 * 1024)), (2, .int x2), (3, .int x3), (4, .int ((v6 * 8) + v7)), (5, .int ((v8 * 8) + v9))]) (st' := [.ref (36 * 1024 + 1)]) 3 rfl ?_
        refine k_gf 36 1 (K := 10) rfl rfl rfl rfl rfl ?_
        refine k_runB (pc' := 97) (loc' := [(0, .ref (36 * 1024 + 1)), (1, .ref (r1 * 1024)), (2, .int x2), (3, .int x3), (4, .int ((v6 * 8) + v7)), (5, .int ((v8 * 8) + v9))]) (st' := [.int ((v6 * 8) + v7), .ref (36 * 1024 + 2)]) 1 rfl ?_
        obtain ⟨v10, hv10, hD⟩ := Option.bind_eq_some_iff.mp hD
        refine k_ldI rfl (c_get (r := 36) (o := 2) (K := 10) rfl (by decide)) hv10 ?_
        refine k_runB (pc' := 99) (loc' := [(0, .ref (36 * 1024 + 1)), (1, .ref (r1 * 1024)), (2, .int x2), (3, .int x3), (4, .int ((v6 * 8) + v7)), (5, .int ((v8 * 8) + v9))]) (st' := [.ref (r1 * 1024), .int v10]) 1 rfl ?_
        refine k_gf r1 0 (K := 6) hr1 rfl rfl rfl rfl ?_
        refine k_runB (pc' := 103) (loc' := [(0, .ref (36 * 1024 + 1)), (1, .ref (r1 * 1024)), (2, .int x2), (3, .int x3), (4, .int ((v6 * 8) + v7)), (5, .int ((v8 * 8) + v9))]) (st' := [.int x3, .ref (r1 * 1024 + 3), .int v10]) 1 rfl ?_
        obtain ⟨v11, hv11, hD⟩ := Option.bind_eq_some_iff.mp hD
        refine k_ldI rfl (c_get (r := r1) (o := 3) (K := 6) hr1 (by decide)) hv11 ?_
        refine k_runB (pc' := 110) (loc' := [(0, .ref (36 * 1024 + 1)), (1, .ref (r1 * 1024)), (2, .int x2), (3, .int x3), (4, .int ((v6 * 8) + v7)), (5, .int ((v8 * 8) + v9)), (6, .int (if v11 < v10 then v11 else v10))]) (st' := [.ref (36 * 1024 + 1)]) 3 rfl ?_
        refine k_gf 36 1 (K := 10) rfl rfl rfl rfl rfl ?_
        refine k_runB (pc' := 117) (loc' := [(0, .ref (36 * 1024 + 1)), (1, .ref (r1 * 1024)), (2, .int x2), (3, .int x3), (4, .int ((v6 * 8) + v7)), (5, .int ((v8 * 8) + v9)), (6, .int (if v11 < v10 then v11 else v10))]) (st' := [.int (if v11 < v10 then v11 else v10), .int ((v6 * 8) + v7), .ref (36 * 1024 + 2)]) 2 rfl ?_
        obtain ⟨A12, hA12, hD⟩ := Option.bind_eq_some_iff.mp hD
        refine k_cstI 36 2 (K := 10) rfl rfl rfl rfl (fun _ => rfl) hA12 ?_
        refine k_runB (pc' := 119) (loc' := [(0, .ref (36 * 1024 + 1)), (1, .ref (r1 * 1024)), (2, .int x2), (3, .int x3), (4, .int ((v6 * 8) + v7)), (5, .int ((v8 * 8) + v9)), (6, .int (if v11 < v10 then v11 else v10))]) (st' := [.ref (36 * 1024 + 1)]) 1 rfl ?_
        refine k_gf 36 1 (K := 10) rfl rfl rfl rfl rfl ?_
        refine k_runB (pc' := 126) (loc' := [(0, .ref (36 * 1024 + 1)), (1, .ref (r1 * 1024)), (2, .int x2), (3, .int x3), (4, .int ((v6 * 8) + v7)), (5, .int ((v8 * 8) + v9)), (6, .int (if v11 < v10 then v11 else v10))]) (st' := [.int (if v11 < v10 then v11 else v10), .int ((v8 * 8) + v9), .ref (36 * 1024 + 2)]) 2 rfl ?_
        obtain ⟨A13, hA13, hD⟩ := Option.bind_eq_some_iff.mp hD
        refine k_cstI 36 2 (K := 10) rfl rfl rfl rfl (fun _ => rfl) hA13 ?_
        refine k_runB (pc' := 39) (loc' := [(0, .ref (36 * 1024 + 1)), (1, .ref (r1 * 1024)), (2, .int x2), (3, .int (x3 + 1)), (4, .int ((v6 * 8) + v7)), (5, .int ((v8 * 8) + v9)), (6, .int (if v11 < v10 then v11 else v10))]) (st' := []) 2 rfl ?_
        refine k_wk [0, 1, 2, 3] (loc' := [(0, .ref (36 * 1024 + 1)), (1, .ref (r1 * 1024)), (2, .int x2), (3, .int (x3 + 1))]) rfl rfl ?_
        exact hK39 _ _ _ _ _ _ _ _ hr1 hD
def e_Ways_takeDoors_11 : Nat → (Nat → Nat → Nat) → (Nat → Nat → Int32) → (Nat → Nat → Nat → Int32) → (Nat → Nat → Nat → Int64) → Nat → Int32 → Int32 → Option (Unit × (Nat → Nat → Nat) × (Nat → Nat → Int32) × (Nat → Nat → Nat → Int32) × (Nat → Nat → Nat → Int64))
  | 0, _, _, _, _, _, _, _ => none
  | n + 1, P, F, A, J, r1, x2, x3 => cond (g_cnd .ge x3 (F r1 13))
    (e_Ways_takeDoors_39 n P F A J r1 x2 0)
    ((c_st A 36 2 64 ((x3 * 8) + x3) 0).bind fun A3 =>
    (e_Ways_takeDoors_11 n) P F A3 J r1 x2 (x3 + 1))
set_option maxRecDepth 10000 in
theorem t_e_Ways_takeDoors_11 {n : Nat}  {P : Nat → Nat → Nat} {F : Nat → Nat → Int32} {A : Nat → Nat → Nat → Int32} {J : Nat → Nat → Nat → Int64} {r1 : Nat} {x2 : Int32} {x3 : Int32} (hr1 : c_kind r1 = 6) {w : Unit × (Nat → Nat → Nat) × (Nat → Nat → Int32) × (Nat → Nat → Nat → Int32) × (Nat → Nat → Nat → Int64)} : e_Ways_takeDoors_11 n P F A J r1 x2 x3 = some w → k_run t lg (d + 1) 96 11 [(0, .ref (36 * 1024 + 1)), (1, .ref (r1 * 1024)), (2, .int x2), (3, .int x3)] [] (c_h c B P F A J) (none, c_h c B w.2.1 w.2.2.1 w.2.2.2.1 w.2.2.2.2) := by
  induction n generalizing P F A J r1 x2 x3 w with
  | zero => intro hD; cases hD
  | succ n ih =>
    intro hD
    have hK11 : ∀ (P : Nat → Nat → Nat) (F : Nat → Nat → Int32) (A : Nat → Nat → Nat → Int32) (J : Nat → Nat → Nat → Int64) (r1 : Nat) (x2 : Int32) (x3 : Int32) (w : Unit × (Nat → Nat → Nat) × (Nat → Nat → Int32) × (Nat → Nat → Nat → Int32) × (Nat → Nat → Nat → Int64)), c_kind r1 = 6 → e_Ways_takeDoors_11 n P F A J r1 x2 x3 = some w → k_run t lg (d + 1) 96 11 [(0, .ref (36 * 1024 + 1)), (1, .ref (r1 * 1024)), (2, .int x2), (3, .int x3)] [] (c_h c B P F A J) (none, c_h c B w.2.1 w.2.2.1 w.2.2.2.1 w.2.2.2.2) := fun _ _ _ _ _ _ _ _ kr1 h => ih kr1 h
    unfold e_Ways_takeDoors_11 at hD
    refine k_runB (pc' := 13) (loc' := [(0, .ref (36 * 1024 + 1)), (1, .ref (r1 * 1024)), (2, .int x2), (3, .int x3)]) (st' := [.ref (r1 * 1024), .int x3]) 2 rfl ?_
    refine k_gf r1 0 (K := 6) hr1 rfl rfl rfl rfl ?_
    refine k_ic rfl (fun c16_1 => ?_) (fun c16_1 => ?_)
    · rw [c16_1, cond_true] at hD
      refine k_runB (pc' := 39) (loc' := [(0, .ref (36 * 1024 + 1)), (1, .ref (r1 * 1024)), (2, .int x2), (3, .int 0)]) (st' := []) 2 rfl ?_
      refine k_wk [0, 1, 2, 3] (loc' := [(0, .ref (36 * 1024 + 1)), (1, .ref (r1 * 1024)), (2, .int x2), (3, .int 0)]) rfl rfl ?_
      exact t_e_Ways_takeDoors_39  hr1 hD
    · rw [c16_1, cond_false] at hD
      refine k_runB (pc' := 20) (loc' := [(0, .ref (36 * 1024 + 1)), (1, .ref (r1 * 1024)), (2, .int x2), (3, .int x3)]) (st' := [.ref (36 * 1024 + 1)]) 1 rfl ?_
      refine k_gf 36 1 (K := 10) rfl rfl rfl rfl rfl ?_
      refine k_runB (pc' := 30) (loc' := [(0, .ref (36 * 1024 + 1)), (1, .ref (r1 * 1024)), (2, .int x2), (3, .int x3)]) (st' := [.int 0, .int ((x3 * 8) + x3), .ref (36 * 1024 + 2)]) 6 rfl ?_
      obtain ⟨A3, hA3, hD⟩ := Option.bind_eq_some_iff.mp hD
      refine k_cstI 36 2 (K := 10) rfl rfl rfl rfl (fun _ => rfl) hA3 ?_
      refine k_runB (pc' := 11) (loc' := [(0, .ref (36 * 1024 + 1)), (1, .ref (r1 * 1024)), (2, .int x2), (3, .int (x3 + 1))]) (st' := []) 2 rfl ?_
      refine k_wk [0, 1, 2, 3] (loc' := [(0, .ref (36 * 1024 + 1)), (1, .ref (r1 * 1024)), (2, .int x2), (3, .int (x3 + 1))]) rfl rfl ?_
      exact hK11 _ _ _ _ _ _ _ _ hr1 hD
/-- SleepWork$Ways.takeDoors(LSleepWork$House;I)V  -/
def e_Ways_takeDoors (n : Nat) (P : Nat → Nat → Nat) (F : Nat → Nat → Int32) (A : Nat → Nat → Nat → Int32) (J : Nat → Nat → Nat → Int64) (r1 : Nat) (x2 : Int32) : Option (Unit × (Nat → Nat → Nat) × (Nat → Nat → Int32) × (Nat → Nat → Nat → Int32) × (Nat → Nat → Nat → Int64)) :=
  (c_fi A 36 2 64 1000000).bind fun A1 =>
  e_Ways_takeDoors_11 n P F A1 J r1 x2 0
set_option maxRecDepth 10000 in
theorem t_e_Ways_takeDoors {n : Nat} {P : Nat → Nat → Nat} {F : Nat → Nat → Int32} {A : Nat → Nat → Nat → Int32} {J : Nat → Nat → Nat → Int64} {r1 : Nat} {x2 : Int32} (hr1 : c_kind r1 = 6) {w : Unit × (Nat → Nat → Nat) × (Nat → Nat → Int32) × (Nat → Nat → Nat → Int32) × (Nat → Nat → Nat → Int64)} : e_Ways_takeDoors n P F A J r1 x2 = some w → k_run t lg (d + 1) 96 0 [(0, .ref (36 * 1024 + 1)), (1, .ref (r1 * 1024)), (2, .int x2)] [] (c_h c B P F A J) (none, c_h c B w.2.1 w.2.2.1 w.2.2.2.1 w.2.2.2.2) := by
  intro hD
  unfold e_Ways_takeDoors at hD
  refine k_runB (pc' := 1) (loc' := [(0, .ref (36 * 1024 + 1)), (1, .ref (r1 * 1024)), (2, .int x2)]) (st' := [.ref (36 * 1024 + 1)]) 1 rfl ?_
  refine k_gf 36 1 (K := 10) rfl rfl rfl rfl rfl ?_
  refine k_runB (pc' := 6) (loc' := [(0, .ref (36 * 1024 + 1)), (1, .ref (r1 * 1024)), (2, .int x2)]) (st' := [.int 1000000, .ref (36 * 1024 + 2)]) 1 rfl ?_
  obtain ⟨A1, hA1, hD⟩ := Option.bind_eq_some_iff.mp hD
  refine k_runC rfl rfl rfl rfl (t_fillI 36 2 (K := 10) (n := 64) rfl (fun _ => rfl) (fun _ _ => rfl) (by decide) hA1) ?_
  refine k_runB (pc' := 11) (loc' := [(0, .ref (36 * 1024 + 1)), (1, .ref (r1 * 1024)), (2, .int x2), (3, .int 0)]) (st' := []) 2 rfl ?_
  refine k_wk [0, 1, 2, 3] (loc' := [(0, .ref (36 * 1024 + 1)), (1, .ref (r1 * 1024)), (2, .int x2), (3, .int 0)]) rfl rfl ?_
  exact t_e_Ways_takeDoors_11  hr1 hD
def e_Ways_joinWays_97 (K2 : (Nat → Nat → Nat) → (Nat → Nat → Int32) → (Nat → Nat → Nat → Int32) → (Nat → Nat → Nat → Int64) → Int32 → Int32 → Option (Unit × (Nat → Nat → Nat) × (Nat → Nat → Int32) × (Nat → Nat → Nat → Int32) × (Nat → Nat → Nat → Int64))) (K9 : (Nat → Nat → Nat) → (Nat → Nat → Int32) → (Nat → Nat → Nat → Int32) → (Nat → Nat → Nat → Int64) → Int32 → Int32 → Int32 → Option (Unit × (Nat → Nat → Nat) × (Nat → Nat → Int32) × (Nat → Nat → Nat → Int32) × (Nat → Nat → Nat → Int64))) (n : Nat) (P : Nat → Nat → Nat) (F : Nat → Nat → Int32) (A : Nat → Nat → Nat → Int32) (J : Nat → Nat → Nat → Int64) (x1 : Int32) (x2 : Int32) (x3 : Int32) : Option (Unit × (Nat → Nat → Nat) × (Nat → Nat → Int32) × (Nat → Nat → Nat → Int32) × (Nat → Nat → Nat → Int64)) :=
    K9 P F A J x1 x2 (x3 + 1)
set_option maxRecDepth 10000 in
theorem t_e_Ways_joinWays_97 {n : Nat} {K2 : (Nat → Nat → Nat) → (Nat → Nat → Int32) → (Nat → Nat → Nat → Int32) → (Nat → Nat → Nat → Int64) → Int32 → Int32 → Option (Unit × (Nat → Nat → Nat) × (Nat → Nat → Int32) × (Nat → Nat → Nat → Int32) × (Nat → Nat → Nat → Int64))} {K9 : (Nat → Nat → Nat) → (Nat → Nat → Int32) → (Nat → Nat → Nat → Int32) → (Nat → Nat → Nat → Int64) → Int32 → Int32 → Int32 → Option (Unit × (Nat → Nat → Nat) × (Nat → Nat → Int32) × (Nat → Nat → Nat → Int32) × (Nat → Nat → Nat → Int64))} (hK2 : ∀ (P : Nat → Nat → Nat) (F : Nat → Nat → Int32) (A : Nat → Nat → Nat → Int32) (J : Nat → Nat → Nat → Int64) (x1 : Int32) (x2 : Int32) (w : Unit × (Nat → Nat → Nat) × (Nat → Nat → Int32) × (Nat → Nat → Nat → Int32) × (Nat → Nat → Nat → Int64)), K2 P F A J x1 x2 = some w → k_run t lg (d) 97 2 [(0, .ref (36 * 1024 + 1)), (1, .int x1), (2, .int x2)] [] (c_h c B P F A J) (none, c_h c B w.2.1 w.2.2.1 w.2.2.2.1 w.2.2.2.2)) (hK9 : ∀ (P : Nat → Nat → Nat) (F : Nat → Nat → Int32) (A : Nat → Nat → Nat → Int32) (J : Nat → Nat → Nat → Int64) (x1 : Int32) (x2 : Int32) (x3 : Int32) (w : Unit × (Nat → Nat → Nat) × (Nat → Nat → Int32) × (Nat → Nat → Nat → Int32) × (Nat → Nat → Nat → Int64)), K9 P F A J x1 x2 x3 = some w → k_run t lg (d) 97 9 [(0, .ref (36 * 1024 + 1)), (1, .int x1), (2, .int x2), (3, .int x3)] [] (c_h c B P F A J) (none, c_h c B w.2.1 w.2.2.1 w.2.2.2.1 w.2.2.2.2)) {P : Nat → Nat → Nat} {F : Nat → Nat → Int32} {A : Nat → Nat → Nat → Int32} {J : Nat → Nat → Nat → Int64} {x1 : Int32} {x2 : Int32} {x3 : Int32}  {w : Unit × (Nat → Nat → Nat) × (Nat → Nat → Int32) × (Nat → Nat → Nat → Int32) × (Nat → Nat → Nat → Int64)} : e_Ways_joinWays_97 K2 K9 n P F A J x1 x2 x3 = some w → k_run t lg (d) 97 97 [(0, .ref (36 * 1024 + 1)), (1, .int x1), (2, .int x2), (3, .int x3)] [] (c_h c B P F A J) (none, c_h c B w.2.1 w.2.2.1 w.2.2.2.1 w.2.2.2.2) := by
  intro hD
  unfold e_Ways_joinWays_97 at hD
  refine k_runB (pc' := 9) (loc' := [(0, .ref (36 * 1024 + 1)), (1, .int x1), (2, .int x2), (3, .int (x3 + 1))]) (st' := []) 2 rfl ?_
  refine k_wk [0, 1, 2, 3] (loc' := [(0, .ref (36 * 1024 + 1)), (1, .int x1), (2, .int x2), (3, .int (x3 + 1))]) rfl rfl ?_
  exact hK9 _ _ _ _ _ _ _ _  hD
def e_Ways_joinWays_91 (K2 : (Nat → Nat → Nat) → (Nat → Nat → Int32) → (Nat → Nat → Nat → Int32) → (Nat → Nat → Nat → Int64) → Int32 → Int32 → Option (Unit × (Nat → Nat → Nat) × (Nat → Nat → Int32) × (Nat → Nat → Nat → Int32) × (Nat → Nat → Nat → Int64))) (K9 : (Nat → Nat → Nat) → (Nat → Nat → Int32) → (Nat → Nat → Nat → Int32) → (Nat → Nat → Nat → Int64) → Int32 → Int32 → Int32 → Option (Unit × (Nat → Nat → Nat) × (Nat → Nat → Int32) × (Nat → Nat → Nat → Int32) × (Nat → Nat → Nat → Int64))) (K30 : (Nat → Nat → Nat) → (Nat → Nat → Int32) → (Nat → Nat → Nat → Int32) → (Nat → Nat → Nat → Int64) → Int32 → Int32 → Int32 → Int32 → Int32 → Option (Unit × (Nat → Nat → Nat) × (Nat → Nat → Int32) × (Nat → Nat → Nat → Int32) × (Nat → Nat → Nat → Int64))) (n : Nat) (P : Nat → Nat → Nat) (F : Nat → Nat → Int32) (A : Nat → Nat → Nat → Int32) (J : Nat → Nat → Nat → Int64) (x1 : Int32) (x2 : Int32) (x3 : Int32) (x4 : Int32) (x5 : Int32) : Option (Unit × (Nat → Nat → Nat) × (Nat → Nat → Int32) × (Nat → Nat → Nat → Int32) × (Nat → Nat → Nat → Int64)) :=
    K30 P F A J x1 x2 x3 x4 (x5 + 1)
set_option maxRecDepth 10000 in
theorem t_e_Ways_joinWays_91 {n : Nat} {K2 : (Nat → Nat → Nat) → (Nat → Nat → Int32) → (Nat → Nat → Nat → Int32) → (Nat → Nat → Nat → Int64) → Int32 → Int32 → Option (Unit × (Nat → Nat → Nat) × (Nat → Nat → Int32) × (Nat → Nat → Nat → Int32) × (Nat → Nat → Nat → Int64))} {K9 : (Nat → Nat → Nat) → (Nat → Nat → Int32) → (Nat → Nat → Nat → Int32) → (Nat → Nat → Nat → Int64) → Int32 → Int32 → Int32 → Option (Unit × (Nat → Nat → Nat) × (Nat → Nat → Int32) × (Nat → Nat → Nat → Int32) × (Nat → Nat → Nat → Int64))} {K30 : (Nat → Nat → Nat) → (Nat → Nat → Int32) → (Nat → Nat → Nat → Int32) → (Nat → Nat → Nat → Int64) → Int32 → Int32 → Int32 → Int32 → Int32 → Option (Unit × (Nat → Nat → Nat) × (Nat → Nat → Int32) × (Nat → Nat → Nat → Int32) × (Nat → Nat → Nat → Int64))} (hK2 : ∀ (P : Nat → Nat → Nat) (F : Nat → Nat → Int32) (A : Nat → Nat → Nat → Int32) (J : Nat → Nat → Nat → Int64) (x1 : Int32) (x2 : Int32) (w : Unit × (Nat → Nat → Nat) × (Nat → Nat → Int32) × (Nat → Nat → Nat → Int32) × (Nat → Nat → Nat → Int64)), K2 P F A J x1 x2 = some w → k_run t lg (d) 97 2 [(0, .ref (36 * 1024 + 1)), (1, .int x1), (2, .int x2)] [] (c_h c B P F A J) (none, c_h c B w.2.1 w.2.2.1 w.2.2.2.1 w.2.2.2.2)) (hK9 : ∀ (P : Nat → Nat → Nat) (F : Nat → Nat → Int32) (A : Nat → Nat → Nat → Int32) (J : Nat → Nat → Nat → Int64) (x1 : Int32) (x2 : Int32) (x3 : Int32) (w : Unit × (Nat → Nat → Nat) × (Nat → Nat → Int32) × (Nat → Nat → Nat → Int32) × (Nat → Nat → Nat → Int64)), K9 P F A J x1 x2 x3 = some w → k_run t lg (d) 97 9 [(0, .ref (36 * 1024 + 1)), (1, .int x1), (2, .int x2), (3, .int x3)] [] (c_h c B P F A J) (none, c_h c B w.2.1 w.2.2.1 w.2.2.2.1 w.2.2.2.2)) (hK30 : ∀ (P : Nat → Nat → Nat) (F : Nat → Nat → Int32) (A : Nat → Nat → Nat → Int32) (J : Nat → Nat → Nat → Int64) (x1 : Int32) (x2 : Int32) (x3 : Int32) (x4 : Int32) (x5 : Int32) (w : Unit × (Nat → Nat → Nat) × (Nat → Nat → Int32) × (Nat → Nat → Nat → Int32) × (Nat → Nat → Nat → Int64)), K30 P F A J x1 x2 x3 x4 x5 = some w → k_run t lg (d) 97 30 [(0, .ref (36 * 1024 + 1)), (1, .int x1), (2, .int x2), (3, .int x3), (4, .int x4), (5, .int x5)] [] (c_h c B P F A J) (none, c_h c B w.2.1 w.2.2.1 w.2.2.2.1 w.2.2.2.2)) {P : Nat → Nat → Nat} {F : Nat → Nat → Int32} {A : Nat → Nat → Nat → Int32} {J : Nat → Nat → Nat → Int64} {x1 : Int32} {x2 : Int32} {x3 : Int32} {x4 : Int32} {x5 : Int32}  {w : Unit × (Nat → Nat → Nat) × (Nat → Nat → Int32) × (Nat → Nat → Nat → Int32) × (Nat → Nat → Nat → Int64)} : e_Ways_joinWays_91 K2 K9 K30 n P F A J x1 x2 x3 x4 x5 = some w → k_run t lg (d) 97 91 [(0, .ref (36 * 1024 + 1)), (1, .int x1), (2, .int x2), (3, .int x3), (4, .int x4), (5, .int x5)] [] (c_h c B P F A J) (none, c_h c B w.2.1 w.2.2.1 w.2.2.2.1 w.2.2.2.2) := by
  intro hD
  unfold e_Ways_joinWays_91 at hD
  refine k_runB (pc' := 30) (loc' := [(0, .ref (36 * 1024 + 1)), (1, .int x1), (2, .int x2), (3, .int x3), (4, .int x4), (5, .int (x5 + 1))]) (st' := []) 2 rfl ?_
  refine k_wk [0, 1, 2, 3, 4, 5] (loc' := [(0, .ref (36 * 1024 + 1)), (1, .int x1), (2, .int x2), (3, .int x3), (4, .int x4), (5, .int (x5 + 1))]) rfl rfl ?_
  exact hK30 _ _ _ _ _ _ _ _ _ _  hD
def e_Ways_joinWays_30 (K2 : (Nat → Nat → Nat) → (Nat → Nat → Int32) → (Nat → Nat → Nat → Int32) → (Nat → Nat → Nat → Int64) → Int32 → Int32 → Option (Unit × (Nat → Nat → Nat) × (Nat → Nat → Int32) × (Nat → Nat → Nat → Int32) × (Nat → Nat → Nat → Int64))) (K9 : (Nat → Nat → Nat) → (Nat → Nat → Int32) → (Nat → Nat → Nat → Int32) → (Nat → Nat → Nat → Int64) → Int32 → Int32 → Int32 → Option (Unit × (Nat → Nat → Nat) × (Nat → Nat → Int32) × (Nat → Nat → Nat → Int32) × (Nat → Nat → Nat → Int64))) : Nat → (Nat → Nat → Nat) → (Nat → Nat → Int32) → (Nat → Nat → Nat → Int32) → (Nat → Nat → Nat → Int64) → Int32 → Int32 → Int32 → Int32 → Int32 → Option (Unit × (Nat → Nat → Nat) × (Nat → Nat → Int32) × (Nat → Nat → Nat → Int32) × (Nat → Nat → Nat → Int64))
  | 0, _, _, _, _, _, _, _, _, _ => none
  | n + 1, P, F, A, J, x1, x2, x3, x4, x5 => cond (g_cnd .ge x5 x1)
    (e_Ways_joinWays_97 K2 K9 n P F A J x1 x2 x3)
    (cond (g_cnd .ge x4 1000000)
    (e_Ways_joinWays_97 K2 K9 n P F A J x1 x2 x3)
    ((m_ld (A 36 2) 64 ((x2 * 8) + x5)).bind fun v6 =>
    (m_ld (A 36 2) 64 ((x3 * 8) + x5)).bind fun v7 =>
    cond (g_cnd .ge (x4 + v6) v7)
    (e_Ways_joinWays_91 K2 K9 (e_Ways_joinWays_30 K2 K9 n) n P F A J x1 x2 x3 x4 x5)
    ((c_st A 36 2 64 ((x3 * 8) + x5) (x4 + v6)).bind fun A9 =>
    (e_Ways_joinWays_30 K2 K9 n) P F A9 J x1 x2 x3 x4 (x5 + 1))))
set_option maxRecDepth 10000 in
theorem t_e_Ways_joinWays_30 {n : Nat} {K2 : (Nat → Nat → Nat) → (Nat → Nat → Int32) → (Nat → Nat → Nat → Int32) → (Nat → Nat → Nat → Int64) → Int32 → Int32 → Option (Unit × (Nat → Nat → Nat) × (Nat → Nat → Int32) × (Nat → Nat → Nat → Int32) × (Nat → Nat → Nat → Int64))} {K9 : (Nat → Nat → Nat) → (Nat → Nat → Int32) → (Nat → Nat → Nat → Int32) → (Nat → Nat → Nat → Int64) → Int32 → Int32 → Int32 → Option (Unit × (Nat → Nat → Nat) × (Nat → Nat → Int32) × (Nat → Nat → Nat → Int32) × (Nat → Nat → Nat → Int64))} (hK2 : ∀ (P : Nat → Nat → Nat) (F : Nat → Nat → Int32) (A : Nat → Nat → Nat → Int32) (J : Nat → Nat → Nat → Int64) (x1 : Int32) (x2 : Int32) (w : Unit × (Nat → Nat → Nat) × (Nat → Nat → Int32) × (Nat → Nat → Nat → Int32) × (Nat → Nat → Nat → Int64)), K2 P F A J x1 x2 = some w → k_run t lg (d) 97 2 [(0, .ref (36 * 1024 + 1)), (1, .int x1), (2, .int x2)] [] (c_h c B P F A J) (none, c_h c B w.2.1 w.2.2.1 w.2.2.2.1 w.2.2.2.2)) (hK9 : ∀ (P : Nat → Nat → Nat) (F : Nat → Nat → Int32) (A : Nat → Nat → Nat → Int32) (J : Nat → Nat → Nat → Int64) (x1 : Int32) (x2 : Int32) (x3 : Int32) (w : Unit × (Nat → Nat → Nat) × (Nat → Nat → Int32) × (Nat → Nat → Nat → Int32) × (Nat → Nat → Nat → Int64)), K9 P F A J x1 x2 x3 = some w → k_run t lg (d) 97 9 [(0, .ref (36 * 1024 + 1)), (1, .int x1), (2, .int x2), (3, .int x3)] [] (c_h c B P F A J) (none, c_h c B w.2.1 w.2.2.1 w.2.2.2.1 w.2.2.2.2)) {P : Nat → Nat → Nat} {F : Nat → Nat → Int32} {A : Nat → Nat → Nat → Int32} {J : Nat → Nat → Nat → Int64} {x1 : Int32} {x2 : Int32} {x3 : Int32} {x4 : Int32} {x5 : Int32}  {w : Unit × (Nat → Nat → Nat) × (Nat → Nat → Int32) × (Nat → Nat → Nat → Int32) × (Nat → Nat → Nat → Int64)} : e_Ways_joinWays_30 K2 K9 n P F A J x1 x2 x3 x4 x5 = some w → k_run t lg (d) 97 30 [(0, .ref (36 * 1024 + 1)), (1, .int x1), (2, .int x2), (3, .int x3), (4, .int x4), (5, .int x5)] [] (c_h c B P F A J) (none, c_h c B w.2.1 w.2.2.1 w.2.2.2.1 w.2.2.2.2) := by
  induction n generalizing P F A J x1 x2 x3 x4 x5 w with
  | zero => intro hD; cases hD
  | succ n ih =>
    intro hD
    have hK30 : ∀ (P : Nat → Nat → Nat) (F : Nat → Nat → Int32) (A : Nat → Nat → Nat → Int32) (J : Nat → Nat → Nat → Int64) (x1 : Int32) (x2 : Int32) (x3 : Int32) (x4 : Int32) (x5 : Int32) (w : Unit × (Nat → Nat → Nat) × (Nat → Nat → Int32) × (Nat → Nat → Nat → Int32) × (Nat → Nat → Nat → Int64)), e_Ways_joinWays_30 K2 K9 n P F A J x1 x2 x3 x4 x5 = some w → k_run t lg (d) 97 30 [(0, .ref (36 * 1024 + 1)), (1, .int x1), (2, .int x2), (3, .int x3), (4, .int x4), (5, .int x5)] [] (c_h c B P F A J) (none, c_h c B w.2.1 w.2.2.1 w.2.2.2.1 w.2.2.2.2) := fun _ _ _ _ _ _ _ _ _ _  h => ih  h
    unfold e_Ways_joinWays_30 at hD
    refine k_runB (pc' := 33) (loc' := [(0, .ref (36 * 1024 + 1)), (1, .int x1), (2, .int x2), (3, .int x3), (4, .int x4), (5, .int x5)]) (st' := [.int x1, .int x5]) 2 rfl ?_
    refine k_ic rfl (fun c33_3 => ?_) (fun c33_3 => ?_)
    · rw [c33_3, cond_true] at hD
      refine k_wk [0, 1, 2, 3] (loc' := [(0, .ref (36 * 1024 + 1)), (1, .int x1), (2, .int x2), (3, .int x3)]) rfl rfl ?_
      exact t_e_Ways_joinWays_97 hK2 hK9  hD
    · rw [c33_3, cond_false] at hD
      refine k_runB (pc' := 40) (loc' := [(0, .ref (36 * 1024 + 1)), (1, .int x1), (2, .int x2), (3, .int x3), (4, .int x4), (5, .int x5)]) (st' := [.int 1000000, .int x4]) 2 rfl ?_
      refine k_ic rfl (fun c40_4 => ?_) (fun c40_4 => ?_)
      · rw [c40_4, cond_true] at hD
        refine k_wk [0, 1, 2, 3] (loc' := [(0, .ref (36 * 1024 + 1)), (1, .int x1), (2, .int x2), (3, .int x3)]) rfl rfl ?_
        exact t_e_Ways_joinWays_97 hK2 hK9  hD
      · rw [c40_4, cond_false] at hD
        refine k_runB (pc' := 46) (loc' := [(0, .ref (36 * 1024 + 1)), (1, .int x1), (2, .int x2), (3, .int x3), (4, .int x4), (5, .int x5)]) (st' := [.ref (36 * 1024 + 1), .int x4]) 2 rfl ?_
        refine k_gf 36 1 (K := 10) rfl rfl rfl rfl rfl ?_
        refine k_runB (pc' := 56) (loc' := [(0, .ref (36 * 1024 + 1)), (1, .int x1), (2, .int x2), (3, .int x3), (4, .int x4), (5, .int x5)]) (st' := [.int ((x2 * 8) + x5), .ref (36 * 1024 + 2), .int x4]) 5 rfl ?_
        obtain ⟨v6, hv6, hD⟩ := Option.bind_eq_some_iff.mp hD
        refine k_ldI rfl (c_get (r := 36) (o := 2) (K := 10) rfl (by decide)) hv6 ?_
        refine k_runB (pc' := 63) (loc' := [(0, .ref (36 * 1024 + 1)), (1, .int x1), (2, .int x2), (3, .int x3), (4, .int x4), (5, .int x5), (6, .int (x4 + v6))]) (st' := [.ref (36 * 1024 + 1), .int (x4 + v6)]) 4 rfl ?_
        refine k_gf 36 1 (K := 10) rfl rfl rfl rfl rfl ?_
        refine k_runB (pc' := 73) (loc' := [(0, .ref (36 * 1024 + 1)), (1, .int x1), (2, .int x2), (3, .int x3), (4, .int x4), (5, .int x5), (6, .int (x4 + v6))]) (st' := [.int ((x3 * 8) + x5), .ref (36 * 1024 + 2), .int (x4 + v6)]) 5 rfl ?_
        obtain ⟨v7, hv7, hD⟩ := Option.bind_eq_some_iff.mp hD
        refine k_ldI rfl (c_get (r := 36) (o := 2) (K := 10) rfl (by decide)) hv7 ?_
        refine k_ic rfl (fun c74_7 => ?_) (fun c74_7 => ?_)
        · rw [c74_7, cond_true] at hD
          refine k_wk [0, 1, 2, 3, 4, 5] (loc' := [(0, .ref (36 * 1024 + 1)), (1, .int x1), (2, .int x2), (3, .int x3), (4, .int x4), (5, .int x5)]) rfl rfl ?_
          exact t_e_Ways_joinWays_91 hK2 hK9 hK30  hD
        · rw [c74_7, cond_false] at hD
          refine k_runB (pc' := 78) (loc' := [(0, .ref (36 * 1024 + 1)), (1, .int x1), (2, .int x2), (3, .int x3), (4, .int x4), (5, .int x5), (6, .int (x4 + v6))]) (st' := [.ref (36 * 1024 + 1)]) 1 rfl ?_
          refine k_gf 36 1 (K := 10) rfl rfl rfl rfl rfl ?_
          refine k_runB (pc' := 90) (loc' := [(0, .ref (36 * 1024 + 1)), (1, .int x1), (2, .int x2), (3, .int x3), (4, .int x4), (5, .int x5), (6, .int (x4 + v6))]) (st' := [.int (x4 + v6), .int ((x3 * 8) + x5), .ref (36 * 1024 + 2)]) 6 rfl ?_
          obtain ⟨A9, hA9, hD⟩ := Option.bind_eq_some_iff.mp hD
          refine k_cstI 36 2 (K := 10) rfl rfl rfl rfl (fun _ => rfl) hA9 ?_
          refine k_runB (pc' := 30) (loc' := [(0, .ref (36 * 1024 + 1)), (1, .int x1), (2, .int x2), (3, .int x3), (4, .int x4), (5, .int (x5 + 1)), (6, .int (x4 + v6))]) (st' := []) 2 rfl ?_
          refine k_wk [0, 1, 2, 3, 4, 5] (loc' := [(0, .ref (36 * 1024 + 1)), (1, .int x1), (2, .int x2), (3, .int x3), (4, .int x4), (5, .int (x5 + 1))]) rfl rfl ?_
          exact hK30 _ _ _ _ _ _ _ _ _ _  hD
def e_Ways_joinWays_9 (K2 : (Nat → Nat → Nat) → (Nat → Nat → Int32) → (Nat → Nat → Nat → Int32) → (Nat → Nat → Nat → Int64) → Int32 → Int32 → Option (Unit × (Nat → Nat → Nat) × (Nat → Nat → Int32) × (Nat → Nat → Nat → Int32) × (Nat → Nat → Nat → Int64))) : Nat → (Nat → Nat → Nat) → (Nat → Nat → Int32) → (Nat → Nat → Nat → Int32) → (Nat → Nat → Nat → Int64) → Int32 → Int32 → Int32 → Option (Unit × (Nat → Nat → Nat) × (Nat → Nat → Int32) × (Nat → Nat → Nat → Int32) × (Nat → Nat → Nat → Int64))
  | 0, _, _, _, _, _, _, _ => none
  | n + 1, P, F, A, J, x1, x2, x3 => cond (g_cnd .ge x3 x1)
    (K2 P F A J x1 (x2 + 1))
    ((m_ld (A 36 2) 64 ((x3 * 8) + x2)).bind fun v3 =>
    e_Ways_joinWays_30 K2 (e_Ways_joinWays_9 K2 n) n P F A J x1 x2 x3 v3 0)
set_option maxRecDepth 10000 in
theorem t_e_Ways_joinWays_9 {n : Nat} {K2 : (Nat → Nat → Nat) → (Nat → Nat → Int32) → (Nat → Nat → Nat → Int32) → (Nat → Nat → Nat → Int64) → Int32 → Int32 → Option (Unit × (Nat → Nat → Nat) × (Nat → Nat → Int32) × (Nat → Nat → Nat → Int32) × (Nat → Nat → Nat → Int64))} (hK2 : ∀ (P : Nat → Nat → Nat) (F : Nat → Nat → Int32) (A : Nat → Nat → Nat → Int32) (J : Nat → Nat → Nat → Int64) (x1 : Int32) (x2 : Int32) (w : Unit × (Nat → Nat → Nat) × (Nat → Nat → Int32) × (Nat → Nat → Nat → Int32) × (Nat → Nat → Nat → Int64)), K2 P F A J x1 x2 = some w → k_run t lg (d) 97 2 [(0, .ref (36 * 1024 + 1)), (1, .int x1), (2, .int x2)] [] (c_h c B P F A J) (none, c_h c B w.2.1 w.2.2.1 w.2.2.2.1 w.2.2.2.2)) {P : Nat → Nat → Nat} {F : Nat → Nat → Int32} {A : Nat → Nat → Nat → Int32} {J : Nat → Nat → Nat → Int64} {x1 : Int32} {x2 : Int32} {x3 : Int32}  {w : Unit × (Nat → Nat → Nat) × (Nat → Nat → Int32) × (Nat → Nat → Nat → Int32) × (Nat → Nat → Nat → Int64)} : e_Ways_joinWays_9 K2 n P F A J x1 x2 x3 = some w → k_run t lg (d) 97 9 [(0, .ref (36 * 1024 + 1)), (1, .int x1), (2, .int x2), (3, .int x3)] [] (c_h c B P F A J) (none, c_h c B w.2.1 w.2.2.1 w.2.2.2.1 w.2.2.2.2) := by
  induction n generalizing P F A J x1 x2 x3 w with
  | zero => intro hD; cases hD
  | succ n ih =>
    intro hD
    have hK9 : ∀ (P : Nat → Nat → Nat) (F : Nat → Nat → Int32) (A : Nat → Nat → Nat → Int32) (J : Nat → Nat → Nat → Int64) (x1 : Int32) (x2 : Int32) (x3 : Int32) (w : Unit × (Nat → Nat → Nat) × (Nat → Nat → Int32) × (Nat → Nat → Nat → Int32) × (Nat → Nat → Nat → Int64)), e_Ways_joinWays_9 K2 n P F A J x1 x2 x3 = some w → k_run t lg (d) 97 9 [(0, .ref (36 * 1024 + 1)), (1, .int x1), (2, .int x2), (3, .int x3)] [] (c_h c B P F A J) (none, c_h c B w.2.1 w.2.2.1 w.2.2.2.1 w.2.2.2.2) := fun _ _ _ _ _ _ _ _  h => ih  h
    unfold e_Ways_joinWays_9 at hD
    refine k_runB (pc' := 11) (loc' := [(0, .ref (36 * 1024 + 1)), (1, .int x1), (2, .int x2), (3, .int x3)]) (st' := [.int x1, .int x3]) 2 rfl ?_
    refine k_ic rfl (fun c11_1 => ?_) (fun c11_1 => ?_)
    · rw [c11_1, cond_true] at hD
      refine k_runB (pc' := 2) (loc' := [(0, .ref (36 * 1024 + 1)), (1, .int x1), (2, .int (x2 + 1)), (3, .int x3)]) (st' := []) 2 rfl ?_
      refine k_wk [0, 1, 2] (loc' := [(0, .ref (36 * 1024 + 1)), (1, .int x1), (2, .int (x2 + 1))]) rfl rfl ?_
      exact hK2 _ _ _ _ _ _ _  hD
    · rw [c11_1, cond_false] at hD
      refine k_runB (pc' := 15) (loc' := [(0, .ref (36 * 1024 + 1)), (1, .int x1), (2, .int x2), (3, .int x3)]) (st' := [.ref (36 * 1024 + 1)]) 1 rfl ?_
      refine k_gf 36 1 (K := 10) rfl rfl rfl rfl rfl ?_
      refine k_runB (pc' := 24) (loc' := [(0, .ref (36 * 1024 + 1)), (1, .int x1), (2, .int x2), (3, .int x3)]) (st' := [.int ((x3 * 8) + x2), .ref (36 * 1024 + 2)]) 5 rfl ?_
      obtain ⟨v3, hv3, hD⟩ := Option.bind_eq_some_iff.mp hD
      refine k_ldI rfl (c_get (r := 36) (o := 2) (K := 10) rfl (by decide)) hv3 ?_
      refine k_runB (pc' := 30) (loc' := [(0, .ref (36 * 1024 + 1)), (1, .int x1), (2, .int x2), (3, .int x3), (4, .int v3), (5, .int 0)]) (st' := []) 3 rfl ?_
      refine k_wk [0, 1, 2, 3, 4, 5] (loc' := [(0, .ref (36 * 1024 + 1)), (1, .int x1), (2, .int x2), (3, .int x3), (4, .int v3), (5, .int 0)]) rfl rfl ?_
      exact t_e_Ways_joinWays_30 hK2 hK9  hD
def e_Ways_joinWays_2 : Nat → (Nat → Nat → Nat) → (Nat → Nat → Int32) → (Nat → Nat → Nat → Int32) → (Nat → Nat → Nat → Int64) → Int32 → Int32 → Option (Unit × (Nat → Nat → Nat) × (Nat → Nat → Int32) × (Nat → Nat → Nat → Int32) × (Nat → Nat → Nat → Int64))
  | 0, _, _, _, _, _, _ => none
  | n + 1, P, F, A, J, x1, x2 => cond (g_cnd .ge x2 x1)
    (some ((), P, F, A, J))
    (e_Ways_joinWays_9 (e_Ways_joinWays_2 n) n P F A J x1 x2 0)
set_option maxRecDepth 10000 in
theorem t_e_Ways_joinWays_2 {n : Nat}  {P : Nat → Nat → Nat} {F : Nat → Nat → Int32} {A : Nat → Nat → Nat → Int32} {J : Nat → Nat → Nat → Int64} {x1 : Int32} {x2 : Int32}  {w : Unit × (Nat → Nat → Nat) × (Nat → Nat → Int32) × (Nat → Nat → Nat → Int32) × (Nat → Nat → Nat → Int64)} : e_Ways_joinWays_2 n P F A J x1 x2 = some w → k_run t lg (d) 97 2 [(0, .ref (36 * 1024 + 1)), (1, .int x1), (2, .int x2)] [] (c_h c B P F A J) (none, c_h c B w.2.1 w.2.2.1 w.2.2.2.1 w.2.2.2.2) := by
  induction n generalizing P F A J x1 x2 w with
  | zero => intro hD; cases hD
  | succ n ih =>
    intro hD
    have hK2 : ∀ (P : Nat → Nat → Nat) (F : Nat → Nat → Int32) (A : Nat → Nat → Nat → Int32) (J : Nat → Nat → Nat → Int64) (x1 : Int32) (x2 : Int32) (w : Unit × (Nat → Nat → Nat) × (Nat → Nat → Int32) × (Nat → Nat → Nat → Int32) × (Nat → Nat → Nat → Int64)), e_Ways_joinWays_2 n P F A J x1 x2 = some w → k_run t lg (d) 97 2 [(0, .ref (36 * 1024 + 1)), (1, .int x1), (2, .int x2)] [] (c_h c B P F A J) (none, c_h c B w.2.1 w.2.2.1 w.2.2.2.1 w.2.2.2.2) := fun _ _ _ _ _ _ _  h => ih  h
    unfold e_Ways_joinWays_2 at hD
    refine k_runB (pc' := 4) (loc' := [(0, .ref (36 * 1024 + 1)), (1, .int x1), (2, .int x2)]) (st' := [.int x1, .int x2]) 2 rfl ?_
    refine k_ic rfl (fun c4_0 => ?_) (fun c4_0 => ?_)
    · rw [c4_0, cond_true] at hD
      cases hD
      exact k_vret rfl rfl
    · rw [c4_0, cond_false] at hD
      refine k_runB (pc' := 9) (loc' := [(0, .ref (36 * 1024 + 1)), (1, .int x1), (2, .int x2), (3, .int 0)]) (st' := []) 2 rfl ?_
      refine k_wk [0, 1, 2, 3] (loc' := [(0, .ref (36 * 1024 + 1)), (1, .int x1), (2, .int x2), (3, .int 0)]) rfl rfl ?_
      exact t_e_Ways_joinWays_9 hK2  hD
/-- SleepWork$Ways.joinWays(I)V  -/
def e_Ways_joinWays (n : Nat) (P : Nat → Nat → Nat) (F : Nat → Nat → Int32) (A : Nat → Nat → Nat → Int32) (J : Nat → Nat → Nat → Int64) (x1 : Int32) : Option (Unit × (Nat → Nat → Nat) × (Nat → Nat → Int32) × (Nat → Nat → Nat → Int32) × (Nat → Nat → Nat → Int64)) :=
  e_Ways_joinWays_2 n P F A J x1 0
set_option maxRecDepth 10000 in
theorem t_e_Ways_joinWays {n : Nat} {P : Nat → Nat → Nat} {F : Nat → Nat → Int32} {A : Nat → Nat → Nat → Int32} {J : Nat → Nat → Nat → Int64} {x1 : Int32}  {w : Unit × (Nat → Nat → Nat) × (Nat → Nat → Int32) × (Nat → Nat → Nat → Int32) × (Nat → Nat → Nat → Int64)} : e_Ways_joinWays n P F A J x1 = some w → k_run t lg (d) 97 0 [(0, .ref (36 * 1024 + 1)), (1, .int x1)] [] (c_h c B P F A J) (none, c_h c B w.2.1 w.2.2.1 w.2.2.2.1 w.2.2.2.2) := by
  intro hD
  unfold e_Ways_joinWays at hD
  refine k_runB (pc' := 2) (loc' := [(0, .ref (36 * 1024 + 1)), (1, .int x1), (2, .int 0)]) (st' := []) 2 rfl ?_
  refine k_wk [0, 1, 2] (loc' := [(0, .ref (36 * 1024 + 1)), (1, .int x1), (2, .int 0)]) rfl rfl ?_
  exact t_e_Ways_joinWays_2   hD
def e_Ways_between_27 (n : Nat) (P : Nat → Nat → Nat) (F : Nat → Nat → Int32) (A : Nat → Nat → Nat → Int32) (J : Nat → Nat → Nat → Int64) (x3 : Int32) (x4 : Int32) : Option (Int32 × (Nat → Nat → Nat) × (Nat → Nat → Int32) × (Nat → Nat → Nat → Int32) × (Nat → Nat → Nat → Int64)) :=
    (m_ld (A 36 2) 64 ((x3 * 8) + x4)).bind fun v14 =>
    some (v14, P, F, A, J)
set_option maxRecDepth 10000 in
theorem t_e_Ways_between_27 (ht : ∀ ci k, t.1 ci k = k_ty ci k) {n : Nat}  {P : Nat → Nat → Nat} {F : Nat → Nat → Int32} {A : Nat → Nat → Nat → Int32} {J : Nat → Nat → Nat → Int64} {x3 : Int32} {x4 : Int32}  {w : Int32 × (Nat → Nat → Nat) × (Nat → Nat → Int32) × (Nat → Nat → Nat → Int32) × (Nat → Nat → Nat → Int64)} : e_Ways_between_27 n P F A J x3 x4 = some w → k_run t lg (d + 2) 95 27 [(0, .ref (36 * 1024 + 1)), (3, .int x3), (4, .int x4)] [] (c_h c B P F A J) (some (.int w.1), c_h c B w.2.1 w.2.2.1 w.2.2.2.1 w.2.2.2.2) := by
  intro hD
  unfold e_Ways_between_27 at hD
  refine k_runB (pc' := 28) (loc' := [(0, .ref (36 * 1024 + 1)), (3, .int x3), (4, .int x4)]) (st' := [.ref (36 * 1024 + 1)]) 1 rfl ?_
  refine k_gf 36 1 (K := 10) rfl rfl rfl rfl rfl ?_
  refine k_runB (pc' := 38) (loc' := [(0, .ref (36 * 1024 + 1)), (3, .int x3), (4, .int x4)]) (st' := [.int ((x3 * 8) + x4), .ref (36 * 1024 + 2)]) 5 rfl ?_
  obtain ⟨v14, hv14, hD⟩ := Option.bind_eq_some_iff.mp hD
  refine k_ldI rfl (c_get (r := 36) (o := 2) (K := 10) rfl (by decide)) hv14 ?_
  cases hD
  exact k_iret rfl rfl
/-- SleepWork$Ways.between(LSleepWork$House;III)I  -/
def e_Ways_between (n : Nat) (P : Nat → Nat → Nat) (F : Nat → Nat → Int32) (A : Nat → Nat → Nat → Int32) (J : Nat → Nat → Nat → Int64) (r1 : Nat) (x2 : Int32) (x3 : Int32) (x4 : Int32) : Option (Int32 × (Nat → Nat → Nat) × (Nat → Nat → Int32) × (Nat → Nat → Nat → Int32) × (Nat → Nat → Nat → Int64)) :=
  cond (g_cnd .eq x2 (F 36 101))
  (e_Ways_between_27 n P F A J x3 x4)
  ((e_Ways_takeDoors n P F A J r1 x2).bind fun (_, P3, F4, A5, J6) =>
  (e_Ways_joinWays n P3 F4 A5 J6 (F4 r1 13)).bind fun (_, P8, F9, A10, J11) =>
  (c_pf F9 36 101 x2).bind fun F12 =>
  (m_ld (A10 36 2) 64 ((x3 * 8) + x4)).bind fun v13 =>
  some (v13, P8, F12, A10, J11))
set_option maxRecDepth 10000 in
theorem t_e_Ways_between (ht : ∀ ci k, t.1 ci k = k_ty ci k) {n : Nat} {P : Nat → Nat → Nat} {F : Nat → Nat → Int32} {A : Nat → Nat → Nat → Int32} {J : Nat → Nat → Nat → Int64} {r1 : Nat} {x2 : Int32} {x3 : Int32} {x4 : Int32} (hr1 : c_kind r1 = 6) {w : Int32 × (Nat → Nat → Nat) × (Nat → Nat → Int32) × (Nat → Nat → Nat → Int32) × (Nat → Nat → Nat → Int64)} : e_Ways_between n P F A J r1 x2 x3 x4 = some w → k_run t lg (d + 2) 95 0 [(0, .ref (36 * 1024 + 1)), (1, .ref (r1 * 1024)), (2, .int x2), (3, .int x3), (4, .int x4)] [] (c_h c B P F A J) (some (.int w.1), c_h c B w.2.1 w.2.2.1 w.2.2.2.1 w.2.2.2.2) := by
  intro hD
  unfold e_Ways_between at hD
  refine k_runB (pc' := 2) (loc' := [(0, .ref (36 * 1024 + 1)), (1, .ref (r1 * 1024)), (2, .int x2), (3, .int x3), (4, .int x4)]) (st' := [.ref (36 * 1024 + 1), .int x2]) 2 rfl ?_
  refine k_gf 36 1 (K := 10) rfl rfl rfl rfl rfl ?_
  refine k_ic rfl (fun c5_0 => ?_) (fun c5_0 => ?_)
  · rw [c5_0, cond_true] at hD
    refine k_wk [0, 3, 4] (loc' := [(0, .ref (36 * 1024 + 1)), (3, .int x3), (4, .int x4)]) rfl rfl ?_
    exact t_e_Ways_between_27 ht   hD
  · rw [c5_0, cond_false] at hD
    refine k_runB (pc' := 11) (loc' := [(0, .ref (36 * 1024 + 1)), (1, .ref (r1 * 1024)), (2, .int x2), (3, .int x3), (4, .int x4)]) (st' := [.int x2, .ref (r1 * 1024), .ref (36 * 1024 + 1)]) 3 rfl ?_
    obtain ⟨⟨v2, P3, F4, A5, J6⟩, hv2, hD⟩ := Option.bind_eq_some_iff.mp hD
    dsimp only at hD
    refine k_runV rfl rfl rfl (c_get (r := 36) (o := 1) (K := 10) rfl (by decide)) rfl rfl (t_e_Ways_takeDoors (d := d) hr1 hv2) ?_
    refine k_runB (pc' := 16) (loc' := [(0, .ref (36 * 1024 + 1)), (1, .ref (r1 * 1024)), (2, .int x2), (3, .int x3), (4, .int x4)]) (st' := [.ref (r1 * 1024), .ref (36 * 1024 + 1)]) 2 rfl ?_
    refine k_gf r1 0 (K := 6) hr1 rfl rfl rfl rfl ?_
    obtain ⟨⟨v7, P8, F9, A10, J11⟩, hv7, hD⟩ := Option.bind_eq_some_iff.mp hD
    dsimp only at hD
    refine k_runV rfl rfl rfl (c_get (r := 36) (o := 1) (K := 10) rfl (by decide)) rfl rfl (t_e_Ways_joinWays (d := d + 1) hv7) ?_
    refine k_runB (pc' := 24) (loc' := [(0, .ref (36 * 1024 + 1)), (1, .ref (r1 * 1024)), (2, .int x2), (3, .int x3), (4, .int x4)]) (st' := [.int x2, .ref (36 * 1024 + 1)]) 2 rfl ?_
    obtain ⟨F12, hF12, hD⟩ := Option.bind_eq_some_iff.mp hD
    refine k_cpt 36 1 (K := 10) (key := 101) rfl rfl (ht 10 1) rfl rfl rfl hF12 ?_
    refine k_runB (pc' := 28) (loc' := [(0, .ref (36 * 1024 + 1)), (1, .ref (r1 * 1024)), (2, .int x2), (3, .int x3), (4, .int x4)]) (st' := [.ref (36 * 1024 + 1)]) 1 rfl ?_
    refine k_gf 36 1 (K := 10) rfl rfl rfl rfl rfl ?_
    refine k_runB (pc' := 38) (loc' := [(0, .ref (36 * 1024 + 1)), (1, .ref (r1 * 1024)), (2, .int x2), (3, .int x3), (4, .int x4)]) (st' := [.int ((x3 * 8) + x4), .ref (36 * 1024 + 2)]) 5 rfl ?_
    obtain ⟨v13, hv13, hD⟩ := Option.bind_eq_some_iff.mp hD
    refine k_ldI rfl (c_get (r := 36) (o := 2) (K := 10) rfl (by decide)) hv13 ?_
    cases hD
    exact k_iret rfl rfl
/-- SleepWork$Evening.minutesBetween(II)I  -/
def e_Evening_minutesBetween (n : Nat) (P : Nat → Nat → Nat) (F : Nat → Nat → Int32) (A : Nat → Nat → Nat → Int32) (J : Nat → Nat → Nat → Int64) (x1 : Int32) (x2 : Int32) : Option (Int32 × (Nat → Nat → Nat) × (Nat → Nat → Int32) × (Nat → Nat → Nat → Int32) × (Nat → Nat → Nat → Int64)) :=
  (c_chk 6 (P 32 4)).bind fun q1 =>
  (e_Ways_between n P F A J q1 (F 2 7) x1 x2).bind fun (v2, P3, F4, A5, J6) =>
  some (v2, P3, F4, A5, J6)
set_option maxRecDepth 10000 in
theorem t_e_Evening_minutesBetween (ht : ∀ ci k, t.1 ci k = k_ty ci k) {n : Nat} {P : Nat → Nat → Nat} {F : Nat → Nat → Int32} {A : Nat → Nat → Nat → Int32} {J : Nat → Nat → Nat → Int64} {x1 : Int32} {x2 : Int32}  {w : Int32 × (Nat → Nat → Nat) × (Nat → Nat → Int32) × (Nat → Nat → Nat → Int32) × (Nat → Nat → Nat → Int64)} : e_Evening_minutesBetween n P F A J x1 x2 = some w → k_run t lg (d + 3) 3 0 [(0, .ref (32 * 1024)), (1, .int x1), (2, .int x2)] [] (c_h c B P F A J) (some (.int w.1), c_h c B w.2.1 w.2.2.1 w.2.2.2.1 w.2.2.2.2) := by
  intro hD
  unfold e_Evening_minutesBetween at hD
  refine k_runB (pc' := 1) (loc' := [(0, .ref (32 * 1024)), (1, .int x1), (2, .int x2)]) (st' := [.ref (32 * 1024)]) 1 rfl ?_
  refine k_gf 32 0 (K := 7) rfl rfl rfl rfl rfl ?_
  refine k_gf 36 0 (K := 10) rfl rfl rfl rfl rfl ?_
  refine k_runB (pc' := 8) (loc' := [(0, .ref (32 * 1024)), (1, .int x1), (2, .int x2)]) (st' := [.ref (32 * 1024), .ref (36 * 1024 + 1)]) 1 rfl ?_
  obtain ⟨q1, hq1, hD⟩ := Option.bind_eq_some_iff.mp hD
  refine k_gq 32 0 (K := 7) (K2 := 6) (key := 4) rfl rfl rfl rfl rfl hq1 (fun kq1 => ?_)
  refine k_runB (pc' := 12) (loc' := [(0, .ref (32 * 1024)), (1, .int x1), (2, .int x2)]) (st' := [.ref (32 * 1024), .ref (q1 * 1024), .ref (36 * 1024 + 1)]) 1 rfl ?_
  refine k_gf 32 0 (K := 7) rfl rfl rfl rfl rfl ?_
  refine k_gf 2 0 (K := 2) rfl rfl rfl rfl rfl ?_
  refine k_runB (pc' := 20) (loc' := [(0, .ref (32 * 1024)), (1, .int x1), (2, .int x2)]) (st' := [.int x2, .int x1, .int (F 2 7), .ref (q1 * 1024), .ref (36 * 1024 + 1)]) 2 rfl ?_
  obtain ⟨⟨v2, P3, F4, A5, J6⟩, hv2, hD⟩ := Option.bind_eq_some_iff.mp hD
  dsimp only at hD
  refine k_runV rfl rfl rfl (c_get (r := 36) (o := 1) (K := 10) rfl (by decide)) rfl rfl (t_e_Ways_between (d := d) ht kq1 hv2) ?_
  cases hD
  exact k_iret rfl rfl
end MC
