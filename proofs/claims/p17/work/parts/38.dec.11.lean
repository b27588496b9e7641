/-! the class's methods as functions (printed by wip/dec2.py) -/
section MC
variable {t : gT} {lg : Nat → Nat} {d : Nat} {c : Nat × Nat} {B : Nat → List gE}
/-- SleepWork$Reader.readTask()V  -/
def e_Reader_readTask (n : Nat) (P : Nat → Nat → Nat) (F : Nat → Nat → Int32) (A : Nat → Nat → Nat → Int32) (J : Nat → Nat → Nat → Int64) : Option (Unit × (Nat → Nat → Nat) × (Nat → Nat → Int32) × (Nat → Nat → Nat → Int32) × (Nat → Nat → Nat → Int64)) :=
  (c_chk 6 (P 37 5)).bind fun q1 =>
  (e_Reader_takeFirst P F A J 3 (F q1 16) 6).bind fun (_, P3, F4, A5, J6) =>
  (c_chk 6 (P3 37 5)).bind fun q7 =>
  (e_Reader_takeNewName_v2 n P3 F4 A5 J6 (F4 q7 16)).bind fun (_, P9, F10, A11, J12) =>
  (c_chk 6 (P9 37 5)).bind fun q13 =>
  (e_Reader_takeKnownName n P9 F10 A11 J12 (F10 q13 13)).bind fun (v14, P15, F16, A17, J18) =>
  (e_Reader_takeNumber P15 F16 A17 J18 0 999).bind fun (v19, P20, F21, A22, J23) =>
  (e_Reader_take P20 F21 A22 J23 59).bind fun (v24, P25, F26, A27, J28) =>
  cond (g_cnd .eq v24 0)
  (some ((), P25, F26, A27, J28))
  ((c_chk 6 (P25 37 5)).bind fun q30 =>
  (c_chk 6 (P25 37 5)).bind fun q31 =>
  (c_st A27 q30 4 6 (F26 q31 16) v14).bind fun A32 =>
  (c_chk 2 (P25 37 6)).bind fun q33 =>
  (c_chk 6 (P25 37 5)).bind fun q34 =>
  (c_st A32 q33 2 6 (F26 q34 16) v19).bind fun A35 =>
  (c_chk 6 (P25 37 5)).bind fun q36 =>
  (c_pf F26 q36 16 ((F26 q36 16) + 1)).bind fun F37 =>
  some ((), P25, F37, A35, J28))
set_option maxRecDepth 10000 in
theorem t_e_Reader_readTask (ht : ∀ ci k, t.1 ci k = k_ty ci k) {n : Nat} {P : Nat → Nat → Nat} {F : Nat → Nat → Int32} {A : Nat → Nat → Nat → Int32} {J : Nat → Nat → Nat → Int64}   {w : Unit × (Nat → Nat → Nat) × (Nat → Nat → Int32) × (Nat → Nat → Nat → Int32) × (Nat → Nat → Nat → Int64)} : e_Reader_readTask n P F A J = some w → k_run t lg (d + 3) 55 0 [(0, .ref (37 * 1024))] [] (c_h c B P F A J) (none, c_h c B w.2.1 w.2.2.1 w.2.2.2.1 w.2.2.2.2) := by
  intro hD
  unfold e_Reader_readTask at hD
  refine k_runB (pc' := 3) (loc' := [(0, .ref (37 * 1024))]) (st' := [.ref (37 * 1024), .int 3, .ref (37 * 1024)]) 3 rfl ?_
  obtain ⟨q1, hq1, hD⟩ := Option.bind_eq_some_iff.mp hD
  refine k_gq 37 0 (K := 11) (K2 := 6) (key := 5) rfl rfl rfl rfl rfl hq1 (fun kq1 => ?_)
  refine k_gf q1 0 (K := 6) kq1 rfl rfl rfl rfl ?_
  refine k_runB (pc' := 11) (loc' := [(0, .ref (37 * 1024))]) (st' := [.int 6, .int (F q1 16), .int 3, .ref (37 * 1024)]) 1 rfl ?_
  obtain ⟨⟨v2, P3, F4, A5, J6⟩, hv2, hD⟩ := Option.bind_eq_some_iff.mp hD
  dsimp only at hD
  refine k_runV rfl rfl rfl (c_get (r := 37) (o := 0) (K := 11) rfl (by decide)) rfl rfl (t_e_Reader_takeFirst (d := d) ht hv2) ?_
  refine k_runB (pc' := 16) (loc' := [(0, .ref (37 * 1024))]) (st' := [.ref (37 * 1024), .ref (37 * 1024)]) 2 rfl ?_
  refine k_gf 37 0 (K := 11) rfl rfl rfl rfl rfl ?_
  refine k_runB (pc' := 20) (loc' := [(0, .ref (37 * 1024))]) (st' := [.ref (37 * 1024), .ref (37 * 1024 + 9), .ref (37 * 1024)]) 1 rfl ?_
  obtain ⟨q7, hq7, hD⟩ := Option.bind_eq_some_iff.mp hD
  refine k_gq 37 0 (K := 11) (K2 := 6) (key := 5) rfl rfl rfl rfl rfl hq7 (fun kq7 => ?_)
  refine k_gf q7 0 (K := 6) kq7 rfl rfl rfl rfl ?_
  obtain ⟨⟨v8, P9, F10, A11, J12⟩, hv8, hD⟩ := Option.bind_eq_some_iff.mp hD
  dsimp only at hD
  refine k_runV rfl rfl rfl (c_get (r := 37) (o := 0) (K := 11) rfl (by decide)) rfl rfl (t_e_Reader_takeNewName_v2 (d := d) ht hv8) ?_
  refine k_runB (pc' := 31) (loc' := [(0, .ref (37 * 1024))]) (st' := [.ref (37 * 1024), .ref (37 * 1024)]) 2 rfl ?_
  refine k_gf 37 0 (K := 11) rfl rfl rfl rfl rfl ?_
  refine k_runB (pc' := 35) (loc' := [(0, .ref (37 * 1024))]) (st' := [.ref (37 * 1024), .ref (37 * 1024 + 7), .ref (37 * 1024)]) 1 rfl ?_
  obtain ⟨q13, hq13, hD⟩ := Option.bind_eq_some_iff.mp hD
  refine k_gq 37 0 (K := 11) (K2 := 6) (key := 5) rfl rfl rfl rfl rfl hq13 (fun kq13 => ?_)
  refine k_gf q13 0 (K := 6) kq13 rfl rfl rfl rfl ?_
  obtain ⟨⟨v14, P15, F16, A17, J18⟩, hv14, hD⟩ := Option.bind_eq_some_iff.mp hD
  dsimp only at hD
  refine k_runV rfl rfl rfl (c_get (r := 37) (o := 0) (K := 11) rfl (by decide)) rfl rfl (t_e_Reader_takeKnownName (d := d) ht hv14) ?_
  refine k_runB (pc' := 50) (loc' := [(0, .ref (37 * 1024)), (1, .int v14)]) (st' := [.int 999, .int 0, .ref (37 * 1024)]) 4 rfl ?_
  obtain ⟨⟨v19, P20, F21, A22, J23⟩, hv19, hD⟩ := Option.bind_eq_some_iff.mp hD
  dsimp only at hD
  refine k_runV rfl rfl rfl (c_get (r := 37) (o := 0) (K := 11) rfl (by decide)) rfl rfl (t_e_Reader_takeNumber (d := d) ht hv19) ?_
  refine k_runB (pc' := 57) (loc' := [(0, .ref (37 * 1024)), (1, .int v14), (2, .int v19)]) (st' := [.int 59, .ref (37 * 1024)]) 3 rfl ?_
  obtain ⟨⟨v24, P25, F26, A27, J28⟩, hv24, hD⟩ := Option.bind_eq_some_iff.mp hD
  dsimp only at hD
  refine k_runV rfl rfl rfl (c_get (r := 37) (o := 0) (K := 11) rfl (by decide)) rfl rfl (t_e_Reader_take (d := d + 1) ht hv24) ?_
  refine k_if rfl (fun c60_28 => ?_) (fun c60_28 => ?_)
  · rw [c60_28, cond_true] at hD
    cases hD
    exact k_vret rfl rfl
  · rw [c60_28, cond_false] at hD
    refine k_runB (pc' := 64) (loc' := [(0, .ref (37 * 1024)), (1, .int v14), (2, .int v19)]) (st' := [.ref (37 * 1024)]) 1 rfl ?_
    obtain ⟨q30, hq30, hD⟩ := Option.bind_eq_some_iff.mp hD
    refine k_gq 37 0 (K := 11) (K2 := 6) (key := 5) rfl rfl rfl rfl rfl hq30 (fun kq30 => ?_)
    refine k_gf q30 0 (K := 6) kq30 rfl rfl rfl rfl ?_
    refine k_runB (pc' := 71) (loc' := [(0, .ref (37 * 1024)), (1, .int v14), (2, .int v19)]) (st' := [.ref (37 * 1024), .ref (q30 * 1024 + 4)]) 1 rfl ?_
    obtain ⟨q31, hq31, hD⟩ := Option.bind_eq_some_iff.mp hD
    refine k_gq 37 0 (K := 11) (K2 := 6) (key := 5) rfl rfl rfl rfl rfl hq31 (fun kq31 => ?_)
    refine k_gf q31 0 (K := 6) kq31 rfl rfl rfl rfl ?_
    refine k_runB (pc' := 78) (loc' := [(0, .ref (37 * 1024)), (1, .int v14), (2, .int v19)]) (st' := [.int v14, .int (F26 q31 16), .ref (q30 * 1024 + 4)]) 1 rfl ?_
    obtain ⟨A32, hA32, hD⟩ := Option.bind_eq_some_iff.mp hD
    refine k_cstI q30 4 (K := 6) kq30 rfl rfl rfl (fun _ => rfl) hA32 ?_
    refine k_runB (pc' := 80) (loc' := [(0, .ref (37 * 1024)), (1, .int v14), (2, .int v19)]) (st' := [.ref (37 * 1024)]) 1 rfl ?_
    obtain ⟨q33, hq33, hD⟩ := Option.bind_eq_some_iff.mp hD
    refine k_gq 37 0 (K := 11) (K2 := 2) (key := 6) rfl rfl rfl rfl rfl hq33 (fun kq33 => ?_)
    refine k_gf q33 0 (K := 2) kq33 rfl rfl rfl rfl ?_
    refine k_runB (pc' := 87) (loc' := [(0, .ref (37 * 1024)), (1, .int v14), (2, .int v19)]) (st' := [.ref (37 * 1024), .ref (q33 * 1024 + 2)]) 1 rfl ?_
    obtain ⟨q34, hq34, hD⟩ := Option.bind_eq_some_iff.mp hD
    refine k_gq 37 0 (K := 11) (K2 := 6) (key := 5) rfl rfl rfl rfl rfl hq34 (fun kq34 => ?_)
    refine k_gf q34 0 (K := 6) kq34 rfl rfl rfl rfl ?_
    refine k_runB (pc' := 94) (loc' := [(0, .ref (37 * 1024)), (1, .int v14), (2, .int v19)]) (st' := [.int v19, .int (F26 q34 16), .ref (q33 * 1024 + 2)]) 1 rfl ?_
    obtain ⟨A35, hA35, hD⟩ := Option.bind_eq_some_iff.mp hD
    refine k_cstI q33 2 (K := 2) kq33 rfl rfl rfl (fun _ => rfl) hA35 ?_
    refine k_runB (pc' := 96) (loc' := [(0, .ref (37 * 1024)), (1, .int v14), (2, .int v19)]) (st' := [.ref (37 * 1024)]) 1 rfl ?_
    obtain ⟨q36, hq36, hD⟩ := Option.bind_eq_some_iff.mp hD
    refine k_gq 37 0 (K := 11) (K2 := 6) (key := 5) rfl rfl rfl rfl rfl hq36 (fun kq36 => ?_)
    refine k_runB (pc' := 100) (loc' := [(0, .ref (37 * 1024)), (1, .int v14), (2, .int v19)]) (st' := [.ref (q36 * 1024), .ref (q36 * 1024)]) 1 rfl ?_
    refine k_gf q36 0 (K := 6) kq36 rfl rfl rfl rfl ?_
    refine k_runB (pc' := 105) (loc' := [(0, .ref (37 * 1024)), (1, .int v14), (2, .int v19)]) (st' := [.int ((F26 q36 16) + 1), .ref (q36 * 1024)]) 2 rfl ?_
    obtain ⟨F37, hF37, hD⟩ := Option.bind_eq_some_iff.mp hD
    refine k_cpt q36 0 (K := 6) (key := 16) kq36 rfl (ht 1 16) rfl rfl rfl hF37 ?_
    cases hD
    exact k_vret rfl rfl
/-- SleepWork$Reader.takeKnownName([JI)I  -/
def e_Reader_takeKnownName_v1 (n : Nat) (P : Nat → Nat → Nat) (F : Nat → Nat → Int32) (A : Nat → Nat → Nat → Int32) (J : Nat → Nat → Nat → Int64) (x2 : Int32) : Option (Int32 × (Nat → Nat → Nat) × (Nat → Nat → Int32) × (Nat → Nat → Nat → Int32) × (Nat → Nat → Nat → Int64)) :=
  (e_Reader_take P F A J 100).bind fun (v1, P2, F3, A4, J5) =>
  cond (g_cnd .ne v1 0)
  ((m_ldJ (J5 37 5) 401 (F3 37 8)).bind fun v7 =>
  (e_Reader_find_v2 n P2 F3 A4 J5 v7 x2).bind fun v8 =>
  cond (g_cnd .ge v8 0)
  (some (v8, P2, F3, A4, J5))
  ((e_Reader_failLate P2 F3 A4 J5 4).bind fun (_, P11, F12, A13, J14) =>
  some (v8, P11, F12, A13, J14)))
  (some ((-1), P2, F3, A4, J5))
set_option maxRecDepth 10000 in
theorem t_e_Reader_takeKnownName_v1 (ht : ∀ ci k, t.1 ci k = k_ty ci k) {n : Nat} {P : Nat → Nat → Nat} {F : Nat → Nat → Int32} {A : Nat → Nat → Nat → Int32} {J : Nat → Nat → Nat → Int64} {x2 : Int32}  {w : Int32 × (Nat → Nat → Nat) × (Nat → Nat → Int32) × (Nat → Nat → Nat → Int32) × (Nat → Nat → Nat → Int64)} : e_Reader_takeKnownName_v1 n P F A J x2 = some w → k_run t lg (d + 2) 48 0 [(0, .ref (37 * 1024)), (1, .ref (37 * 1024 + 9)), (2, .int x2)] [] (c_h c B P F A J) (some (.int w.1), c_h c B w.2.1 w.2.2.1 w.2.2.2.1 w.2.2.2.2) := by
  intro hD
  unfold e_Reader_takeKnownName_v1 at hD
  refine k_runB (pc' := 3) (loc' := [(0, .ref (37 * 1024)), (1, .ref (37 * 1024 + 9)), (2, .int x2)]) (st' := [.int 100, .ref (37 * 1024)]) 2 rfl ?_
  obtain ⟨⟨v1, P2, F3, A4, J5⟩, hv1, hD⟩ := Option.bind_eq_some_iff.mp hD
  dsimp only at hD
  refine k_runV rfl rfl rfl (c_get (r := 37) (o := 0) (K := 11) rfl (by decide)) rfl rfl (t_e_Reader_take (d := d) ht hv1) ?_
  refine k_if rfl (fun c6_5 => ?_) (fun c6_5 => ?_)
  · rw [c6_5, cond_true] at hD
    refine k_runB (pc' := 12) (loc' := [(0, .ref (37 * 1024)), (1, .ref (37 * 1024 + 9)), (2, .int x2)]) (st' := [.ref (37 * 1024)]) 1 rfl ?_
    refine k_gf 37 0 (K := 11) rfl rfl rfl rfl rfl ?_
    refine k_gf 37 1 (K := 11) rfl rfl rfl rfl rfl ?_
    refine k_runB (pc' := 19) (loc' := [(0, .ref (37 * 1024)), (1, .ref (37 * 1024 + 9)), (2, .int x2)]) (st' := [.ref (37 * 1024), .ref (37 * 1024 + 5)]) 1 rfl ?_
    refine k_gf 37 0 (K := 11) rfl rfl rfl rfl rfl ?_
    obtain ⟨v7, hv7, hD⟩ := Option.bind_eq_some_iff.mp hD
    refine k_ldL rfl (c_get (r := 37) (o := 5) (K := 11) rfl (by decide)) hv7 ?_
    refine k_runB (pc' := 25) (loc' := [(0, .ref (37 * 1024)), (1, .ref (37 * 1024 + 9)), (2, .int x2)]) (st' := [.int x2, .ref (37 * 1024 + 9), .long (v7)]) 2 rfl ?_
    obtain ⟨v8, hv8, hD⟩ := Option.bind_eq_some_iff.mp hD
    refine k_runC rfl rfl rfl rfl (t_e_Reader_find_v2 (d := d + 1) hv8) ?_
    refine k_runB (pc' := 30) (loc' := [(0, .ref (37 * 1024)), (1, .ref (37 * 1024 + 9)), (2, .int x2), (3, .int v8)]) (st' := [.int v8]) 2 rfl ?_
    refine k_if rfl (fun c30_8 => ?_) (fun c30_8 => ?_)
    · rw [c30_8, cond_true] at hD
      refine k_runB (pc' := 39) (loc' := [(0, .ref (37 * 1024)), (1, .ref (37 * 1024 + 9)), (2, .int x2), (3, .int v8)]) (st' := [.int v8]) 1 rfl ?_
      cases hD
      exact k_iret rfl rfl
    · rw [c30_8, cond_false] at hD
      refine k_runB (pc' := 35) (loc' := [(0, .ref (37 * 1024)), (1, .ref (37 * 1024 + 9)), (2, .int x2), (3, .int v8)]) (st' := [.int 4, .ref (37 * 1024)]) 2 rfl ?_
      obtain ⟨⟨v10, P11, F12, A13, J14⟩, hv10, hD⟩ := Option.bind_eq_some_iff.mp hD
      dsimp only at hD
      refine k_runV rfl rfl rfl (c_get (r := 37) (o := 0) (K := 11) rfl (by decide)) rfl rfl (t_e_Reader_failLate (d := d + 1) ht hv10) ?_
      refine k_runB (pc' := 39) (loc' := [(0, .ref (37 * 1024)), (1, .ref (37 * 1024 + 9)), (2, .int x2), (3, .int v8)]) (st' := [.int v8]) 1 rfl ?_
      cases hD
      exact k_iret rfl rfl
  · rw [c6_5, cond_false] at hD
    refine k_runB (pc' := 10) (loc' := [(0, .ref (37 * 1024)), (1, .ref (37 * 1024 + 9)), (2, .int x2)]) (st' := [.int ((-1))]) 1 rfl ?_
    cases hD
    exact k_iret rfl rfl
def e_Reader_takeTaskOfStep_57 (n : Nat) (P : Nat → Nat → Nat) (F : Nat → Nat → Int32) (A : Nat → Nat → Nat → Int32) (J : Nat → Nat → Nat → Int64) (x1 : Int32) (x2 : Int32) : Option (Int32 × (Nat → Nat → Nat) × (Nat → Nat → Int32) × (Nat → Nat → Nat → Int32) × (Nat → Nat → Nat → Int64)) :=
    (c_chk 6 (P 37 5)).bind fun q12 =>
    (e_Reader_takeKnownName_v1 n P F A J (F q12 16)).bind fun (v13, P14, F15, A16, J17) =>
    cond (g_cnd .lt x2 0)
    (some (x2, P14, F15, A16, J17))
    ((c_chk 6 (P14 37 5)).bind fun q19 =>
    (m_ld (A16 q19 5) 6 x2).bind fun v20 =>
    cond (g_cnd .lt v20 6)
    (some (x2, P14, F15, A16, J17))
    ((e_Reader_fail P14 F15 A16 J17 2 x1).bind fun (_, P23, F24, A25, J26) =>
    some (x2, P23, F24, A25, J26)))
set_option maxRecDepth 10000 in
theorem t_e_Reader_takeTaskOfStep_57 (ht : ∀ ci k, t.1 ci k = k_ty ci k) {n : Nat}  {P : Nat → Nat → Nat} {F : Nat → Nat → Int32} {A : Nat → Nat → Nat → Int32} {J : Nat → Nat → Nat → Int64} {x1 : Int32} {x2 : Int32}  {w : Int32 × (Nat → Nat → Nat) × (Nat → Nat → Int32) × (Nat → Nat → Nat → Int32) × (Nat → Nat → Nat → Int64)} : e_Reader_takeTaskOfStep_57 n P F A J x1 x2 = some w → k_run t lg (d + 3) 57 57 [(0, .ref (37 * 1024)), (1, .int x1), (2, .int x2)] [] (c_h c B P F A J) (some (.int w.1), c_h c B w.2.1 w.2.2.1 w.2.2.2.1 w.2.2.2.2) := by
  intro hD
  unfold e_Reader_takeTaskOfStep_57 at hD
  refine k_runB (pc' := 59) (loc' := [(0, .ref (37 * 1024)), (1, .int x1), (2, .int x2)]) (st' := [.ref (37 * 1024), .ref (37 * 1024)]) 2 rfl ?_
  refine k_gf 37 0 (K := 11) rfl rfl rfl rfl rfl ?_
  refine k_runB (pc' := 63) (loc' := [(0, .ref (37 * 1024)), (1, .int x1), (2, .int x2)]) (st' := [.ref (37 * 1024), .ref (37 * 1024 + 9), .ref (37 * 1024)]) 1 rfl ?_
  obtain ⟨q12, hq12, hD⟩ := Option.bind_eq_some_iff.mp hD
  refine k_gq 37 0 (K := 11) (K2 := 6) (key := 5) rfl rfl rfl rfl rfl hq12 (fun kq12 => ?_)
  refine k_gf q12 0 (K := 6) kq12 rfl rfl rfl rfl ?_
  obtain ⟨⟨v13, P14, F15, A16, J17⟩, hv13, hD⟩ := Option.bind_eq_some_iff.mp hD
  dsimp only at hD
  refine k_runV rfl rfl rfl (c_get (r := 37) (o := 0) (K := 11) rfl (by decide)) rfl rfl (t_e_Reader_takeKnownName_v1 (d := d) ht hv13) ?_
  refine k_runB (pc' := 74) (loc' := [(0, .ref (37 * 1024)), (1, .int x1), (2, .int x2)]) (st' := [.int x2]) 2 rfl ?_
  refine k_if rfl (fun c74_17 => ?_) (fun c74_17 => ?_)
  · rw [c74_17, cond_true] at hD
    refine k_runB (pc' := 98) (loc' := [(0, .ref (37 * 1024)), (1, .int x1), (2, .int x2)]) (st' := [.int x2]) 1 rfl ?_
    cases hD
    exact k_iret rfl rfl
  · rw [c74_17, cond_false] at hD
    refine k_runB (pc' := 78) (loc' := [(0, .ref (37 * 1024)), (1, .int x1), (2, .int x2)]) (st' := [.ref (37 * 1024)]) 1 rfl ?_
    obtain ⟨q19, hq19, hD⟩ := Option.bind_eq_some_iff.mp hD
    refine k_gq 37 0 (K := 11) (K2 := 6) (key := 5) rfl rfl rfl rfl rfl hq19 (fun kq19 => ?_)
    refine k_gf q19 0 (K := 6) kq19 rfl rfl rfl rfl ?_
    refine k_runB (pc' := 85) (loc' := [(0, .ref (37 * 1024)), (1, .int x1), (2, .int x2)]) (st' := [.int x2, .ref (q19 * 1024 + 5)]) 1 rfl ?_
    obtain ⟨v20, hv20, hD⟩ := Option.bind_eq_some_iff.mp hD
    refine k_ldI rfl (c_get (r := q19) (o := 5) (K := 6) kq19 (by decide)) hv20 ?_
    refine k_runB (pc' := 88) (loc' := [(0, .ref (37 * 1024)), (1, .int x1), (2, .int x2)]) (st' := [.int 6, .int v20]) 1 rfl ?_
    refine k_ic rfl (fun c88_20 => ?_) (fun c88_20 => ?_)
    · rw [c88_20, cond_true] at hD
      refine k_runB (pc' := 98) (loc' := [(0, .ref (37 * 1024)), (1, .int x1), (2, .int x2)]) (st' := [.int x2]) 1 rfl ?_
      cases hD
      exact k_iret rfl rfl
    · rw [c88_20, cond_false] at hD
      refine k_runB (pc' := 94) (loc' := [(0, .ref (37 * 1024)), (1, .int x1), (2, .int x2)]) (st' := [.int x1, .int 2, .ref (37 * 1024)]) 3 rfl ?_
      obtain ⟨⟨v22, P23, F24, A25, J26⟩, hv22, hD⟩ := Option.bind_eq_some_iff.mp hD
      dsimp only at hD
      refine k_runV rfl rfl rfl (c_get (r := 37) (o := 0) (K := 11) rfl (by decide)) rfl rfl (t_e_Reader_fail (d := d + 2) ht hv22) ?_
      refine k_runB (pc' := 98) (loc' := [(0, .ref (37 * 1024)), (1, .int x1), (2, .int x2)]) (st' := [.int x2]) 1 rfl ?_
      cases hD
      exact k_iret rfl rfl
/-- SleepWork$Reader.takeTaskOfStep()I  -/
def e_Reader_takeTaskOfStep (n : Nat) (P : Nat → Nat → Nat) (F : Nat → Nat → Int32) (A : Nat → Nat → Nat → Int32) (J : Nat → Nat → Nat → Int64) : Option (Int32 × (Nat → Nat → Nat) × (Nat → Nat → Int32) × (Nat → Nat → Nat → Int32) × (Nat → Nat → Nat → Int64)) :=
  (m_ld (A 37 3) 401 (F 37 7)).bind fun v1 =>
  (e_Reader_take P F A J 4).bind fun (v2, P3, F4, A5, J6) =>
  (e_Reader_isNext P3 F4 A5 J6 100).bind fun v7 =>
  cond (g_cnd .eq v7 0)
  (e_Reader_takeTaskOfStep_57 n P3 F4 A5 J6 v1 ((-1)))
  ((m_ldJ (J6 37 5) 401 (F4 37 7)).bind fun v9 =>
  (c_chk 6 (P3 37 5)).bind fun q10 =>
  (e_Reader_find_v2 n P3 F4 A5 J6 v9 (F4 q10 16)).bind fun v11 =>
  e_Reader_takeTaskOfStep_57 n P3 F4 A5 J6 v1 v11)
set_option maxRecDepth 10000 in
theorem t_e_Reader_takeTaskOfStep (ht : ∀ ci k, t.1 ci k = k_ty ci k) {n : Nat} {P : Nat → Nat → Nat} {F : Nat → Nat → Int32} {A : Nat → Nat → Nat → Int32} {J : Nat → Nat → Nat → Int64}   {w : Int32 × (Nat → Nat → Nat) × (Nat → Nat → Int32) × (Nat → Nat → Nat → Int32) × (Nat → Nat → Nat → Int64)} : e_Reader_takeTaskOfStep n P F A J = some w → k_run t lg (d + 3) 57 0 [(0, .ref (37 * 1024))] [] (c_h c B P F A J) (some (.int w.1), c_h c B w.2.1 w.2.2.1 w.2.2.2.1 w.2.2.2.2) := by
  intro hD
  unfold e_Reader_takeTaskOfStep at hD
  refine k_runB (pc' := 1) (loc' := [(0, .ref (37 * 1024))]) (st' := [.ref (37 * 1024)]) 1 rfl ?_
  refine k_gf 37 0 (K := 11) rfl rfl rfl rfl rfl ?_
  refine k_gf 37 1 (K := 11) rfl rfl rfl rfl rfl ?_
  refine k_runB (pc' := 8) (loc' := [(0, .ref (37 * 1024))]) (st' := [.ref (37 * 1024), .ref (37 * 1024 + 3)]) 1 rfl ?_
  refine k_gf 37 0 (K := 11) rfl rfl rfl rfl rfl ?_
  obtain ⟨v1, hv1, hD⟩ := Option.bind_eq_some_iff.mp hD
  refine k_ldI rfl (c_get (r := 37) (o := 3) (K := 11) rfl (by decide)) hv1 ?_
  refine k_runB (pc' := 15) (loc' := [(0, .ref (37 * 1024)), (1, .int v1)]) (st' := [.int 4, .ref (37 * 1024)]) 3 rfl ?_
  obtain ⟨⟨v2, P3, F4, A5, J6⟩, hv2, hD⟩ := Option.bind_eq_some_iff.mp hD
  dsimp only at hD
  refine k_runV rfl rfl rfl (c_get (r := 37) (o := 0) (K := 11) rfl (by decide)) rfl rfl (t_e_Reader_take (d := d + 1) ht hv2) ?_
  refine k_runB (pc' := 24) (loc' := [(0, .ref (37 * 1024)), (1, .int v1), (2, .int ((-1)))]) (st' := [.int 100, .ref (37 * 1024)]) 5 rfl ?_
  obtain ⟨v7, hv7, hD⟩ := Option.bind_eq_some_iff.mp hD
  refine k_runV rfl rfl rfl (c_get (r := 37) (o := 0) (K := 11) rfl (by decide)) rfl rfl (t_e_Reader_isNext (d := d + 2) hv7) ?_
  refine k_if rfl (fun c27_7 => ?_) (fun c27_7 => ?_)
  · rw [c27_7, cond_true] at hD
    refine k_wk [0, 1, 2] (loc' := [(0, .ref (37 * 1024)), (1, .int v1), (2, .int ((-1)))]) rfl rfl ?_
    exact t_e_Reader_takeTaskOfStep_57 ht   hD
  · rw [c27_7, cond_false] at hD
    refine k_runB (pc' := 31) (loc' := [(0, .ref (37 * 1024)), (1, .int v1), (2, .int ((-1)))]) (st' := [.ref (37 * 1024)]) 1 rfl ?_
    refine k_gf 37 0 (K := 11) rfl rfl rfl rfl rfl ?_
    refine k_gf 37 1 (K := 11) rfl rfl rfl rfl rfl ?_
    refine k_runB (pc' := 38) (loc' := [(0, .ref (37 * 1024)), (1, .int v1), (2, .int ((-1)))]) (st' := [.ref (37 * 1024), .ref (37 * 1024 + 5)]) 1 rfl ?_
    refine k_gf 37 0 (K := 11) rfl rfl rfl rfl rfl ?_
    obtain ⟨v9, hv9, hD⟩ := Option.bind_eq_some_iff.mp hD
    refine k_ldL rfl (c_get (r := 37) (o := 5) (K := 11) rfl (by decide)) hv9 ?_
    refine k_runB (pc' := 43) (loc' := [(0, .ref (37 * 1024)), (1, .int v1), (2, .int ((-1)))]) (st' := [.ref (37 * 1024), .long (v9)]) 1 rfl ?_
    refine k_gf 37 0 (K := 11) rfl rfl rfl rfl rfl ?_
    refine k_runB (pc' := 47) (loc' := [(0, .ref (37 * 1024)), (1, .int v1), (2, .int ((-1)))]) (st' := [.ref (37 * 1024), .ref (37 * 1024 + 9), .long (v9)]) 1 rfl ?_
    obtain ⟨q10, hq10, hD⟩ := Option.bind_eq_some_iff.mp hD
    refine k_gq 37 0 (K := 11) (K2 := 6) (key := 5) rfl rfl rfl rfl rfl hq10 (fun kq10 => ?_)
    refine k_gf q10 0 (K := 6) kq10 rfl rfl rfl rfl ?_
    obtain ⟨v11, hv11, hD⟩ := Option.bind_eq_some_iff.mp hD
    refine k_runC rfl rfl rfl rfl (t_e_Reader_find_v2 (d := d + 2) hv11) ?_
    refine k_runB (pc' := 57) (loc' := [(0, .ref (37 * 1024)), (1, .int v1), (2, .int v11)]) (st' := []) 1 rfl ?_
    refine k_wk [0, 1, 2] (loc' := [(0, .ref (37 * 1024)), (1, .int v1), (2, .int v11)]) rfl rfl ?_
    exact t_e_Reader_takeTaskOfStep_57 ht   hD
/-- SleepWork$Reader.takeKnownName([JI)I  -/
def e_Reader_takeKnownName_v2 (n : Nat) (P : Nat → Nat → Nat) (F : Nat → Nat → Int32) (A : Nat → Nat → Nat → Int32) (J : Nat → Nat → Nat → Int64) (x2 : Int32) : Option (Int32 × (Nat → Nat → Nat) × (Nat → Nat → Int32) × (Nat → Nat → Nat → Int32) × (Nat → Nat → Nat → Int64)) :=
  (e_Reader_take P F A J 100).bind fun (v1, P2, F3, A4, J5) =>
  cond (g_cnd .ne v1 0)
  ((m_ldJ (J5 37 5) 401 (F3 37 8)).bind fun v7 =>
  (e_Reader_find_v1 n P2 F3 A4 J5 v7 x2).bind fun v8 =>
  cond (g_cnd .ge v8 0)
  (some (v8, P2, F3, A4, J5))
  ((e_Reader_failLate P2 F3 A4 J5 4).bind fun (_, P11, F12, A13, J14) =>
  some (v8, P11, F12, A13, J14)))
  (some ((-1), P2, F3, A4, J5))
set_option maxRecDepth 10000 in
theorem t_e_Reader_takeKnownName_v2 (ht : ∀ ci k, t.1 ci k = k_ty ci k) {n : Nat} {P : Nat → Nat → Nat} {F : Nat → Nat → Int32} {A : Nat → Nat → Nat → Int32} {J : Nat → Nat → Nat → Int64} {x2 : Int32}  {w : Int32 × (Nat → Nat → Nat) × (Nat → Nat → Int32) × (Nat → Nat → Nat → Int32) × (Nat → Nat → Nat → Int64)} : e_Reader_takeKnownName_v2 n P F A J x2 = some w → k_run t lg (d + 2) 48 0 [(0, .ref (37 * 1024)), (1, .ref (37 * 1024 + 8)), (2, .int x2)] [] (c_h c B P F A J) (some (.int w.1), c_h c B w.2.1 w.2.2.1 w.2.2.2.1 w.2.2.2.2) := by
  intro hD
  unfold e_Reader_takeKnownName_v2 at hD
  refine k_runB (pc' := 3) (loc' := [(0, .ref (37 * 1024)), (1, .ref (37 * 1024 + 8)), (2, .int x2)]) (st' := [.int 100, .ref (37 * 1024)]) 2 rfl ?_
  obtain ⟨⟨v1, P2, F3, A4, J5⟩, hv1, hD⟩ := Option.bind_eq_some_iff.mp hD
  dsimp only at hD
  refine k_runV rfl rfl rfl (c_get (r := 37) (o := 0) (K := 11) rfl (by decide)) rfl rfl (t_e_Reader_take (d := d) ht hv1) ?_
  refine k_if rfl (fun c6_5 => ?_) (fun c6_5 => ?_)
  · rw [c6_5, cond_true] at hD
    refine k_runB (pc' := 12) (loc' := [(0, .ref (37 * 1024)), (1, .ref (37 * 1024 + 8)), (2, .int x2)]) (st' := [.ref (37 * 1024)]) 1 rfl ?_
    refine k_gf 37 0 (K := 11) rfl rfl rfl rfl rfl ?_
    refine k_gf 37 1 (K := 11) rfl rfl rfl rfl rfl ?_
    refine k_runB (pc' := 19) (loc' := [(0, .ref (37 * 1024)), (1, .ref (37 * 1024 + 8)), (2, .int x2)]) (st' := [.ref (37 * 1024), .ref (37 * 1024 + 5)]) 1 rfl ?_
    refine k_gf 37 0 (K := 11) rfl rfl rfl rfl rfl ?_
    obtain ⟨v7, hv7, hD⟩ := Option.bind_eq_some_iff.mp hD
    refine k_ldL rfl (c_get (r := 37) (o := 5) (K := 11) rfl (by decide)) hv7 ?_
    refine k_runB (pc' := 25) (loc' := [(0, .ref (37 * 1024)), (1, .ref (37 * 1024 + 8)), (2, .int x2)]) (st' := [.int x2, .ref (37 * 1024 + 8), .long (v7)]) 2 rfl ?_
    obtain ⟨v8, hv8, hD⟩ := Option.bind_eq_some_iff.mp hD
    refine k_runC rfl rfl rfl rfl (t_e_Reader_find_v1 (d := d + 1) hv8) ?_
    refine k_runB (pc' := 30) (loc' := [(0, .ref (37 * 1024)), (1, .ref (37 * 1024 + 8)), (2, .int x2), (3, .int v8)]) (st' := [.int v8]) 2 rfl ?_
    refine k_if rfl (fun c30_8 => ?_) (fun c30_8 => ?_)
    · rw [c30_8, cond_true] at hD
      refine k_runB (pc' := 39) (loc' := [(0, .ref (37 * 1024)), (1, .ref (37 * 1024 + 8)), (2, .int x2), (3, .int v8)]) (st' := [.int v8]) 1 rfl ?_
      cases hD
      exact k_iret rfl rfl
    · rw [c30_8, cond_false] at hD
      refine k_runB (pc' := 35) (loc' := [(0, .ref (37 * 1024)), (1, .ref (37 * 1024 + 8)), (2, .int x2), (3, .int v8)]) (st' := [.int 4, .ref (37 * 1024)]) 2 rfl ?_
      obtain ⟨⟨v10, P11, F12, A13, J14⟩, hv10, hD⟩ := Option.bind_eq_some_iff.mp hD
      dsimp only at hD
      refine k_runV rfl rfl rfl (c_get (r := 37) (o := 0) (K := 11) rfl (by decide)) rfl rfl (t_e_Reader_failLate (d := d + 1) ht hv10) ?_
      refine k_runB (pc' := 39) (loc' := [(0, .ref (37 * 1024)), (1, .ref (37 * 1024 + 8)), (2, .int x2), (3, .int v8)]) (st' := [.int v8]) 1 rfl ?_
      cases hD
      exact k_iret rfl rfl
  · rw [c6_5, cond_false] at hD
    refine k_runB (pc' := 10) (loc' := [(0, .ref (37 * 1024)), (1, .ref (37 * 1024 + 8)), (2, .int x2)]) (st' := [.int ((-1))]) 1 rfl ?_
    cases hD
    exact k_iret rfl rfl
def e_Reader_takeStepNumber_23 (P : Nat → Nat → Nat) (F : Nat → Nat → Int32) (A : Nat → Nat → Nat → Int32) (J : Nat → Nat → Nat → Int64) (s1 : Int32) (s2 : Int32) : Option (Int32 × (Nat → Nat → Nat) × (Nat → Nat → Int32) × (Nat → Nat → Nat → Int32) × (Nat → Nat → Nat → Int64)) :=
    (e_Reader_takeNumber P F A J s1 s2).bind fun (v4, P5, F6, A7, J8) =>
    some (v4, P5, F6, A7, J8)
set_option maxRecDepth 10000 in
theorem t_e_Reader_takeStepNumber_23 (ht : ∀ ci k, t.1 ci k = k_ty ci k)  {P : Nat → Nat → Nat} {F : Nat → Nat → Int32} {A : Nat → Nat → Nat → Int32} {J : Nat → Nat → Nat → Int64} {s1 : Int32} {s2 : Int32}  {w : Int32 × (Nat → Nat → Nat) × (Nat → Nat → Int32) × (Nat → Nat → Nat → Int32) × (Nat → Nat → Nat → Int64)} : e_Reader_takeStepNumber_23 P F A J s1 s2 = some w → k_run t lg (d + 3) 51 23 [(0, .ref (37 * 1024))] [.int s2, .int s1, .ref (37 * 1024)] (c_h c B P F A J) (some (.int w.1), c_h c B w.2.1 w.2.2.1 w.2.2.2.1 w.2.2.2.2) := by
  intro hD
  unfold e_Reader_takeStepNumber_23 at hD
  obtain ⟨⟨v4, P5, F6, A7, J8⟩, hv4, hD⟩ := Option.bind_eq_some_iff.mp hD
  dsimp only at hD
  refine k_runV rfl rfl rfl (c_get (r := 37) (o := 0) (K := 11) rfl (by decide)) rfl rfl (t_e_Reader_takeNumber (d := d) ht hv4) ?_
  cases hD
  exact k_iret rfl rfl
/-- SleepWork$Reader.takeStepNumber(I)I  -/
def e_Reader_takeStepNumber (P : Nat → Nat → Nat) (F : Nat → Nat → Int32) (A : Nat → Nat → Nat → Int32) (J : Nat → Nat → Nat → Int64) (x1 : Int32) : Option (Int32 × (Nat → Nat → Nat) × (Nat → Nat → Int32) × (Nat → Nat → Nat → Int32) × (Nat → Nat → Nat → Int64)) :=
  cond (g_cnd .ge x1 0)
  ((c_chk 6 (P 37 5)).bind fun q2 =>
  (m_ld (A q2 5) 6 x1).bind fun v3 =>
  e_Reader_takeStepNumber_23 P F A J 0 (v3 - 1))
  (e_Reader_takeStepNumber_23 P F A J 0 9999)
set_option maxRecDepth 10000 in
theorem t_e_Reader_takeStepNumber (ht : ∀ ci k, t.1 ci k = k_ty ci k) {P : Nat → Nat → Nat} {F : Nat → Nat → Int32} {A : Nat → Nat → Nat → Int32} {J : Nat → Nat → Nat → Int64} {x1 : Int32}  {w : Int32 × (Nat → Nat → Nat) × (Nat → Nat → Int32) × (Nat → Nat → Nat → Int32) × (Nat → Nat → Nat → Int64)} : e_Reader_takeStepNumber P F A J x1 = some w → k_run t lg (d + 3) 51 0 [(0, .ref (37 * 1024)), (1, .int x1)] [] (c_h c B P F A J) (some (.int w.1), c_h c B w.2.1 w.2.2.1 w.2.2.2.1 w.2.2.2.2) := by
  intro hD
  unfold e_Reader_takeStepNumber at hD
  refine k_runB (pc' := 3) (loc' := [(0, .ref (37 * 1024)), (1, .int x1)]) (st' := [.int x1, .int 0, .ref (37 * 1024)]) 3 rfl ?_
  refine k_if rfl (fun c3_0 => ?_) (fun c3_0 => ?_)
  · rw [c3_0, cond_true] at hD
    refine k_runB (pc' := 13) (loc' := [(0, .ref (37 * 1024)), (1, .int x1)]) (st' := [.ref (37 * 1024), .int 0, .ref (37 * 1024)]) 1 rfl ?_
    obtain ⟨q2, hq2, hD⟩ := Option.bind_eq_some_iff.mp hD
    refine k_gq 37 0 (K := 11) (K2 := 6) (key := 5) rfl rfl rfl rfl rfl hq2 (fun kq2 => ?_)
    refine k_gf q2 0 (K := 6) kq2 rfl rfl rfl rfl ?_
    refine k_runB (pc' := 20) (loc' := [(0, .ref (37 * 1024)), (1, .int x1)]) (st' := [.int x1, .ref (q2 * 1024 + 5), .int 0, .ref (37 * 1024)]) 1 rfl ?_
    obtain ⟨v3, hv3, hD⟩ := Option.bind_eq_some_iff.mp hD
    refine k_ldI rfl (c_get (r := q2) (o := 5) (K := 6) kq2 (by decide)) hv3 ?_
    refine k_runB (pc' := 23) (loc' := [(0, .ref (37 * 1024)), (1, .int x1)]) (st' := [.int (v3 - 1), .int 0, .ref (37 * 1024)]) 2 rfl ?_
    refine k_wk [0] (loc' := [(0, .ref (37 * 1024))]) rfl rfl ?_
    exact t_e_Reader_takeStepNumber_23 ht   hD
  · rw [c3_0, cond_false] at hD
    refine k_runB (pc' := 23) (loc' := [(0, .ref (37 * 1024)), (1, .int x1)]) (st' := [.int 9999, .int 0, .ref (37 * 1024)]) 2 rfl ?_
    refine k_wk [0] (loc' := [(0, .ref (37 * 1024))]) rfl rfl ?_
    exact t_e_Reader_takeStepNumber_23 ht   hD
def e_Reader_readStep_107 (n : Nat) (P : Nat → Nat → Nat) (F : Nat → Nat → Int32) (A : Nat → Nat → Nat → Int32) (J : Nat → Nat → Nat → Int64) (x1 : Int32) (x2 : Int32) (x3 : Int32) (x4 : Int32) (x5 : Int32) (x6 : Int32) (x7 : Int32) : Option (Unit × (Nat → Nat → Nat) × (Nat → Nat → Int32) × (Nat → Nat → Nat → Int32) × (Nat → Nat → Nat → Int64)) :=
    (e_Reader_take P F A J 59).bind fun (v53, P54, F55, A56, J57) =>
    cond (g_cnd .eq v53 0)
    (some ((), P54, F55, A56, J57))
    (cond (g_cnd .lt x1 0)
    (some ((), P54, F55, A56, J57))
    ((c_chk 6 (P54 37 5)).bind fun q60 =>
    (m_ld (A56 q60 5) 6 x1).bind fun v61 =>
    (c_chk 6 (P54 37 5)).bind fun q62 =>
    (c_st A56 q62 6 36 ((x1 * 6) + v61) x2).bind fun A63 =>
    (c_chk 6 (P54 37 5)).bind fun q64 =>
    (c_st A63 q64 7 36 ((x1 * 6) + v61) x3).bind fun A65 =>
    (c_chk 6 (P54 37 5)).bind fun q66 =>
    (c_st A65 q66 8 36 ((x1 * 6) + v61) x4).bind fun A67 =>
    (c_chk 6 (P54 37 5)).bind fun q68 =>
    (c_st A67 q68 9 36 ((x1 * 6) + v61) x5).bind fun A69 =>
    (c_chk 6 (P54 37 5)).bind fun q70 =>
    (c_st A69 q70 10 36 ((x1 * 6) + v61) x6).bind fun A71 =>
    (c_chk 6 (P54 37 5)).bind fun q72 =>
    (c_st A71 q72 11 36 ((x1 * 6) + v61) x7).bind fun A73 =>
    (c_chk 6 (P54 37 5)).bind fun q74 =>
    (m_ld (A73 q74 5) 6 x1).bind fun v75 =>
    (c_st A73 q74 5 6 x1 (v75 + 1)).bind fun A76 =>
    some ((), P54, F55, A76, J57)))
set_option maxRecDepth 10000 in
theorem t_e_Reader_readStep_107 (ht : ∀ ci k, t.1 ci k = k_ty ci k) {n : Nat}  {P : Nat → Nat → Nat} {F : Nat → Nat → Int32} {A : Nat → Nat → Nat → Int32} {J : Nat → Nat → Nat → Int64} {x1 : Int32} {x2 : Int32} {x3 : Int32} {x4 : Int32} {x5 : Int32} {x6 : Int32} {x7 : Int32}  {w : Unit × (Nat → Nat → Nat) × (Nat → Nat → Int32) × (Nat → Nat → Nat → Int32) × (Nat → Nat → Nat → Int64)} : e_Reader_readStep_107 n P F A J x1 x2 x3 x4 x5 x6 x7 = some w → k_run t lg (d + 4) 56 107 [(0, .ref (37 * 1024)), (1, .int x1), (2, .int x2), (3, .int x3), (4, .int x4), (5, .int x5), (6, .int x6), (7, .int x7)] [] (c_h c B P F A J) (none, c_h c B w.2.1 w.2.2.1 w.2.2.2.1 w.2.2.2.2) := by
  intro hD
  unfold e_Reader_readStep_107 at hD
  refine k_runB (pc' := 110) (loc' := [(0, .ref (37 * 1024)), (1, .int x1), (2, .int x2), (3, .int x3), (4, .int x4), (5, .int x5), (6, .int x6), (7, .int x7)]) (st' := [.int 59, .ref (37 * 1024)]) 2 rfl ?_
  obtain ⟨⟨v53, P54, F55, A56, J57⟩, hv53, hD⟩ := Option.bind_eq_some_iff.mp hD
  dsimp only at hD
  refine k_runV rfl rfl rfl (c_get (r := 37) (o := 0) (K := 11) rfl (by decide)) rfl rfl (t_e_Reader_take (d := d + 2) ht hv53) ?_
  refine k_if rfl (fun c113_57 => ?_) (fun c113_57 => ?_)
  · rw [c113_57, cond_true] at hD
    cases hD
    exact k_vret rfl rfl
  · rw [c113_57, cond_false] at hD
    refine k_runB (pc' := 117) (loc' := [(0, .ref (37 * 1024)), (1, .int x1), (2, .int x2), (3, .int x3), (4, .int x4), (5, .int x5), (6, .int x6), (7, .int x7)]) (st' := [.int x1]) 1 rfl ?_
    refine k_if rfl (fun c117_58 => ?_) (fun c117_58 => ?_)
    · rw [c117_58, cond_true] at hD
      cases hD
      exact k_vret rfl rfl
    · rw [c117_58, cond_false] at hD
      refine k_runB (pc' := 125) (loc' := [(0, .ref (37 * 1024)), (1, .int x1), (2, .int x2), (3, .int x3), (4, .int x4), (5, .int x5), (6, .int x6), (7, .int x7)]) (st' := [.ref (37 * 1024), .int (x1 * 6)]) 4 rfl ?_
      obtain ⟨q60, hq60, hD⟩ := Option.bind_eq_some_iff.mp hD
      refine k_gq 37 0 (K := 11) (K2 := 6) (key := 5) rfl rfl rfl rfl rfl hq60 (fun kq60 => ?_)
      refine k_gf q60 0 (K := 6) kq60 rfl rfl rfl rfl ?_
      refine k_runB (pc' := 132) (loc' := [(0, .ref (37 * 1024)), (1, .int x1), (2, .int x2), (3, .int x3), (4, .int x4), (5, .int x5), (6, .int x6), (7, .int x7)]) (st' := [.int x1, .ref (q60 * 1024 + 5), .int (x1 * 6)]) 1 rfl ?_
      obtain ⟨v61, hv61, hD⟩ := Option.bind_eq_some_iff.mp hD
      refine k_ldI rfl (c_get (r := q60) (o := 5) (K := 6) kq60 (by decide)) hv61 ?_
      refine k_runB (pc' := 137) (loc' := [(0, .ref (37 * 1024)), (1, .int x1), (2, .int x2), (3, .int x3), (4, .int x4), (5, .int x5), (6, .int x6), (7, .int x7), (8, .int ((x1 * 6) + v61))]) (st' := [.ref (37 * 1024)]) 3 rfl ?_
      obtain ⟨q62, hq62, hD⟩ := Option.bind_eq_some_iff.mp hD
      refine k_gq 37 0 (K := 11) (K2 := 6) (key := 5) rfl rfl rfl rfl rfl hq62 (fun kq62 => ?_)
      refine k_gf q62 0 (K := 6) kq62 rfl rfl rfl rfl ?_
      refine k_runB (pc' := 146) (loc' := [(0, .ref (37 * 1024)), (1, .int x1), (2, .int x2), (3, .int x3), (4, .int x4), (5, .int x5), (6, .int x6), (7, .int x7), (8, .int ((x1 * 6) + v61))]) (st' := [.int x2, .int ((x1 * 6) + v61), .ref (q62 * 1024 + 6)]) 2 rfl ?_
      obtain ⟨A63, hA63, hD⟩ := Option.bind_eq_some_iff.mp hD
      refine k_cstI q62 6 (K := 6) kq62 rfl rfl rfl (fun _ => rfl) hA63 ?_
      refine k_runB (pc' := 148) (loc' := [(0, .ref (37 * 1024)), (1, .int x1), (2, .int x2), (3, .int x3), (4, .int x4), (5, .int x5), (6, .int x6), (7, .int x7), (8, .int ((x1 * 6) + v61))]) (st' := [.ref (37 * 1024)]) 1 rfl ?_
      obtain ⟨q64, hq64, hD⟩ := Option.bind_eq_some_iff.mp hD
      refine k_gq 37 0 (K := 11) (K2 := 6) (key := 5) rfl rfl rfl rfl rfl hq64 (fun kq64 => ?_)
      refine k_gf q64 0 (K := 6) kq64 rfl rfl rfl rfl ?_
      refine k_runB (pc' := 157) (loc' := [(0, .ref (37 * 1024)), (1, .int x1), (2, .int x2), (3, .int x3), (4, .int x4), (5, .int x5), (6, .int x6), (7, .int x7), (8, .int ((x1 * 6) + v61))]) (st' := [.int x3, .int ((x1 * 6) + v61), .ref (q64 * 1024 + 7)]) 2 rfl ?_
      obtain ⟨A65, hA65, hD⟩ := Option.bind_eq_some_iff.mp hD
      refine k_cstI q64 7 (K := 6) kq64 rfl rfl rfl (fun _ => rfl) hA65 ?_
      refine k_runB (pc' := 159) (loc' := [(0, .ref (37 * 1024)), (1, .int x1), (2, .int x2), (3, .int x3), (4, .int x4), (5, .int x5), (6, .int x6), (7, .int x7), (8, .int ((x1 * 6) + v61))]) (st' := [.ref (37 * 1024)]) 1 rfl ?_
      obtain ⟨q66, hq66, hD⟩ := Option.bind_eq_some_iff.mp hD
      refine k_gq 37 0 (K := 11) (K2 := 6) (key := 5) rfl rfl rfl rfl rfl hq66 (fun kq66 => ?_)
      refine k_gf q66 0 (K := 6) kq66 rfl rfl rfl rfl ?_
      refine k_runB (pc' := 169) (loc' := [(0, .ref (37 * 1024)), (1, .int x1), (2, .int x2), (3, .int x3), (4, .int x4), (5, .int x5), (6, .int x6), (7, .int x7), (8, .int ((x1 * 6) + v61))]) (st' := [.int x4, .int ((x1 * 6) + v61), .ref (q66 * 1024 + 8)]) 2 rfl ?_
      obtain ⟨A67, hA67, hD⟩ := Option.bind_eq_some_iff.mp hD
      refine k_cstI q66 8 (K := 6) kq66 rfl rfl rfl (fun _ => rfl) hA67 ?_
      refine k_runB (pc' := 171) (loc' := [(0, .ref (37 * 1024)), (1, .int x1), (2, .int x2), (3, .int x3), (4, .int x4), (5, .int x5), (6, .int x6), (7, .int x7), (8, .int ((x1 * 6) + v61))]) (st' := [.ref (37 * 1024)]) 1 rfl ?_
      obtain ⟨q68, hq68, hD⟩ := Option.bind_eq_some_iff.mp hD
      refine k_gq 37 0 (K := 11) (K2 := 6) (key := 5) rfl rfl rfl rfl rfl hq68 (fun kq68 => ?_)
      refine k_gf q68 0 (K := 6) kq68 rfl rfl rfl rfl ?_
      refine k_runB (pc' := 181) (loc' := [(0, .ref (37 * 1024)), (1, .int x1), (2, .int x2), (3, .int x3), (4, .int x4), (5, .int x5), (6, .int x6), (7, .int x7), (8, .int ((x1 * 6) + v61))]) (st' := [.int x5, .int ((x1 * 6) + v61), .ref (q68 * 1024 + 9)]) 2 rfl ?_
      obtain ⟨A69, hA69, hD⟩ := Option.bind_eq_some_iff.mp hD
      refine k_cstI q68 9 (K := 6) kq68 rfl rfl rfl (fun _ => rfl) hA69 ?_
      refine k_runB (pc' := 183) (loc' := [(0, .ref (37 * 1024)), (1, .int x1), (2, .int x2), (3, .int x3), (4, .int x4), (5, .int x5), (6, .int x6), (7, .int x7), (8, .int ((x1 * 6) + v61))]) (st' := [.ref (37 * 1024)]) 1 rfl ?_
      obtain ⟨q70, hq70, hD⟩ := Option.bind_eq_some_iff.mp hD
      refine k_gq 37 0 (K := 11) (K2 := 6) (key := 5) rfl rfl rfl rfl rfl hq70 (fun kq70 => ?_)
      refine k_gf q70 0 (K := 6) kq70 rfl rfl rfl rfl ?_
      refine k_runB (pc' := 193) (loc' := [(0, .ref (37 * 1024)), (1, .int x1), (2, .int x2), (3, .int x3), (4, .int x4), (5, .int x5), (6, .int x6), (7, .int x7), (8, .int ((x1 * 6) + v61))]) (st' := [.int x6, .int ((x1 * 6) + v61), .ref (q70 * 1024 + 10)]) 2 rfl ?_
      obtain ⟨A71, hA71, hD⟩ := Option.bind_eq_some_iff.mp hD
      refine k_cstI q70 10 (K := 6) kq70 rfl rfl rfl (fun _ => rfl) hA71 ?_
      refine k_runB (pc' := 195) (loc' := [(0, .ref (37 * 1024)), (1, .int x1), (2, .int x2), (3, .int x3), (4, .int x4), (5, .int x5), (6, .int x6), (7, .int x7), (8, .int ((x1 * 6) + v61))]) (st' := [.ref (37 * 1024)]) 1 rfl ?_
      obtain ⟨q72, hq72, hD⟩ := Option.bind_eq_some_iff.mp hD
      refine k_gq 37 0 (K := 11) (K2 := 6) (key := 5) rfl rfl rfl rfl rfl hq72 (fun kq72 => ?_)
      refine k_gf q72 0 (K := 6) kq72 rfl rfl rfl rfl ?_
      refine k_runB (pc' := 205) (loc' := [(0, .ref (37 * 1024)), (1, .int x1), (2, .int x2), (3, .int x3), (4, .int x4), (5, .int x5), (6, .int x6), (7, .int x7), (8, .int ((x1 * 6) + v61))]) (st' := [.int x7, .int ((x1 * 6) + v61), .ref (q72 * 1024 + 11)]) 2 rfl ?_
      obtain ⟨A73, hA73, hD⟩ := Option.bind_eq_some_iff.mp hD
      refine k_cstI q72 11 (K := 6) kq72 rfl rfl rfl (fun _ => rfl) hA73 ?_
      refine k_runB (pc' := 207) (loc' := [(0, .ref (37 * 1024)), (1, .int x1), (2, .int x2), (3, .int x3), (4, .int x4), (5, .int x5), (6, .int x6), (7, .int x7), (8, .int ((x1 * 6) + v61))]) (st' := [.ref (37 * 1024)]) 1 rfl ?_
      obtain ⟨q74, hq74, hD⟩ := Option.bind_eq_some_iff.mp hD
      refine k_gq 37 0 (K := 11) (K2 := 6) (key := 5) rfl rfl rfl rfl rfl hq74 (fun kq74 => ?_)
      refine k_gf q74 0 (K := 6) kq74 rfl rfl rfl rfl ?_
      refine k_runB (pc' := 215) (loc' := [(0, .ref (37 * 1024)), (1, .int x1), (2, .int x2), (3, .int x3), (4, .int x4), (5, .int x5), (6, .int x6), (7, .int x7), (8, .int ((x1 * 6) + v61))]) (st' := [.int x1, .ref (q74 * 1024 + 5), .int x1, .ref (q74 * 1024 + 5)]) 2 rfl ?_
      obtain ⟨v75, hv75, hD⟩ := Option.bind_eq_some_iff.mp hD
      refine k_ldI rfl (c_get (r := q74) (o := 5) (K := 6) kq74 (by decide)) hv75 ?_
      refine k_runB (pc' := 218) (loc' := [(0, .ref (37 * 1024)), (1, .int x1), (2, .int x2), (3, .int x3), (4, .int x4), (5, .int x5), (6, .int x6), (7, .int x7), (8, .int ((x1 * 6) + v61))]) (st' := [.int (v75 + 1), .int x1, .ref (q74 * 1024 + 5)]) 2 rfl ?_
      obtain ⟨A76, hA76, hD⟩ := Option.bind_eq_some_iff.mp hD
      refine k_cstI q74 5 (K := 6) kq74 rfl rfl rfl (fun _ => rfl) hA76 ?_
      cases hD
      exact k_vret rfl rfl
def e_Reader_readStep_78 (n : Nat) (P : Nat → Nat → Nat) (F : Nat → Nat → Int32) (A : Nat → Nat → Nat → Int32) (J : Nat → Nat → Nat → Int64) (x1 : Int32) (x2 : Int32) (x3 : Int32) (x4 : Int32) (x5 : Int32) (x6 : Int32) : Option (Unit × (Nat → Nat → Nat) × (Nat → Nat → Int32) × (Nat → Nat → Nat → Int32) × (Nat → Nat → Nat → Int64)) :=
    (e_Reader_isNext P F A J 10).bind fun v40 =>
    cond (g_cnd .eq v40 0)
    (e_Reader_readStep_107 n P F A J x1 x2 x3 x4 x5 x6 ((-2)))
    ((e_Reader_take P F A J 10).bind fun (v42, P43, F44, A45, J46) =>
    cond (g_cnd .eq v42 0)
    (e_Reader_readStep_107 n P43 F44 A45 J46 x1 x2 x3 x4 x5 x6 ((-2)))
    ((e_Reader_takeStepNumber P43 F44 A45 J46 x1).bind fun (v48, P49, F50, A51, J52) =>
    e_Reader_readStep_107 n P49 F50 A51 J52 x1 x2 x3 x4 x5 x6 v48))
set_option maxRecDepth 10000 in
theorem t_e_Reader_readStep_78 (ht : ∀ ci k, t.1 ci k = k_ty ci k) {n : Nat}  {P : Nat → Nat → Nat} {F : Nat → Nat → Int32} {A : Nat → Nat → Nat → Int32} {J : Nat → Nat → Nat → Int64} {x1 : Int32} {x2 : Int32} {x3 : Int32} {x4 : Int32} {x5 : Int32} {x6 : Int32}  {w : Unit × (Nat → Nat → Nat) × (Nat → Nat → Int32) × (Nat → Nat → Nat → Int32) × (Nat → Nat → Nat → Int64)} : e_Reader_readStep_78 n P F A J x1 x2 x3 x4 x5 x6 = some w → k_run t lg (d + 4) 56 78 [(0, .ref (37 * 1024)), (1, .int x1), (2, .int x2), (3, .int x3), (4, .int x4), (5, .int x5), (6, .int x6)] [] (c_h c B P F A J) (none, c_h c B w.2.1 w.2.2.1 w.2.2.2.1 w.2.2.2.2) := by
  intro hD
  unfold e_Reader_readStep_78 at hD
  refine k_runB (pc' := 85) (loc' := [(0, .ref (37 * 1024)), (1, .int x1), (2, .int x2), (3, .int x3), (4, .int x4), (5, .int x5), (6, .int x6), (7, .int ((-2)))]) (st' := [.int 10, .ref (37 * 1024)]) 4 rfl ?_
  obtain ⟨v40, hv40, hD⟩ := Option.bind_eq_some_iff.mp hD
  refine k_runV rfl rfl rfl (c_get (r := 37) (o := 0) (K := 11) rfl (by decide)) rfl rfl (t_e_Reader_isNext (d := d + 3) hv40) ?_
  refine k_if rfl (fun c88_40 => ?_) (fun c88_40 => ?_)
  · rw [c88_40, cond_true] at hD
    refine k_wk [0, 1, 2, 3, 4, 5, 6, 7] (loc' := [(0, .ref (37 * 1024)), (1, .int x1), (2, .int x2), (3, .int x3), (4, .int x4), (5, .int x5), (6, .int x6), (7, .int ((-2)))]) rfl rfl ?_
    exact t_e_Reader_readStep_107 ht   hD
  · rw [c88_40, cond_false] at hD
    refine k_runB (pc' := 94) (loc' := [(0, .ref (37 * 1024)), (1, .int x1), (2, .int x2), (3, .int x3), (4, .int x4), (5, .int x5), (6, .int x6), (7, .int ((-2)))]) (st' := [.int 10, .ref (37 * 1024)]) 2 rfl ?_
    obtain ⟨⟨v42, P43, F44, A45, J46⟩, hv42, hD⟩ := Option.bind_eq_some_iff.mp hD
    dsimp only at hD
    refine k_runV rfl rfl rfl (c_get (r := 37) (o := 0) (K := 11) rfl (by decide)) rfl rfl (t_e_Reader_take (d := d + 2) ht hv42) ?_
    refine k_if rfl (fun c97_46 => ?_) (fun c97_46 => ?_)
    · rw [c97_46, cond_true] at hD
      refine k_wk [0, 1, 2, 3, 4, 5, 6, 7] (loc' := [(0, .ref (37 * 1024)), (1, .int x1), (2, .int x2), (3, .int x3), (4, .int x4), (5, .int x5), (6, .int x6), (7, .int ((-2)))]) rfl rfl ?_
      exact t_e_Reader_readStep_107 ht   hD
    · rw [c97_46, cond_false] at hD
      refine k_runB (pc' := 102) (loc' := [(0, .ref (37 * 1024)), (1, .int x1), (2, .int x2), (3, .int x3), (4, .int x4), (5, .int x5), (6, .int x6), (7, .int ((-2)))]) (st' := [.int x1, .ref (37 * 1024)]) 2 rfl ?_
      obtain ⟨⟨v48, P49, F50, A51, J52⟩, hv48, hD⟩ := Option.bind_eq_some_iff.mp hD
      dsimp only at hD
      refine k_runV rfl rfl rfl (c_get (r := 37) (o := 0) (K := 11) rfl (by decide)) rfl rfl (t_e_Reader_takeStepNumber (d := d) ht hv48) ?_
      refine k_runB (pc' := 107) (loc' := [(0, .ref (37 * 1024)), (1, .int x1), (2, .int x2), (3, .int x3), (4, .int x4), (5, .int x5), (6, .int x6), (7, .int v48)]) (st' := []) 1 rfl ?_
      refine k_wk [0, 1, 2, 3, 4, 5, 6, 7] (loc' := [(0, .ref (37 * 1024)), (1, .int x1), (2, .int x2), (3, .int x3), (4, .int x4), (5, .int x5), (6, .int x6), (7, .int v48)]) rfl rfl ?_
      exact t_e_Reader_readStep_107 ht   hD
/-- SleepWork$Reader.readStep()V  -/
def e_Reader_readStep (n : Nat) (P : Nat → Nat → Nat) (F : Nat → Nat → Int32) (A : Nat → Nat → Nat → Int32) (J : Nat → Nat → Nat → Int64) : Option (Unit × (Nat → Nat → Nat) × (Nat → Nat → Int32) × (Nat → Nat → Nat → Int32) × (Nat → Nat → Nat → Int64)) :=
  (e_Reader_takeTaskOfStep n P F A J).bind fun (v1, P2, F3, A4, J5) =>
  (e_Reader_takeNumber P2 F3 A4 J5 1 120).bind fun (v6, P7, F8, A9, J10) =>
  (e_Reader_takeNumber P7 F8 A9 J10 0 99).bind fun (v11, P12, F13, A14, J15) =>
  (e_Reader_takeNumber P12 F13 A14 J15 0 99).bind fun (v16, P17, F18, A19, J20) =>
  (e_Reader_takeNumber P17 F18 A19 J20 0 99).bind fun (v21, P22, F23, A24, J25) =>
  (e_Reader_isNext P22 F23 A24 J25 9).bind fun v26 =>
  cond (g_cnd .eq v26 0)
  (e_Reader_readStep_78 n P22 F23 A24 J25 v1 v6 v11 v16 v21 ((-2)))
  ((e_Reader_take P22 F23 A24 J25 9).bind fun (v28, P29, F30, A31, J32) =>
  cond (g_cnd .eq v28 0)
  (e_Reader_readStep_78 n P29 F30 A31 J32 v1 v6 v11 v16 v21 ((-2)))
  ((c_chk 6 (P29 37 5)).bind fun q34 =>
  (e_Reader_takeKnownName_v2 n P29 F30 A31 J32 (F30 q34 15)).bind fun (v35, P36, F37, A38, J39) =>
  e_Reader_readStep_78 n P36 F37 A38 J39 v1 v6 v11 v16 v21 v35))
set_option maxRecDepth 10000 in
theorem t_e_Reader_readStep (ht : ∀ ci k, t.1 ci k = k_ty ci k) {n : Nat} {P : Nat → Nat → Nat} {F : Nat → Nat → Int32} {A : Nat → Nat → Nat → Int32} {J : Nat → Nat → Nat → Int64}   {w : Unit × (Nat → Nat → Nat) × (Nat → Nat → Int32) × (Nat → Nat → Nat → Int32) × (Nat → Nat → Nat → Int64)} : e_Reader_readStep n P F A J = some w → k_run t lg (d + 4) 56 0 [(0, .ref (37 * 1024))] [] (c_h c B P F A J) (none, c_h c B w.2.1 w.2.2.1 w.2.2.2.1 w.2.2.2.2) := by
  intro hD
  unfold e_Reader_readStep at hD
  refine k_runB (pc' := 1) (loc' := [(0, .ref (37 * 1024))]) (st' := [.ref (37 * 1024)]) 1 rfl ?_
  obtain ⟨⟨v1, P2, F3, A4, J5⟩, hv1, hD⟩ := Option.bind_eq_some_iff.mp hD
  dsimp only at hD
  refine k_runV rfl rfl rfl (c_get (r := 37) (o := 0) (K := 11) rfl (by decide)) rfl rfl (t_e_Reader_takeTaskOfStep (d := d) ht hv1) ?_
  refine k_runB (pc' := 9) (loc' := [(0, .ref (37 * 1024)), (1, .int v1)]) (st' := [.int 120, .int 1, .ref (37 * 1024)]) 4 rfl ?_
  obtain ⟨⟨v6, P7, F8, A9, J10⟩, hv6, hD⟩ := Option.bind_eq_some_iff.mp hD
  dsimp only at hD
  refine k_runV rfl rfl rfl (c_get (r := 37) (o := 0) (K := 11) rfl (by decide)) rfl rfl (t_e_Reader_takeNumber (d := d + 1) ht hv6) ?_
  refine k_runB (pc' := 17) (loc' := [(0, .ref (37 * 1024)), (1, .int v1), (2, .int v6)]) (st' := [.int 99, .int 0, .ref (37 * 1024)]) 4 rfl ?_
  obtain ⟨⟨v11, P12, F13, A14, J15⟩, hv11, hD⟩ := Option.bind_eq_some_iff.mp hD
  dsimp only at hD
  refine k_runV rfl rfl rfl (c_get (r := 37) (o := 0) (K := 11) rfl (by decide)) rfl rfl (t_e_Reader_takeNumber (d := d + 1) ht hv11) ?_
  refine k_runB (pc' := 25) (loc' := [(0, .ref (37 * 1024)), (1, .int v1), (2, .int v6), (3, .int v11)]) (st' := [.int 99, .int 0, .ref (37 * 1024)]) 4 rfl ?_
  obtain ⟨⟨v16, P17, F18, A19, J20⟩, hv16, hD⟩ := Option.bind_eq_some_iff.mp hD
  dsimp only at hD
  refine k_runV rfl rfl rfl (c_get (r := 37) (o := 0) (K := 11) rfl (by decide)) rfl rfl (t_e_Reader_takeNumber (d := d + 1) ht hv16) ?_
  refine k_runB (pc' := 34) (loc' := [(0, .ref (37 * 1024)), (1, .int v1), (2, .int v6), (3, .int v11), (4, .int v16)]) (st' := [.int 99, .int 0, .ref (37 * 1024)]) 4 rfl ?_
  obtain ⟨⟨v21, P22, F23, A24, J25⟩, hv21, hD⟩ := Option.bind_eq_some_iff.mp hD
  dsimp only at hD
  refine k_runV rfl rfl rfl (c_get (r := 37) (o := 0) (K := 11) rfl (by decide)) rfl rfl (t_e_Reader_takeNumber (d := d + 1) ht hv21) ?_
  refine k_runB (pc' := 46) (loc' := [(0, .ref (37 * 1024)), (1, .int v1), (2, .int v6), (3, .int v11), (4, .int v16), (5, .int v21), (6, .int ((-2)))]) (st' := [.int 9, .ref (37 * 1024)]) 5 rfl ?_
  obtain ⟨v26, hv26, hD⟩ := Option.bind_eq_some_iff.mp hD
  refine k_runV rfl rfl rfl (c_get (r := 37) (o := 0) (K := 11) rfl (by decide)) rfl rfl (t_e_Reader_isNext (d := d + 3) hv26) ?_
  refine k_if rfl (fun c49_26 => ?_) (fun c49_26 => ?_)
  · rw [c49_26, cond_true] at hD
    refine k_wk [0, 1, 2, 3, 4, 5, 6] (loc' := [(0, .ref (37 * 1024)), (1, .int v1), (2, .int v6), (3, .int v11), (4, .int v16), (5, .int v21), (6, .int ((-2)))]) rfl rfl ?_
    exact t_e_Reader_readStep_78 ht   hD
  · rw [c49_26, cond_false] at hD
    refine k_runB (pc' := 55) (loc' := [(0, .ref (37 * 1024)), (1, .int v1), (2, .int v6), (3, .int v11), (4, .int v16), (5, .int v21), (6, .int ((-2)))]) (st' := [.int 9, .ref (37 * 1024)]) 2 rfl ?_
    obtain ⟨⟨v28, P29, F30, A31, J32⟩, hv28, hD⟩ := Option.bind_eq_some_iff.mp hD
    dsimp only at hD
    refine k_runV rfl rfl rfl (c_get (r := 37) (o := 0) (K := 11) rfl (by decide)) rfl rfl (t_e_Reader_take (d := d + 2) ht hv28) ?_
    refine k_if rfl (fun c58_32 => ?_) (fun c58_32 => ?_)
    · rw [c58_32, cond_true] at hD
      refine k_wk [0, 1, 2, 3, 4, 5, 6] (loc' := [(0, .ref (37 * 1024)), (1, .int v1), (2, .int v6), (3, .int v11), (4, .int v16), (5, .int v21), (6, .int ((-2)))]) rfl rfl ?_
      exact t_e_Reader_readStep_78 ht   hD
    · rw [c58_32, cond_false] at hD
      refine k_runB (pc' := 63) (loc' := [(0, .ref (37 * 1024)), (1, .int v1), (2, .int v6), (3, .int v11), (4, .int v16), (5, .int v21), (6, .int ((-2)))]) (st' := [.ref (37 * 1024), .ref (37 * 1024)]) 2 rfl ?_
      refine k_gf 37 0 (K := 11) rfl rfl rfl rfl rfl ?_
      refine k_runB (pc' := 67) (loc' := [(0, .ref (37 * 1024)), (1, .int v1), (2, .int v6), (3, .int v11), (4, .int v16), (5, .int v21), (6, .int ((-2)))]) (st' := [.ref (37 * 1024), .ref (37 * 1024 + 8), .ref (37 * 1024)]) 1 rfl ?_
      obtain ⟨q34, hq34, hD⟩ := Option.bind_eq_some_iff.mp hD
      refine k_gq 37 0 (K := 11) (K2 := 6) (key := 5) rfl rfl rfl rfl rfl hq34 (fun kq34 => ?_)
      refine k_gf q34 0 (K := 6) kq34 rfl rfl rfl rfl ?_
      obtain ⟨⟨v35, P36, F37, A38, J39⟩, hv35, hD⟩ := Option.bind_eq_some_iff.mp hD
      dsimp only at hD
      refine k_runV rfl rfl rfl (c_get (r := 37) (o := 0) (K := 11) rfl (by decide)) rfl rfl (t_e_Reader_takeKnownName_v2 (d := d + 1) ht hv35) ?_
      refine k_runB (pc' := 78) (loc' := [(0, .ref (37 * 1024)), (1, .int v1), (2, .int v6), (3, .int v11), (4, .int v16), (5, .int v21), (6, .int v35)]) (st' := []) 1 rfl ?_
      refine k_wk [0, 1, 2, 3, 4, 5, 6] (loc' := [(0, .ref (37 * 1024)), (1, .int v1), (2, .int v6), (3, .int v11), (4, .int v16), (5, .int v21), (6, .int v35)]) rfl rfl ?_
      exact t_e_Reader_readStep_78 ht   hD
def e_Reader_takeNewName_v3_106 (n : Nat) (P : Nat → Nat → Nat) (F : Nat → Nat → Int32) (A : Nat → Nat → Nat → Int32) (J : Nat → Nat → Nat → Int64) (x2 : Int32) (x3 : Int64) : Option (Unit × (Nat → Nat → Nat) × (Nat → Nat → Int32) × (Nat → Nat → Nat → Int32) × (Nat → Nat → Nat → Int64)) :=
    (c_stJ J 37 10 6 x2 x3).bind fun J27 =>
    some ((), P, F, A, J27)
set_option maxRecDepth 10000 in
theorem t_e_Reader_takeNewName_v3_106 (ht : ∀ ci k, t.1 ci k = k_ty ci k) {n : Nat}  {P : Nat → Nat → Nat} {F : Nat → Nat → Int32} {A : Nat → Nat → Nat → Int32} {J : Nat → Nat → Nat → Int64} {x2 : Int32} {x3 : Int64}  {w : Unit × (Nat → Nat → Nat) × (Nat → Nat → Int32) × (Nat → Nat → Nat → Int32) × (Nat → Nat → Nat → Int64)} : e_Reader_takeNewName_v3_106 n P F A J x2 x3 = some w → k_run t lg (d + 2) 47 106 [(0, .ref (37 * 1024)), (1, .ref (37 * 1024 + 10)), (2, .int x2), (3, .long (x3))] [] (c_h c B P F A J) (none, c_h c B w.2.1 w.2.2.1 w.2.2.2.1 w.2.2.2.2) := by
  intro hD
  unfold e_Reader_takeNewName_v3_106 at hD
  refine k_runB (pc' := 109) (loc' := [(0, .ref (37 * 1024)), (1, .ref (37 * 1024 + 10)), (2, .int x2), (3, .long (x3))]) (st' := [.long (x3), .int x2, .ref (37 * 1024 + 10)]) 3 rfl ?_
  obtain ⟨J27, hJ27, hD⟩ := Option.bind_eq_some_iff.mp hD
  refine k_cstL 37 10 (K := 11) rfl rfl rfl rfl (fun _ => rfl) hJ27 ?_
  cases hD
  exact k_vret rfl rfl
def e_Reader_takeNewName_v3_101 (n : Nat) (P : Nat → Nat → Nat) (F : Nat → Nat → Int32) (A : Nat → Nat → Nat → Int32) (J : Nat → Nat → Nat → Int64) (x2 : Int32) (x3 : Int64) : Option (Unit × (Nat → Nat → Nat) × (Nat → Nat → Int32) × (Nat → Nat → Nat → Int32) × (Nat → Nat → Nat → Int64)) :=
    (e_Reader_failLate P F A J 3).bind fun (_, P22, F23, A24, J25) =>
    (c_stJ J25 37 10 6 x2 x3).bind fun J26 =>
    some ((), P22, F23, A24, J26)
set_option maxRecDepth 10000 in
theorem t_e_Reader_takeNewName_v3_101 (ht : ∀ ci k, t.1 ci k = k_ty ci k) {n : Nat}  {P : Nat → Nat → Nat} {F : Nat → Nat → Int32} {A : Nat → Nat → Nat → Int32} {J : Nat → Nat → Nat → Int64} {x2 : Int32} {x3 : Int64}  {w : Unit × (Nat → Nat → Nat) × (Nat → Nat → Int32) × (Nat → Nat → Nat → Int32) × (Nat → Nat → Nat → Int64)} : e_Reader_takeNewName_v3_101 n P F A J x2 x3 = some w → k_run t lg (d + 2) 47 101 [(0, .ref (37 * 1024)), (1, .ref (37 * 1024 + 10)), (2, .int x2), (3, .long (x3))] [] (c_h c B P F A J) (none, c_h c B w.2.1 w.2.2.1 w.2.2.2.1 w.2.2.2.2) := by
  intro hD
  unfold e_Reader_takeNewName_v3_101 at hD
  refine k_runB (pc' := 103) (loc' := [(0, .ref (37 * 1024)), (1, .ref (37 * 1024 + 10)), (2, .int x2), (3, .long (x3))]) (st' := [.int 3, .ref (37 * 1024)]) 2 rfl ?_
  obtain ⟨⟨v21, P22, F23, A24, J25⟩, hv21, hD⟩ := Option.bind_eq_some_iff.mp hD
  dsimp only at hD
  refine k_runV rfl rfl rfl (c_get (r := 37) (o := 0) (K := 11) rfl (by decide)) rfl rfl (t_e_Reader_failLate (d := d + 1) ht hv21) ?_
  refine k_runB (pc' := 109) (loc' := [(0, .ref (37 * 1024)), (1, .ref (37 * 1024 + 10)), (2, .int x2), (3, .long (x3))]) (st' := [.long (x3), .int x2, .ref (37 * 1024 + 10)]) 3 rfl ?_
  obtain ⟨J26, hJ26, hD⟩ := Option.bind_eq_some_iff.mp hD
  refine k_cstL 37 10 (K := 11) rfl rfl rfl rfl (fun _ => rfl) hJ26 ?_
  cases hD
  exact k_vret rfl rfl
/-- SleepWork$Reader.takeNewName([JI)V  -/
def e_Reader_takeNewName_v3 (n : Nat) (P : Nat → Nat → Nat) (F : Nat → Nat → Int32) (A : Nat → Nat → Nat → Int32) (J : Nat → Nat → Nat → Int64) (x2 : Int32) : Option (Unit × (Nat → Nat → Nat) × (Nat → Nat → Int32) × (Nat → Nat → Nat → Int32) × (Nat → Nat → Nat → Int64)) :=
  (e_Reader_take P F A J 100).bind fun (v1, P2, F3, A4, J5) =>
  cond (g_cnd .eq v1 0)
  (some ((), P2, F3, A4, J5))
  (cond (g_cnd .lt x2 (Int32.ofNat 6))
  ((m_ldJ (J5 37 5) 401 (F3 37 8)).bind fun v8 =>
  (c_chk 6 (P2 37 5)).bind fun q9 =>
  (e_Reader_find n P2 F3 A4 J5 v8 (F3 q9 13)).bind fun v10 =>
  cond (g_cnd .ge v10 0)
  (e_Reader_takeNewName_v3_101 n P2 F3 A4 J5 x2 v8)
  ((c_chk 6 (P2 37 5)).bind fun q12 =>
  (e_Reader_find_v1 n P2 F3 A4 J5 v8 (F3 q12 15)).bind fun v13 =>
  cond (g_cnd .ge v13 0)
  (e_Reader_takeNewName_v3_101 n P2 F3 A4 J5 x2 v8)
  ((c_chk 6 (P2 37 5)).bind fun q15 =>
  (e_Reader_find_v2 n P2 F3 A4 J5 v8 (F3 q15 16)).bind fun v16 =>
  cond (g_cnd .ge v16 0)
  (e_Reader_takeNewName_v3_101 n P2 F3 A4 J5 x2 v8)
  ((c_chk 6 (P2 37 5)).bind fun q18 =>
  (e_Reader_find_v3 n P2 F3 A4 J5 v8 (F3 q18 17)).bind fun v19 =>
  cond (g_cnd .lt v19 0)
  (e_Reader_takeNewName_v3_106 n P2 F3 A4 J5 x2 v8)
  (e_Reader_takeNewName_v3_101 n P2 F3 A4 J5 x2 v8)))))
  (some ((), P2, F3, A4, J5)))
set_option maxRecDepth 10000 in
theorem t_e_Reader_takeNewName_v3 (ht : ∀ ci k, t.1 ci k = k_ty ci k) {n : Nat} {P : Nat → Nat → Nat} {F : Nat → Nat → Int32} {A : Nat → Nat → Nat → Int32} {J : Nat → Nat → Nat → Int64} {x2 : Int32}  {w : Unit × (Nat → Nat → Nat) × (Nat → Nat → Int32) × (Nat → Nat → Nat → Int32) × (Nat → Nat → Nat → Int64)} : e_Reader_takeNewName_v3 n P F A J x2 = some w → k_run t lg (d + 2) 47 0 [(0, .ref (37 * 1024)), (1, .ref (37 * 1024 + 10)), (2, .int x2)] [] (c_h c B P F A J) (none, c_h c B w.2.1 w.2.2.1 w.2.2.2.1 w.2.2.2.2) := by
  intro hD
  unfold e_Reader_takeNewName_v3 at hD
  refine k_runB (pc' := 3) (loc' := [(0, .ref (37 * 1024)), (1, .ref (37 * 1024 + 10)), (2, .int x2)]) (st' := [.int 100, .ref (37 * 1024)]) 2 rfl ?_
  obtain ⟨⟨v1, P2, F3, A4, J5⟩, hv1, hD⟩ := Option.bind_eq_some_iff.mp hD
  dsimp only at hD
  refine k_runV rfl rfl rfl (c_get (r := 37) (o := 0) (K := 11) rfl (by decide)) rfl rfl (t_e_Reader_take (d := d) ht hv1) ?_
  refine k_if rfl (fun c6_5 => ?_) (fun c6_5 => ?_)
  · rw [c6_5, cond_true] at hD
    cases hD
    exact k_vret rfl rfl
  · rw [c6_5, cond_false] at hD
    refine k_runB (pc' := 11) (loc' := [(0, .ref (37 * 1024)), (1, .ref (37 * 1024 + 10)), (2, .int x2)]) (st' := [.ref (37 * 1024 + 10), .int x2]) 2 rfl ?_
    refine k_cln 37 10 (K := 11) rfl rfl rfl rfl ?_
    refine k_ic rfl (fun c12_6 => ?_) (fun c12_6 => ?_)
    · rw [c12_6, cond_true] at hD
      refine k_runB (pc' := 17) (loc' := [(0, .ref (37 * 1024)), (1, .ref (37 * 1024 + 10)), (2, .int x2)]) (st' := [.ref (37 * 1024)]) 1 rfl ?_
      refine k_gf 37 0 (K := 11) rfl rfl rfl rfl rfl ?_
      refine k_gf 37 1 (K := 11) rfl rfl rfl rfl rfl ?_
      refine k_runB (pc' := 24) (loc' := [(0, .ref (37 * 1024)), (1, .ref (37 * 1024 + 10)), (2, .int x2)]) (st' := [.ref (37 * 1024), .ref (37 * 1024 + 5)]) 1 rfl ?_
      refine k_gf 37 0 (K := 11) rfl rfl rfl rfl rfl ?_
      obtain ⟨v8, hv8, hD⟩ := Option.bind_eq_some_iff.mp hD
      refine k_ldL rfl (c_get (r := 37) (o := 5) (K := 11) rfl (by decide)) hv8 ?_
      refine k_runB (pc' := 31) (loc' := [(0, .ref (37 * 1024)), (1, .ref (37 * 1024 + 10)), (2, .int x2), (3, .long (v8))]) (st' := [.ref (37 * 1024), .long (v8)]) 3 rfl ?_
      refine k_gf 37 0 (K := 11) rfl rfl rfl rfl rfl ?_
      refine k_runB (pc' := 35) (loc' := [(0, .ref (37 * 1024)), (1, .ref (37 * 1024 + 10)), (2, .int x2), (3, .long (v8))]) (st' := [.ref (37 * 1024), .ref (37 * 1024 + 7), .long (v8)]) 1 rfl ?_
      obtain ⟨q9, hq9, hD⟩ := Option.bind_eq_some_iff.mp hD
      refine k_gq 37 0 (K := 11) (K2 := 6) (key := 5) rfl rfl rfl rfl rfl hq9 (fun kq9 => ?_)
      refine k_gf q9 0 (K := 6) kq9 rfl rfl rfl rfl ?_
      obtain ⟨v10, hv10, hD⟩ := Option.bind_eq_some_iff.mp hD
      refine k_runC rfl rfl rfl rfl (t_e_Reader_find (d := d + 1) hv10) ?_
      refine k_if rfl (fun c44_10 => ?_) (fun c44_10 => ?_)
      · rw [c44_10, cond_true] at hD
        refine k_wk [0, 1, 2, 3] (loc' := [(0, .ref (37 * 1024)), (1, .ref (37 * 1024 + 10)), (2, .int x2), (3, .long (v8))]) rfl rfl ?_
        exact t_e_Reader_takeNewName_v3_101 ht   hD
      · rw [c44_10, cond_false] at hD
        refine k_runB (pc' := 49) (loc' := [(0, .ref (37 * 1024)), (1, .ref (37 * 1024 + 10)), (2, .int x2), (3, .long (v8))]) (st' := [.ref (37 * 1024), .long (v8)]) 2 rfl ?_
        refine k_gf 37 0 (K := 11) rfl rfl rfl rfl rfl ?_
        refine k_runB (pc' := 53) (loc' := [(0, .ref (37 * 1024)), (1, .ref (37 * 1024 + 10)), (2, .int x2), (3, .long (v8))]) (st' := [.ref (37 * 1024), .ref (37 * 1024 + 8), .long (v8)]) 1 rfl ?_
        obtain ⟨q12, hq12, hD⟩ := Option.bind_eq_some_iff.mp hD
        refine k_gq 37 0 (K := 11) (K2 := 6) (key := 5) rfl rfl rfl rfl rfl hq12 (fun kq12 => ?_)
        refine k_gf q12 0 (K := 6) kq12 rfl rfl rfl rfl ?_
        obtain ⟨v13, hv13, hD⟩ := Option.bind_eq_some_iff.mp hD
        refine k_runC rfl rfl rfl rfl (t_e_Reader_find_v1 (d := d + 1) hv13) ?_
        refine k_if rfl (fun c62_13 => ?_) (fun c62_13 => ?_)
        · rw [c62_13, cond_true] at hD
          refine k_wk [0, 1, 2, 3] (loc' := [(0, .ref (37 * 1024)), (1, .ref (37 * 1024 + 10)), (2, .int x2), (3, .long (v8))]) rfl rfl ?_
          exact t_e_Reader_takeNewName_v3_101 ht   hD
        · rw [c62_13, cond_false] at hD
          refine k_runB (pc' := 67) (loc' := [(0, .ref (37 * 1024)), (1, .ref (37 * 1024 + 10)), (2, .int x2), (3, .long (v8))]) (st' := [.ref (37 * 1024), .long (v8)]) 2 rfl ?_
          refine k_gf 37 0 (K := 11) rfl rfl rfl rfl rfl ?_
          refine k_runB (pc' := 71) (loc' := [(0, .ref (37 * 1024)), (1, .ref (37 * 1024 + 10)), (2, .int x2), (3, .long (v8))]) (st' := [.ref (37 * 1024), .ref (37 * 1024 + 9), .long (v8)]) 1 rfl ?_
          obtain ⟨q15, hq15, hD⟩ := Option.bind_eq_some_iff.mp hD
          refine k_gq 37 0 (K := 11) (K2 := 6) (key := 5) rfl rfl rfl rfl rfl hq15 (fun kq15 => ?_)
          refine k_gf q15 0 (K := 6) kq15 rfl rfl rfl rfl ?_
          obtain ⟨v16, hv16, hD⟩ := Option.bind_eq_some_iff.mp hD
          refine k_runC rfl rfl rfl rfl (t_e_Reader_find_v2 (d := d + 1) hv16) ?_
          refine k_if rfl (fun c80_16 => ?_) (fun c80_16 => ?_)
          · rw [c80_16, cond_true] at hD
            refine k_wk [0, 1, 2, 3] (loc' := [(0, .ref (37 * 1024)), (1, .ref (37 * 1024 + 10)), (2, .int x2), (3, .long (v8))]) rfl rfl ?_
            exact t_e_Reader_takeNewName_v3_101 ht   hD
          · rw [c80_16, cond_false] at hD
            refine k_runB (pc' := 85) (loc' := [(0, .ref (37 * 1024)), (1, .ref (37 * 1024 + 10)), (2, .int x2), (3, .long (v8))]) (st' := [.ref (37 * 1024), .long (v8)]) 2 rfl ?_
            refine k_gf 37 0 (K := 11) rfl rfl rfl rfl rfl ?_
            refine k_runB (pc' := 89) (loc' := [(0, .ref (37 * 1024)), (1, .ref (37 * 1024 + 10)), (2, .int x2), (3, .long (v8))]) (st' := [.ref (37 * 1024), .ref (37 * 1024 + 10), .long (v8)]) 1 rfl ?_
            obtain ⟨q18, hq18, hD⟩ := Option.bind_eq_some_iff.mp hD
            refine k_gq 37 0 (K := 11) (K2 := 6) (key := 5) rfl rfl rfl rfl rfl hq18 (fun kq18 => ?_)
            refine k_gf q18 0 (K := 6) kq18 rfl rfl rfl rfl ?_
            obtain ⟨v19, hv19, hD⟩ := Option.bind_eq_some_iff.mp hD
            refine k_runC rfl rfl rfl rfl (t_e_Reader_find_v3 (d := d + 1) hv19) ?_
            refine k_if rfl (fun c98_19 => ?_) (fun c98_19 => ?_)
            · rw [c98_19, cond_true] at hD
              refine k_wk [0, 1, 2, 3] (loc' := [(0, .ref (37 * 1024)), (1, .ref (37 * 1024 + 10)), (2, .int x2), (3, .long (v8))]) rfl rfl ?_
              exact t_e_Reader_takeNewName_v3_106 ht   hD
            · rw [c98_19, cond_false] at hD
              refine k_wk [0, 1, 2, 3] (loc' := [(0, .ref (37 * 1024)), (1, .ref (37 * 1024 + 10)), (2, .int x2), (3, .long (v8))]) rfl rfl ?_
              exact t_e_Reader_takeNewName_v3_101 ht   hD
    · rw [c12_6, cond_false] at hD
      cases hD
      exact k_vret rfl rfl
end MC
