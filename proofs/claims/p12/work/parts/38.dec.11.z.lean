section Qz27
/-! the class's methods as functions (printed by wip/dec2.py) -/
section MC
variable {t : gT} {lg : Nat → Nat} {d : Nat} {c : Nat × Nat} {B : Nat → List gE}
/-- SleepWork$Reader.readTask()V  -/
def e_Reader_readTask (n : Nat) (P : Nat → Nat → Nat) (F : Nat → Nat → Int32) (A : Nat → Nat → Nat → Int32) (J : Nat → Nat → Nat → Int64) : Option (Unit × (Nat → Nat → Nat) × (Nat → Nat → Int32) × (Nat → Nat → Nat → Int32) × (Nat → Nat → Nat → Int64)) :=
  (c_chk 6 (P 37 5)).bind fun q1 =>
  (e_Reader_takeFirst P F A J 3 (F q1 16) 6).bind fun (_, P3, F4, A5, J6) =>
  (c_chk 6 (P3 37 5)).bind fun q7 =>
  (e_Reader_takeNewName_v2 n P3 F4 A5 J6 (F4 q7 16)).bind fun (_, P9, F10, A11, J12) =>
  (c_chk 6 (P9 37 5)).bind fun q13 =>
  (e_Reader_takeKnownName n P9 F10 A11 J12 (F10 q13 13)).bind fun (v14, P15, F16, A17, J18) =>
  (e_Reader_takeNumber P15 F16 A17 J18 0 999).bind fun (v19, P20, F21, A22, J23) =>
  (e_Reader_take P20 F21 A22 J23 59).bind fun (v24, P25, F26, A27, J28) =>
  cond (g_cnd .eq v24 0)
  (some ((), P25, F26, A27, J28))
  ((c_chk 6 (P25 37 5)).bind fun q30 =>
  (c_chk 6 (P25 37 5)).bind fun q31 =>
  (c_st A27 q30 4 6 (F26 q31 16) v14).bind fun A32 =>
  (c_chk 2 (P25 37 6)).bind fun q33 =>
  (c_chk 6 (P25 37 5)).bind fun q34 =>
  (c_st A32 q33 2 6 (F26 q34 16) v19).bind fun A35 =>
  (c_chk 6 (P25 37 5)).bind fun q36 =>
  (c_pf F26 q36 16 ((F26 q36 16) + 1)).bind fun F37 =>
  some ((), P25, F37, A35, J28))
set_option maxRecDepth 10000 in
theorem t_e_Reader_readTask (ht : ∀ ci k, t.1 ci k = k_ty ci k) {n : Nat} {P : Nat → Nat → Nat} {F : Nat → Nat → Int32} {A : Nat → Nat → Nat → Int32} {J : Nat → Nat → Nat → Int64}   {w : Unit × (Nat → Nat → Nat) × (Nat → Nat → Int32) × (Nat → Nat → Nat → Int32) × (Nat → Nat → Nat → Int64)} : e_Reader_readTask n P F A J = some w → k_run t lg (d + 3) 55 0 [(0, .ref (37 * 1024))] [] (c_h c B P F A J) (none, c_h c B w.2.1 w.2.2.1 w.2.2.2.1 w.2.2.2.2) := by
  intro hD
  unfold e_Reader_readTask at hD
  refine k_runB (pc' := 3) (loc' := [(0, .ref (37 * 1024))]) (st' := [.ref (37 * 1024), .int 3, .ref (37 * 1024)]) 3 rfl ?_
  obtain ⟨q1, hq1, hD⟩ := Option.bind_eq_some_iff.mp hD
  refine k_gq 37 0 (K := 11) (K2 := 6) (key := 5) rfl rfl rfl rfl rfl hq1 (fun kq1 => ?_)
  refine k_gf q1 0 (K := 6) kq1 rfl rfl rfl rfl ?_
  refine k_runB (pc' := 11) (loc' := [(0, .ref (37 * 1024))]) (st' := [.int 6, .int (F q1 16), .int 3, .ref (37 * 1024)]) 1 rfl ?_
  obtain ⟨⟨v2, P3, F4, A5, J6⟩, hv2, hD⟩ := Option.bind_eq_some_iff.mp hD
  dsimp only at hD
  refine k_runV rfl rfl rfl (c_get (r := 37) (o := 0) (K := 11) rfl (by decide)) rfl rfl (t_e_Reader_takeFirst (d := d) ht hv2) ?_
  refine k_runB (pc' := 16) (loc' := [(0, .ref (37 * 1024))]) (st' := [.ref (37 * 1024), .ref (37 * 1024)]) 2 rfl ?_
  refine k_gf 37 0 (K := 11) rfl rfl rfl rfl rfl ?_
  refine k_runB (pc' := 20) (loc' := [(0, .ref (37 * 1024))]) (st' := [.ref (37 * 1024), .ref (37 * 1024 + 9), .ref (37 * 1024)]) 1 rfl ?_
  obtain ⟨q7, hq7, hD⟩ := Option.bind_eq_some_iff.mp hD
  refine k_gq 37 0 (K := 11) (K2 := 6) (key := 5) rfl rfl rfl rfl rfl hq7 (fun kq7 => ?_)
  refine k_gf q7 0 (K := 6) kq7 rfl rfl rfl rfl ?_
  obtain ⟨⟨v8, P9, F10, A11, J12⟩, hv8, hD⟩ := Option.bind_eq_some_iff.mp hD
  dsimp only at hD
  refine k_runV rfl rfl rfl (c_get (r := 37) (o := 0) (K := 11) rfl (by decide)) rfl rfl (t_e_Reader_takeNewName_v2 (d := d) ht hv8) ?_
  refine k_runB (pc' := 31) (loc' := [(0, .ref (37 * 1024))]) (st' := [.ref (37 * 1024), .ref (37 * 1024)]) 2 rfl ?_
  refine k_gf 37 0 (K := 11) rfl rfl rfl rfl rfl ?_
  refine k_runB (pc' := 35) (loc' := [(0, .ref (37 * 1024))]) (st' := [.ref (37 * 1024), .ref (37 * 1024 + 7), .ref (37 * 1024)]) 1 rfl ?_
  obtain ⟨q13, hq13, hD⟩ := Option.bind_eq_some_iff.mp hD
  refine k_gq 37 0 (K := 11) (K2 := 6) (key := 5) rfl rfl rfl rfl rfl hq13 (fun kq13 => ?_)
  refine k_gf q13 0 (K := 6) kq13 rfl rfl rfl rfl ?_
  obtain ⟨⟨v14, P15, F16, A17, J18⟩, hv14, hD⟩ := Option.bind_eq_some_iff.mp hD
  dsimp only at hD
  refine k_runV rfl rfl rfl (c_get (r := 37) (o := 0) (K := 11) rfl (by decide)) rfl rfl (t_e_Reader_takeKnownName (d := d) ht hv14) ?_
  refine k_runB (pc' := 50) (loc' := [(0, .ref (37 * 1024)), (1, .int v14)]) (st' := [.int 999, .int 0, .ref (37 * 1024)]) 4 rfl ?_
  obtain ⟨⟨v19, P20, F21, A22, J23⟩, hv19, hD⟩ := Option.bind_eq_some_iff.mp hD
  dsimp only at hD
  refine k_runV rfl rfl rfl (c_get (r := 37) (o := 0) (K := 11) rfl (by decide)) rfl rfl (t_e_Reader_takeNumber (d := d) ht hv19) ?_
  refine k_runB (pc' := 57) (loc' := [(0, .ref (37 * 1024)), (1, .int v14), (2, .int v19)]) (st' := [.int 59, .ref (37 * 1024)]) 3 rfl ?_
  obtain ⟨⟨v24, P25, F26, A27, J28⟩, hv24, hD⟩ := Option.bind_eq_some_iff.mp hD
  dsimp only at hD
  refine k_runV rfl rfl rfl (c_get (r := 37) (o := 0) (K := 11) rfl (by decide)) rfl rfl (t_e_Reader_take (d := d + 1) ht hv24) ?_
  refine k_if rfl (fun c60_28 => ?_) (fun c60_28 => ?_)
  · rw [c60_28, cond_true] at hD
    cases hD
    exact k_vret rfl rfl
  · rw [c60_28, cond_false] at hD
    refine k_runB (pc' := 64) (loc' := [(0, .ref (37 * 1024)), (1, .int v14), (2, .int v19)]) (st' := [.ref (37 * 1024)]) 1 rfl ?_
    obtain ⟨q30, hq30, hD⟩ := Option.bind_eq_some_iff.mp hD
    refine k_gq 37 0 (K := 11) (K2 := 6) (key := 5) rfl rfl rfl rfl rfl hq30 (fun kq30 => ?_)
    refine k_gf q30 0 (K := 6) kq30 rfl rfl rfl rfl ?_
    refine k_runB (pc' := 71) (loc' := [(0, .ref (37 * 1024)), (1, .int v14), (2, .int v19)]) (st' := [.ref (37 * 1024), .ref (q30 * 1024 + 4)]) 1 rfl ?_
    obtain ⟨q31, hq31, hD⟩ := Option.bind_eq_some_iff.mp hD
    refine k_gq 37 0 (K := 11) (K2 := 6) (key := 5) rfl rfl rfl rfl rfl hq31 (fun kq31 => ?_)
    refine k_gf q31 0 (K := 6) kq31 rfl rfl rfl rfl ?_
    refine k_runB (pc' := 78) (loc' := [(0, .ref (37 * 1024)), (1, .int v14), (2, .int v19)]) (st' := [.int v14, .int (F26 q31 16), .ref (q30 * 1024 + 4)]) 1 rfl ?_
    obtain ⟨A32, hA32, hD⟩ := Option.bind_eq_some_iff.mp hD
    refine k_cstI q30 4 (K := 6) kq30 rfl rfl rfl (fun _ => rfl) hA32 ?_
    refine k_runB (pc' := 80) (loc' := [(0, .ref (37 * 1024)), (1, .int v14), (2, .int v19)]) (st' := [.ref (37 * 1024)]) 1 rfl ?_
    obtain ⟨q33, hq33, hD⟩ := Option.bind_eq_some_iff.mp hD
    refine k_gq 37 0 (K := 11) (K2 := 2) (key := 6) rfl rfl rfl rfl rfl hq33 (fun kq33 => ?_)
    refine k_gf q33 0 (K := 2) kq33 rfl rfl rfl rfl ?_
    refine k_runB (pc' := 87) (loc' := [(0, .ref (37 * 1024)), (1, .int v14), (2, .int v19)]) (st' := [.ref (37 * 1024), .ref (q33 * 1024 + 2)]) 1 rfl ?_
    obtain ⟨q34, hq34, hD⟩ := Option.bind_eq_some_iff.mp hD
    refine k_gq 37 0 (K := 11) (K2 := 6) (key := 5) rfl rfl rfl rfl rfl hq34 (fun kq34 => ?_)
    refine k_gf q34 0 (K := 6) kq34 rfl rfl rfl rfl ?_
    refine k_runB (pc' := 94) (loc' := [(0, .ref (37 * 1024)), (1, .int v14), (2, .int v19)]) (st' := [.int v19, .int (F26 q34 16), .ref (q33 * 1024 + 2)]) 1 rfl ?_
    obtain ⟨A35, hA35, hD⟩ := Option.bind_eq_some_iff.mp hD
    refine k_cstI q33 2 (K := 2) kq33 rfl rfl rfl (fun _ => rfl) hA35 ?_
    refine k_runB (pc' := 96) (loc' := [(0, .ref (37 * 1024)), (1, .int v14), (2, .int v19)]) (st' := [.ref (37 * 1024)]) 1 rfl ?_
    obtain ⟨q36, hq36, hD⟩ := Option.bind_eq_some_iff.mp hD
    refine k_gq 37 0 (K := 11) (K2 := 6) (key := 5) rfl rfl rfl rfl rfl hq36 (fun kq36 => ?_)
    refine k_runB (pc' := 100) (loc' := [(0, .ref (37 * 1024)), (1, .int v14), (2, .int v19)]) (st' := [.ref (q36 * 1024), .ref (q36 * 1024)]) 1 rfl ?_
    refine k_gf q36 0 (K := 6) kq36 rfl rfl rfl rfl ?_
    refine k_runB (pc' := 105) (loc' := [(0, .ref (37 * 1024)), (1, .int v14), (2, .int v19)]) (st' := [.int ((F26 q36 16) + 1), .ref (q36 * 1024)]) 2 rfl ?_
    obtain ⟨F37, hF37, hD⟩ := Option.bind_eq_some_iff.mp hD
    refine k_cpt q36 0 (K := 6) (key := 16) kq36 rfl (ht 1 16) rfl rfl rfl hF37 ?_
    cases hD
    exact k_vret rfl rfl
/-- SleepWork$Reader.takeKnownName([JI)I  -/
def e_Reader_takeKnownName_v1 (n : Nat) (P : Nat → Nat → Nat) (F : Nat → Nat → Int32) (A : Nat → Nat → Nat → Int32) (J : Nat → Nat → Nat → Int64) (x2 : Int32) : Option (Int32 × (Nat → Nat → Nat) × (Nat → Nat → Int32) × (Nat → Nat → Nat → Int32) × (Nat → Nat → Nat → Int64)) :=
  (e_Reader_take P F A J 100).bind fun (v1, P2, F3, A4, J5) =>
  cond (g_cnd .ne v1 0)
  ((m_ldJ (J5 37 5) 401 (F3 37 8)).bind fun v7 =>
  (e_Reader_find_v2 n P2 F3 A4 J5 v7 x2).bind fun v8 =>
  cond (g_cnd .ge v8 0)
  (some (v8, P2, F3, A4, J5))
  ((e_Reader_failLate P2 F3 A4 J5 4).bind fun (_, P11, F12, A13, J14) =>
  some (v8, P11, F12, A13, J14)))
  (some ((-1), P2, F3, A4, J5))
set_option maxRecDepth 10000 in
theorem t_e_Reader_takeKnownName_v1 (ht : ∀ ci k, t.1 ci k = k_ty ci k) {n : Nat} {P : Nat → Nat → Nat} {F : Nat → Nat → Int32} {A : Nat → Nat → Nat → Int32} {J : Nat → Nat → Nat → Int64} {x2 : Int32}  {w : Int32 × (Nat → Nat → Nat) × (Nat → Nat → Int32) × (Nat → Nat → Nat → Int32) × (Nat → Nat → Nat → Int64)} : e_Reader_takeKnownName_v1 n P F A J x2 = some w → k_run t lg (d + 2) 48 0 [(0, .ref (37 * 1024)), (1, .ref (37 * 1024 + 9)), (2, .int x2)] [] (c_h c B P F A J) (some (.int w.1), c_h c B w.2.1 w.2.2.1 w.2.2.2.1 w.2.2.2.2) := by
  intro hD
  unfold e_Reader_takeKnownName_v1 at hD
  refine k_runB (pc' := 3) (loc' := [(0, .ref (37 * 1024)), (1, .ref (37 * 1024 + 9)), (2, .int x2)]) (st' := [.int 100, .ref (37 * 1024)]) 2 rfl ?_
  obtain ⟨⟨v1, P2, F3, A4, J5⟩, hv1, hD⟩ := Option.bind_eq_some_iff.mp hD
  dsimp only at hD
  refine k_runV rfl rfl rfl (c_get (r := 37) (o := 0) (K := 11) rfl (by decide)) rfl rfl (t_e_Reader_take (d := d) ht hv1) ?_
  refine k_if rfl (fun c6_5 => ?_) (fun c6_5 => ?_)
  · rw [c6_5, cond_true] at hD
    refine k_runB (pc' := 12) (loc' := [(0, .ref (37 * 1024)), (1, .ref (37 * 1024 + 9)), (2, .int x2)]) (st' := [.ref (37 * 1024)]) 1 rfl ?_
    refine k_gf 37 0 (K := 11) rfl rfl rfl rfl rfl ?_
    refine k_gf 37 1 (K := 11) rfl rfl rfl rfl rfl ?_
    refine k_runB (pc' := 19) (loc' := [(0, .ref (37 * 1024)), (1, .ref (37 * 1024 + 9)), (2, .int x2)]) (st' := [.ref (37 * 1024), .ref (37 * 1024 + 5)]) 1 rfl ?_
    refine k_gf 37 0 (K := 11) rfl rfl rfl rfl rfl ?_
    obtain ⟨v7, hv7, hD⟩ := Option.bind_eq_some_iff.mp hD
    refine k_ldL rfl (c_get (r := 37) (o := 5) (K := 11) rfl (by decide)) hv7 ?_
    refine k_runB (pc' := 25) (loc' := [(0, .ref (37 * 1024)), (1, .ref (37 * 1024 + 9)), (2, .int x2)]) (st' := [.int x2, .ref (37 * 1024 + 9), .long (v7)]) 2 rfl ?_
    obtain ⟨v8, hv8, hD⟩ := Option.bind_eq_some_iff.mp hD
    refine k_runC rfl rfl rfl rfl (t_e_Reader_find_v2 (d := d + 1) hv8) ?_
    refine k_runB (pc' := 30) (loc' := [(0, .ref (37 * 1024)), (1, .ref (37 * 1024 + 9)), (2, .int x2), (3, .int v8)]) (st' := [.int v8]) 2 rfl ?_
    refine k_if rfl (fun c30_8 => ?_) (fun c30_8 => ?_)
    · rw [c30_8, cond_true] at hD
      refine k_runB (pc' := 39) (loc' := [(0, .ref (37 * 1024)), (1, .ref (37 * 1024 + 9)), (2, .int x2), (3, .int v8)]) (st' := [.int v8]) 1 rfl ?_
      cases hD
      exact k_iret rfl rfl
    · rw [c30_8, cond_false] at hD
      refine k_runB (pc' := 35) (loc' := [(0, .ref (37 * 1024)), (1, .ref (37 * 1024 + 9)), (2, .int x2), (3, .int v8)]) (st' := [.int 4, .ref (37 * 1024)]) 2 rfl ?_
      obtain ⟨⟨v10, P11, F12, A13, J14⟩, hv10, hD⟩ := Option.bind_eq_some_iff.mp hD
      dsimp only at hD
      refine k_runV rfl rfl rfl (c_get (r := 37) (o := 0) (K := 11) rfl (by decide)) rfl rfl (t_e_Reader_failLate (d := d + 1) ht hv10) ?_
      refine k_runB (pc' := 39) (loc' := [(0, .ref (37 * 1024)), (1, .ref (37 * 1024 + 9)), (2, .int x2), (3, .int v8)]) (st' := [.int v8]) 1 rfl ?_
      cases hD
      exact k_iret rfl rfl
  · rw [c6_5, cond_false] at hD
    refine k_runB (pc' := 10) (loc' := [(0, .ref (37 * 1024)), (1, .ref (37 * 1024 + 9)), (2, .int x2)]) (st' := [.int ((-1))]) 1 rfl ?_
    cases hD
    exact k_iret rfl rfl
def e_Reader_takeTaskOfStep_57 (n : Nat) (P : Nat → Nat → Nat) (F : Nat → Nat → Int32) (A : Nat → Nat → Nat → Int32) (J : Nat → Nat → Nat → Int64) (x1 : Int32) (x2 : Int32) : Option (Int32 × (Nat → Nat → Nat) × (Nat → Nat → Int32) × (Nat → Nat → Nat → Int32) × (Nat → Nat → Nat → Int64)) :=
    (c_chk 6 (P 37 5)).bind fun q12 =>
    (e_Reader_takeKnownName_v1 n P F A J (F q12 16)).bind fun (v13, P14, F15, A16, J17) =>
    cond (g_cnd .lt x2 0)
    (some (x2, P14, F15, A16, J17))
    ((c_chk 6 (P14 37 5)).bind fun q19 =>
    (m_ld (A16 q19 5) 6 x2).bind fun v20 =>
    cond (g_cnd .lt v20 6)
    (some (x2, P14, F15, A16, J17))
    ((e_Reader_fail P14 F15 A16 J17 2 x1).bind fun (_, P23, F24, A25, J26) =>
    some (x2, P23, F24, A25, J26)))
set_option maxRecDepth 10000 in
theorem t_e_Reader_takeTaskOfStep_57 (ht : ∀ ci k, t.1 ci k = k_ty ci k) {n : Nat}  {P : Nat → Nat → Nat} {F : Nat → Nat → Int32} {A : Nat → Nat → Nat → Int32} {J : Nat → Nat → Nat → Int64} {x1 : Int32} {x2 : Int32}  {w : Int32 × (Nat → Nat → Nat) × (Nat → Nat → Int32) × (Nat → Nat → Nat → Int32) × (Nat → Nat → Nat → Int64)} : e_Reader_takeTaskOfStep_57 n P F A J x1 x2 = some w → k_run t lg (d + 3) 57 57 [(0, .ref (37 * 1024)), (1, .int x1), (2, .int x2)] [] (c_h c B P F A J) (some (.int w.1), c_h c B w.2.1 w.2.2.1 w.2.2.2.1 w.2.2.2.2) := by
  intro hD
  unfold e_Reader_takeTaskOfStep_57 at hD
  refine k_runB (pc' := 59) (loc' := [(0, .ref (37 * 1024)), (1, .int x1), (2, .int x2)]) (st' := [.ref (37 * 1024), .ref (37 * 1024)]) 2 rfl ?_
  refine k_gf 37 0 (K := 11) rfl rfl rfl rfl rfl ?_
  refine k_runB (pc' := 63) (loc' := [(0, .ref (37 * 1024)), (1, .int x1), (2, .int x2)]) (st' := [.ref (37 * 1024), .ref (37 * 1024 + 9), .ref (37 * 1024)]) 1 rfl ?_
  obtain ⟨q12, hq12, hD⟩ := Option.bind_eq_some_iff.mp hD
  refine k_gq 37 0 (K := 11) (K2 := 6) (key := 5) rfl rfl rfl rfl rfl hq12 (fun kq12 => ?_)
  refine k_gf q12 0 (K := 6) kq12 rfl rfl rfl rfl ?_
  obtain ⟨⟨v13, P14, F15, A16, J17⟩, hv13, hD⟩ := Option.bind_eq_some_iff.mp hD
  dsimp only at hD
  refine k_runV rfl rfl rfl (c_get (r := 37) (o := 0) (K := 11) rfl (by decide)) rfl rfl (t_e_Reader_takeKnownName_v1 (d := d) ht hv13) ?_
  refine k_runB (pc' := 74) (loc' := [(0, .ref (37 * 1024)), (1, .int x1), (2, .int x2)]) (st' := [.int x2]) 2 rfl ?_
  refine k_if rfl (fun c74_17 => ?_) (fun c74_17 => ?_)
  · rw [c74_17, cond_true] at hD
    refine k_runB (pc' := 98) (loc' := [(0, .ref (37 * 1024)), (1, .int x1), (2, .int x2)]) (st' := [.int x2]) 1 rfl ?_
    cases hD
    exact k_iret rfl rfl
  · rw [c74_17, cond_false] at hD
    refine k_runB (pc' := 78) (loc' := [(0, .ref (37 * 1024)), (1, .int x1), (2, .int x2)]) (st' := [.ref (37 * 1024)]) 1 rfl ?_
    obtain ⟨q19, hq19, hD⟩ := Option.bind_eq_some_iff.mp hD
    refine k_gq 37 0 (K := 11) (K2 := 6) (key := 5) rfl rfl rfl rfl rfl hq19 (fun kq19 => ?_)
    refine k_gf q19 0 (K := 6) kq19 rfl rfl rfl rfl ?_
    refine k_runB (pc' := 85) (loc' := [(0, .ref (37 * 1024)), (1, .int x1), (2, .int x2)]) (st' := [.int x2, .ref (q19 * 1024 + 5)]) 1 rfl ?_
    obtain ⟨v20, hv20, hD⟩ := Option.bind_eq_some_iff.mp hD
    refine k_ldI rfl (c_get (r := q19) (o := 5) (K := 6) kq19 (by decide)) hv20 ?_
    refine k_runB (pc' := 88) (loc' := [(0, .ref (37 * 1024)), (1, .int x1), (2, .int x2)]) (st' := [.int 6, .int v20]) 1 rfl ?_
    refine k_ic rfl (fun c88_20 => ?_) (fun c88_20 => ?_)
    · rw [c88_20, cond_true] at hD
      refine k_runB (pc' := 98) (loc' := [(0, .ref (37 * 1024)), (1, .int x1), (2, .int x2)]) (st' := [.int x2]) 1 rfl ?_
      cases hD
      exact k_iret rfl rfl
    · rw [c88_20, cond_false] at hD
      refine k_runB (pc' := 94) (loc' := [(0, .ref (37 * 1024)), (1, .int x1), (2, .int x2)]) (st' := [.int x1, .int 2, .ref (37 * 1024)]) 3 rfl ?_
      obtain ⟨⟨v22, P23, F24, A25, J26⟩, hv22, hD⟩ := Option.bind_eq_some_iff.mp hD
      dsimp only at hD
      refine k_runV rfl rfl rfl (c_get (r := 37) (o := 0) (K := 11) rfl (by decide)) rfl rfl (t_e_Reader_fail (d := d + 2) ht hv22) ?_
      refine k_runB (pc' := 98) (loc' := [(0, .ref (37 * 1024)), (1, .int x1), (2, .int x2)]) (st' := [.int x2]) 1 rfl ?_
      cases hD
      exact k_iret rfl rfl
/-- SleepWork$Reader.takeTaskOfStep()I  -/
def e_Reader_takeTaskOfStep (n : Nat) (P : Nat → Nat → Nat) (F : Nat → Nat → Int32) (A : Nat → Nat → Nat → Int32) (J : Nat → Nat → Nat → Int64) : Option (Int32 × (Nat → Nat → Nat) × (Nat → Nat → Int32) × (Nat → Nat → Nat → Int32) × (Nat → Nat → Nat → Int64)) :=
  (m_ld (A 37 3) 401 (F 37 7)).bind fun v1 =>
  (e_Reader_take P F A J 4).bind fun (v2, P3, F4, A5, J6) =>
  (e_Reader_isNext P3 F4 A5 J6 100).bind fun v7 =>
  cond (g_cnd .eq v7 0)
  (e_Reader_takeTaskOfStep_57 n P3 F4 A5 J6 v1 ((-1)))
  ((m_ldJ (J6 37 5) 401 (F4 37 7)).bind fun v9 =>
  (c_chk 6 (P3 37 5)).bind fun q10 =>
  (e_Reader_find_v2 n P3 F4 A5 J6 v9 (F4 q10 16)).bind fun v11 =>
  e_Reader_takeTaskOfStep_57 n P3 F4 A5 J6 v1 v11)
set_option maxRecDepth 10000 in
theorem t_e_Reader_takeTaskOfStep (ht : ∀ ci k, t.1 ci k = k_ty ci k) {n : Nat} {P : Nat → Nat → Nat} {F : Nat → Nat → Int32} {A : Nat → Nat → Nat → Int32} {J : Nat → Nat → Nat → Int64}   {w : Int32 × (Nat → Nat → Nat) × (Nat → Nat → Int32) × (Nat → Nat → Nat → Int32) × (Nat → Nat → Nat → Int64)} : e_Reader_takeTaskOfStep n P F A J = some w → k_run t lg (d + 3) 57 0 [(0, .ref (37 * 1024))] [] (c_h c B P F A J) (some (.int w.1), c_h c B w.2.1 w.2.2.1 w.2.2.2.1 w.2.2.2.2) := by
  intro hD
  unfold e_Reader_takeTaskOfStep at hD
  refine k_runB (pc' := 1) (loc' := [(0, .ref (37 * 1024))]) (st' := [.ref (37 * 1024)]) 1 rfl ?_
  refine k_gf 37 0 (K := 11) rfl rfl rfl rfl rfl ?_
  refine k_gf 37 1 (K := 11) rfl rfl rfl rfl rfl ?_
  refine k_runB (pc' := 8) (loc' := [(0, .ref (37 * 1024))]) (st' := [.ref (37 * 1024), .ref (37 * 1024 + 3)]) 1 rfl ?_
  refine k_gf 37 0 (K := 11) rfl rfl rfl rfl rfl ?_
  obtain ⟨v1, hv1, hD⟩ := Option.bind_eq_some_iff.mp hD
  refine k_ldI rfl (c_get (r := 37) (o := 3) (K := 11) rfl (by decide)) hv1 ?_
  refine k_runB (pc' := 15) (loc' := [(0, .ref (37 * 1024)), (1, .int v1)]) (st' := [.int 4, .ref (37 * 1024)]) 3 rfl ?_
  obtain ⟨⟨v2, P3, F4, A5, J6⟩, hv2, hD⟩ := Option.bind_eq_some_iff.mp hD
  dsimp only at hD
  refine k_runV rfl rfl rfl (c_get (r := 37) (o := 0) (K := 11) rfl (by decide)) rfl rfl (t_e_Reader_take (d := d + 1) ht hv2) ?_
  refine k_runB (pc' := 24) (loc' := [(0, .ref (37 * 1024)), (1, .int v1), (2, .int ((-1)))]) (st' := [.int 100, .ref (37 * 1024)]) 5 rfl ?_
  obtain ⟨v7, hv7, hD⟩ := Option.bind_eq_some_iff.mp hD
  refine k_runV rfl rfl rfl (c_get (r := 37) (o := 0) (K := 11) rfl (by decide)) rfl rfl (t_e_Reader_isNext (d := d + 2) hv7) ?_
  refine k_if rfl (fun c27_7 => ?_) (fun c27_7 => ?_)
  · rw [c27_7, cond_true] at hD
    refine k_wk [0, 1, 2] (loc' := [(0, .ref (37 * 1024)), (1, .int v1), (2, .int ((-1)))]) rfl rfl ?_
    exact t_e_Reader_takeTaskOfStep_57 ht   hD
  · rw [c27_7, cond_false] at hD
    refine k_runB (pc' := 31) (loc' := [(0, .ref (37 * 1024)), (1, .int v1), (2, .int ((-1)))]) (st' := [.ref (37 * 1024)]) 1 rfl ?_
    refine k_gf 37 0 (K := 11) rfl rfl rfl rfl rfl ?_
    refine k_gf 37 1 (K := 11) rfl rfl rfl rfl rfl ?_
    refine k_runB (pc' := 38) (loc' := [(0, .ref (37 * 1024)), (1, .int v1), (2, .int ((-1)))]) (st' := [.ref (37 * 1024), .ref (37 * 1024 + 5)]) 1 rfl ?_
    refine k_gf 37 0 (K := 11) rfl rfl rfl rfl rfl ?_
    obtain ⟨v9, hv9, hD⟩ := Option.bind_eq_some_iff.mp hD
    refine k_ldL rfl (c_get (r := 37) (o := 5) (K := 11) rfl (by decide)) hv9 ?_
    refine k_runB (pc' := 43) (loc' := [(0, .ref (37 * 1024)), (1, .int v1), (2, .int ((-1)))]) (st' := [.ref (37 * 1024), .long (v9)]) 1 rfl ?_
    refine k_gf 37 0 (K := 11) rfl rfl rfl rfl rfl ?_
    refine k_runB (pc' := 47) (loc' := [(0, .ref (37 * 1024)), (1, .int v1), (2, .int ((-1)))]) (st' := [.ref (37 * 1024), .ref (37 * 1024 + 9), .long (v9)]) 1 rfl ?_
    obtain ⟨q10, hq10, hD⟩ := Option.bind_eq_some_iff.mp hD
    refine k_gq 37 0 (K := 11) (K2 := 6) (key := 5) rfl rfl rfl rfl rfl hq10 (fun kq10 => ?_)
    refine k_gf q10 0 (K := 6) kq10 rfl rfl rfl rfl ?_
    obtain ⟨v11, hv11, hD⟩ := Option.bind_eq_some_iff.mp hD
    refine k_runC rfl rfl rfl rfl (t_e_Reader_find_v2 (d := d + 2) hv11) ?_
    refine k_runB (pc' := 57) (loc' := [(0, .ref (37 * 1024)), (1, .int v1), (2, .int v11)]) (st' := []) 1 rfl ?_
    refine k_wk [0, 1, 2] (loc' := [(0, .ref (37 * 1024)), (1, .int v1), (2, .int v11)]) rfl rfl ?_
    exact t_e_Reader_takeTaskOfStep_57 ht   hD
/-- SleepWork$Reader.takeKnownName([JI)I  -/
def e_Reader_takeKnownName_v2 (n : Nat) (P : Nat → Nat → Nat) (F : Nat → Nat → Int32) (A : Nat → Nat → Nat → Int32) (J : Nat → Nat → Nat → Int64) (x2 : Int32) : Option (Int32 × (Nat → Nat → Nat) × (Nat → Nat → Int32) × (Nat → Nat → Nat → Int32) × (Nat → Nat → Nat → Int64)) :=
  (e_Reader_take P F A J 100).bind fun (v1, P2, F3, A4, J5) =>
  cond (g_cnd .ne v1 0)
  ((m_ldJ (J5 37 5) 401 (F3 37 8)).bind fun v7 =>
  (e_Reader_find_v1 n P2 F3 A4 J5 v7 x2).bind fun v8 =>
  cond (g_cnd .ge v8 0)
  (some (v8, P2, F3, A4, J5))
  ((e_Reader_failLate P2 F3 A4 J5 4).bind fun (_, P11, F12, A13, J14) =>
  some (v8, P11, F12, A13, J14)))
  (some ((-1), P2, F3, A4, J5))
set_option maxRecDepth 10000 in
theorem t_e_Reader_takeKnownName_v2 (ht : ∀ ci k, t.1 ci k = k_ty ci k) {n : Nat} {P : Nat → Nat → Nat} {F : Nat → Nat → Int32} {A : Nat → Nat → Nat → Int32} {J : Nat → Nat → Nat → Int64} {x2 : Int32}  {w : Int32 × (Nat → Nat → Nat) × (Nat → Nat → Int32) × (Nat → Nat → Nat → Int32) × (Nat → Nat → Nat → Int64)} : e_Reader_takeKnownName_v2 n P F A J x2 = some w → k_run t lg (d + 2) 48 0 [(0, .ref (37 * 1024)), (1, .ref (37 * 1024 + 8)), (2, .int x2)] [] (c_h c B P F A J) (some (.int w.1), c_h c B w.2.1 w.2.2.1 w.2.2.2.1 w.2.2.2.2) := by
  intro hD
  unfold e_Reader_takeKnownName_v2 at hD
  refine k_runB (pc' := 3) (loc' := [(0, .ref (37 * 1024)), (1, .ref (37 * 1024 + 8)), (2, .int x2)]) (st' := [.int 100, .ref (37 * 1024)]) 2 rfl ?_
  obtain ⟨⟨v1, P2, F3, A4, J5⟩, hv1, hD⟩ := Option.bind_eq_some_iff.mp hD
  dsimp only at hD
  refine k_runV rfl rfl rfl (c_get (r := 37) (o := 0) (K := 11) rfl (by decide)) rfl rfl (t_e_Reader_take (d := d) ht hv1) ?_
  refine k_if rfl (fun c6_5 => ?_) (fun c6_5 => ?_)
  · rw [c6_5, cond_true] at hD
    refine k_runB (pc' := 12) (loc' := [(0, .ref (37 * 1024)), (1, .ref (37 * 1024 + 8)), (2, .int x2)]) (st' := [.ref (37 * 1024)]) 1 rfl ?_
    refine k_gf 37 0 (K := 11) rfl rfl rfl rfl rfl ?_
    refine k_gf 37 1 (K := 11) rfl rfl rfl rfl rfl ?_
    refine k_runB (pc' := 19) (loc' := [(0, .ref (37 * 1024)), (1, .ref (37 * 1024 + 8)), (2, .int x2)]) (st' := [.ref (37 * 1024), .ref (37 * 1024 + 5)]) 1 rfl ?_
    refine k_gf 37 0 (K := 11) rfl rfl rfl rfl rfl ?_
    obtain ⟨v7, hv7, hD⟩ := Option.bind_eq_some_iff.mp hD
    refine k_ldL rfl (c_get (r := 37) (o := 5) (K := 11) rfl (by decide)) hv7 ?_
    refine k_runB (pc' := 25) (loc' := [(0, .ref (37 * 1024)), (1, .ref (37 * 1024 + 8)), (2, .int x2)]) (st' := [.int x2, .ref (37 * 1024 + 8), .long (v7)]) 2 rfl ?_
    obtain ⟨v8, hv8, hD⟩ := Option.bind_eq_some_iff.mp hD
    refine k_runC rfl rfl rfl rfl (t_e_Reader_find_v1 (d := d + 1) hv8) ?_
    refine k_runB (pc' := 30) (loc' := [(0, .ref (37 * 1024)), (1, .ref (37 * 1024 + 8)), (2, .int x2), (3, .int v8)]) (st' := [.int v8]) 2 rfl ?_
    refine k_if rfl (fun c30_8 => ?_) (fun c30_8 => ?_)
    · rw [c30_8, cond_true] at hD
      refine k_runB (pc' := 39) (loc' := [(0, .ref (37 * 1024)), (1, .ref (37 * 1024 + 8)), (2, .int x2), (3, .int v8)]) (st' := [.int v8]) 1 rfl ?_
      cases hD
      exact k_iret rfl rfl
    · rw [c30_8, cond_false] at hD
      refine k_runB (pc' := 35) (loc' := [(0, .ref (37 * 1024)), (1, .ref (37 * 1024 + 8)), (2, .int x2), (3, .int v8)]) (st' := [.int 4, .ref (37 * 1024)]) 2 rfl ?_
      obtain ⟨⟨v10, P11, F12, A13, J14⟩, hv10, hD⟩ := Option.bind_eq_some_iff.mp hD
      dsimp only at hD
      refine k_runV rfl rfl rfl (c_get (r := 37) (o := 0) (K := 11) rfl (by decide)) rfl rfl (t_e_Reader_failLate (d := d + 1) ht hv10) ?_
      refine k_runB (pc' := 39) (loc' := [(0, .ref (37 * 1024)), (1, .ref (37 * 1024 + 8)), (2, .int x2), (3, .int v8)]) (st' := [.int v8]) 1 rfl ?_
      cases hD
      exact k_iret rfl rfl
  · rw [c6_5, cond_false] at hD
    refine k_runB (pc' := 10) (loc' := [(0, .ref (37 * 1024)), (1, .ref (37 * 1024 + 8)), (2, .int x2)]) (st' := [.int ((-1))]) 1 rfl ?_
    cases hD
    exact k_iret rfl rfl
def e_Reader_takeStepNumber_23 (P : Nat → Nat → Nat) (F : Nat → Nat → Int32) (A : Nat → Nat → Nat → Int32) (J : Nat → Nat → Nat → Int64) (s1 : Int32) (s2 : Int32) : Option (Int32 × (Nat → Nat → Nat) × (Nat → Nat → Int32) × (Nat → Nat → Nat → Int32) × (Nat → Nat → Nat → Int64)) :=
    (e_Reader_takeNumber P F A J s1 s2).bind fun (v4, P5, F6, A7, J8) =>
    some (v4, P5, F6, A7, J8)
set_option maxRecDepth 10000 in
theorem t_e_Reader_takeStepNumber_23 (ht : ∀ ci k, t.1 ci k = k_ty ci k)  {P : Nat → Nat → Nat} {F : Nat → Nat → Int32} {A : Nat → Nat → Nat → Int32} {J : Nat → Nat → Nat → Int64} {s1 : Int32} {s2 : Int32}  {w : Int32 × (Nat → Nat → Nat) × (Nat → Nat → Int32) × (Nat → Nat → Nat → Int32) × (Nat → Nat → Nat → Int64)} : e_Reader_takeStepNumber_23 P F A J s1 s2 = some w → k_run t lg (d + 3) 51 23 [(0, .ref (37 * 1024))] [.int s2, .int s1, .ref (37 * 1024)] (c_h c B P F A J) (some (.int w.1), c_h c B w.2.1 w.2.2.1 w.2.2.2.1 w.2.2.2.2) := by
  intro hD
  unfold e_Reader_takeStepNumber_23 at hD
  obtain ⟨⟨v4, P5, F6, A7, J8⟩, hv4, hD⟩ := Option.bind_eq_some_iff.mp hD
  dsimp only at hD
  refine k_runV rfl rfl rfl (c_get (r := 37) (o := 0) (K := 11) rfl (by decide)) rfl rfl (t_e_Reader_takeNumber (d := d) ht hv4) ?_
  cases hD
  exact k_iret rfl rfl
/-- SleepWork$Reader.takeStepNumber(I)I  -/
def e_Reader_takeStepNumber (P : Nat → Nat → Nat) (F : Nat → Nat → Int32) (A : Nat → Nat → Nat → Int32) (J : Nat → Nat → Nat → Int64) (x1 : Int32) : Option (Int32 × (Nat → Nat → Nat) × (Nat → Nat → Int32) × (Nat → Nat → Nat → Int32) × (Nat → Nat → Nat → Int64)) :=
  cond (g_cnd .ge x1 0)
  ((c_chk 6 (P 37 5)).bind fun q2 =>
  (m_ld (A q2 5) 6 x1).bind fun v3 =>
  e_Reader_takeStepNumber_23 P F A J 0 (v3 - 1))
  (e_Reader_takeStepNumber_23 P F A J 0 9999)
set_option maxRecDepth 10000 in
theorem t_e_Reader_takeStepNumber (ht : ∀ ci k, t.1 ci k = k_ty ci k) {P : Nat → Nat → Nat} {F : Nat → Nat → Int32} {A : Nat → Nat → Nat → Int32} {J : Nat → Nat → Nat → Int64} {x1 : Int32}  {w : Int32 × (Nat → Nat → Nat) × (Nat → Nat → Int32) × (Nat → Nat → Nat → Int32) × (Nat → Nat → Nat → Int64)} : e_Reader_takeStepNumber P F A J x1 = some w → k_run t lg (d + 3) 51 0 [(0, .ref (37 * 1024)), (1, .int x1)] [] (c_h c B P F A J) (some (.int w.1), c_h c B w.2.1 w.2.2.1 w.2.2.2.1 w.2.2.2.2) := by
  intro hD
  unfold e_Reader_takeStepNumber at hD
  refine k_runB (pc' := 3) (loc' := [(0, .ref (37 * 1024)), (1, .int x1)]) (st' := [.int x1, .int 0, .ref (37 * 1024)]) 3 rfl ?_
  refine k_if rfl (fun c3_0 => ?_) (fun c3_0 => ?_)
  · rw [c3_0, cond_true] at hD
    refine k_runB (pc' := 13) (loc' := [(0, .ref (37 * 1024)), (1, .int x1)]) (st' := [.ref (37 * 1024), .int 0, .ref (37 * 1024)]) 1 rfl ?_
    obtain ⟨q2, hq2, hD⟩ := Option.bind_eq_some_iff.mp hD
    refine k_gq 37 0 (K := 11) (K2 := 6) (key := 5) rfl rfl rfl rfl rfl hq2 (fun kq2 => ?_)
    refine k_gf q2 0 (K := 6) kq2 rfl rfl rfl rfl ?_
    refine k_runB (pc' := 20) (loc' := [(0, .ref (37 * 1024)), (1, .int x1)]) (st' := [.int x1, .ref (q2 * 1024 + 5), .int 0, .ref (37 * 1024)]) 1 rfl ?_
    obtain ⟨v3, hv3, hD⟩ := Option.bind_eq_some_iff.mp hD
    refine k_ldI rfl (c_get (r := q2) (o := 5) (K := 6) kq2 (by decide)) hv3 ?_
    refine k_runB (pc' := 23) (loc' := [(0, .ref (37 * 1024)), (1, .int x1)]) (st' := [.int (v3 - 1), .int 0, .ref (37 * 1024)]) 2 rfl ?_
    refine k_wk [0] (loc' := [(0, .ref (37 * 1024))]) rfl rfl ?_
    exact t_e_Reader_takeStepNumber_23 ht   hD
  · rw [c3_0, cond_false] at hD
    refine k_runB (pc' := 23) (loc' := [(0, .ref (37 * 1024)), (1, .int x1)]) (st' := [.int 9999, .int 0, .ref (37 * 1024)]) 2 rfl ?_
    refine k_wk [0] (loc' := [(0, .ref (37 * 1024))]) rfl rfl ?_
    exact t_e_Reader_takeStepNumber_23 ht   hD
def e_Reader_readStep_107 (n : Nat) (P : Nat → Nat → Nat) (F : Nat → Nat → Int32) (A : Nat → Nat → Nat → Int32) (J : Nat → Nat → Nat → Int64) (x1 : Int32) (x2 : Int32) (x3 : Int32) (x4 : Int32) (x5 : Int32) (x6 : Int32) (x7 : Int32) : Option (Unit × (Nat → Nat → Nat) × (Nat → Nat → Int32) × (Nat → Nat → Nat → Int32) × (Nat → Nat → Nat → Int64)) :=
    (e_Reader_take P F A J 59).bind fun (v53, P54, F55, A56, J57) =>
    cond (g_cnd .eq v53 0)
    (some ((), P54, F55, A56, J57))
    (cond (g_cnd .lt x1 0)
    (some ((), P54, F55, A56, J57))
    ((c_chk 6 (P54 37 5)).bind fun q60 =>
    (m_ld (A56 q60 5) 6 x1).bind fun v61 =>
    (c_chk 6 (P54 37 5)).bind fun q62 =>
    (c_st A56 q62 6 36 ((x1 * 6) + v61) x2).bind fun A63 =>
    (c_chk 6 (P54 37 5)).bind fun q64 =>
    (c_st A63 q64 7 36 ((x1 * 6) + v61) x3).bind fun A65 =>
    (c_chk 6 (P54 37 5)).bind fun q66 =>
    (c_st A65 q66 8 36 ((x1 * 6) + v61) x4).bind fun A67 =>
    (c_chk 6 (P54 37 5)).bind fun q68 =>
    (c_st A67 q68 9 36 ((x1 * 6) + v61) x5).bind fun A69 =>
    (c_chk 6 (P54 37 5)).bind fun q70 =>
    (c_st A69 q70 10 36 ((x1 * 6) + v61) x6).bind fun A71 =>
    (c_chk 6 (P54 37 5)).bind fun q72 =>
    (c_st A71 q72 11 36 ((x1 * 6) + v61) x7).bind fun A73 =>
    (c_chk 6 (P54 37 5)).bind fun q74 =>
    (m_ld (A73 q74 5) 6 x1).bind fun v75 =>
    (c_st A73 q74 5 6 x1 (v75 + 1)).bind fun A76 =>
    some ((), P54, F55, A76, J57)))
set_option maxRecDepth 10000 in
theorem t_e_Reader_readStep_107 (ht : ∀ ci k, t.1 ci k = k_ty ci k) {n : Nat}  {P : Nat → Nat → Nat} {F : Nat → Nat → Int32} {A : Nat → Nat → Nat → Int32} {J : Nat → Nat → Nat → Int64} {x1 : Int32} {x2 : Int32} {x3 : Int32} {x4 : Int32} {x5 : Int32} {x6 : Int32} {x7 : Int32}  {w : Unit × (Nat → Nat → Nat) × (Nat → Nat → Int32) × (Nat → Nat → Nat → Int32) × (Nat → Nat → Nat → Int64)} : e_Reader_readStep_107 n P F A J x1 x2 x3 x4 x5 x6 x7 = some w → k_run t lg (d + 4) 56 107 [(0, .ref (37 * 1024)), (1, .int x1), (2, .int x2), (3, .int x3), (4, .int x4), (5, .int x5), (6, .int x6), (7, .int x7)] [] (c_h c B P F A J) (none, c_h c B w.2.1 w.2.2.1 w.2.2.2.1 w.2.2.2.2) := by
  intro hD
  unfold e_Reader_readStep_107 at hD
  refine k_runB (pc' := 110) (loc' := [(0, .ref (37 * 1024)), (1, .int x1), (2, .int x2), (3, .int x3), (4, .int x4), (5, .int x5), (6, .int x6), (7, .int x7)]) (st' := [.int 59, .ref (37 * 1024)]) 2 rfl ?_
  obtain ⟨⟨v53, P54, F55, A56, J57⟩, hv53, hD⟩ := Option.bind_eq_some_iff.mp hD
  dsimp only at hD
  refine k_runV rfl rfl rfl (c_get (r := 37) (o := 0) (K := 11) rfl (by decide)) rfl rfl (t_e_Reader_take (d := d + 2) ht hv53) ?_
  refine k_if rfl (fun c113_57 => ?_) (fun c113_57 => ?_)
  · rw [c113_57, cond_true] at hD
    cases hD
    exact k_vret rfl rfl
  · rw [c113_57, cond_false] at hD
    refine k_runB (pc' := 117) (loc' := [(0, .ref (37 * 1024)), (1, .int x1), (2, .int x2), (3, .int x3), (4, .int x4), (5, .int x5), (6, .int x6), (7, .int x7)]) (st' := [.int x1]) 1 rfl ?_
    refine k_if rfl (fun c117_58 => ?_) (fun c117_58 => ?_)
    · rw [c117_58, cond_true] at hD
      cases hD
      exact k_vret rfl rfl
    · rw [c117_58, cond_false] at hD
      refine k_runB (pc' := 125) (loc' := [(0, .ref (37 * 1024)), (1, .int x1), (2, .int x2), (3, .int x3), (4, .int x4), (5, .int x5), (6, .int x6), (7, .int x7)]) (st' := [.ref (37 * 1024), .int (x1 * 6)]) 4 rfl ?_
      obtain ⟨q60, hq60, hD⟩ := Option.bind_eq_some_iff.mp hD
      refine k_gq 37 0 (K := 11) (K2 := 6) (key := 5) rfl rfl rfl rfl rfl hq60 (fun kq60 => ?_)
      refine k_gf q60 0 (K := 6) kq60 rfl rfl rfl rfl ?_
      refine k_runB (pc' := 132) (loc' := [(0, .ref (37 * 1024)), (1, .int x1), (2, .int x2), (3, .int x3), (4, .int x4), (5, .int x5), (6, .int x6), (7, .int x7)]) (st' := [.int x1, .ref (q60 * 1024 + 5), .int (x1 * 6)]) 1 rfl ?_
      obtain ⟨v61, hv61, hD⟩ := Option.bind_eq_some_iff.mp hD
      refine k_ldI rfl (c_get (r := q60) (o := 5) (K := 6) kq60 (by decide)) hv61 ?_
      refine k_runB (pc' := 137) (loc' := [(0, .ref (37 * 1024)), (1, .int x1), (2, .int x2), (3, .int x3), (4, .int x4), (5, .int x5), (6, .int x6), (7, .int x7), (8, .int ((x1 * 6) + v61))]) (st' := [.ref (37 * 1024)]) 3 rfl ?_
      obtain ⟨q62, hq62, hD⟩ := Option.bind_eq_some_iff.mp hD
      refine k_gq 37 0 (K := 11) (K2 := 6) (key := 5) rfl rfl rfl rfl rfl hq62 (fun kq62 => ?_)
      refine k_gf q62 0 (K := 6) kq62 rfl rfl rfl rfl ?_
      refine k_runB (pc' := 146) (loc' := [(0, .ref (37 * 1024)), (1, .int x1), (2, .int x2), (3, .int x3), (4, .int x4), (5, .int x5), (6, .int x6), (7, .int x7), (8, .int ((x1 * 6) + v61))]) (st' := [.int x2, .int ((x1 * 6) + v61), .ref (q62 * 1024 + 6)]) 2 rfl ?_
      obtain ⟨A63, hA63, hD⟩ := Option.bind_eq_some_iff.mp hD
      refine k_cstI q62 6 (K := 6) kq62 rfl rfl rfl (fun _ => rfl) hA63 ?_
      refine k_runB (pc' := 148) (loc' := [(0, .ref (37 * 1024)), (1, .int x1), (2, .int x2), (3, .int x3), (4, .int x4), (5, .int x5), (6, .int x6), (7, .int x7), (8, .int ((x1 * 6) + v61))]) (st' := [.ref (37 * 1024)]) 1 rfl ?_
      obtain ⟨q64, hq64, hD⟩ := Option.bind_eq_some_iff.mp hD
      refine k_gq 37 0 (K := 11) (K2 := 6) (key := 5) rfl rfl rfl rfl rfl hq64 (fun kq64 => ?_)
      refine k_gf q64 0 (K := 6) kq64 rfl rfl rfl rfl ?_
      refine k_runB (pc' := 157) (loc' := [(0, .ref (37 * 1024)), (1, .int x1), (2, .int x2), (3, .int x3), (4, .int x4), (5, .int x5), (6, .int x6), (7, .int x7), (8, .int ((x1 * 6) + v61))]) (st' := [.int x3, .int ((x1 * 6) + v61), .ref (q64 * 1024 + 7)]) 2 rfl ?_
      obtain ⟨A65, hA65, hD⟩ := Option.bind_eq_some_iff.mp hD
      refine k_cstI q64 7 (K := 6) kq64 rfl rfl rfl (fun _ => rfl) hA65 ?_
      refine k_runB (pc' := 159) (loc' := [(0, .ref (37 * 1024)), (1, .int x1), (2, .int x2), (3, .int x3), (4, .int x4), (5, .int x5), (6, .int x6), (7, .int x7), (8, .int ((x1 * 6) + v61))]) (st' := [.ref (37 * 1024)]) 1 rfl ?_
      obtain ⟨q66, hq66, hD⟩ := Option.bind_eq_some_iff.mp hD
      refine k_gq 37 0 (K := 11) (K2 := 6) (key := 5) rfl rfl rfl rfl rfl hq66 (fun kq66 => ?_)
      refine k_gf q66 0 (K := 6) kq66 rfl rfl rfl rfl ?_
      refine k_runB (pc' := 169) (loc' := [(0, .ref (37 * 1024)), (1, .int x1), (2, .int x2), (3, .int x3), (4, .int x4), (5, .int x5), (6, .int x6), (7, .int x7), (8, .int ((x1 * 6) + v61))]) (st' := [.int x4, .int ((x1 * 6) + v61), .ref (q66 * 1024 + 8)]) 2 rfl ?_
      obtain ⟨A67, hA67, hD⟩ := Option.bind_eq_some_iff.mp hD
      refine k_cstI q66 8 (K := 6) kq66 rfl rfl rfl (fun _ => rfl) hA67 ?_
      refine k_runB (pc' := 171) (loc' := [(0, .ref (37 * 1024)), (1, .int x1), (2, .int x2), (3, .int x3), (4, .int x4), (5, .int x5), (6, .int x6), (7, .int x7), (8, .int ((x1 * 6) + v61))]) (st' := [.ref (37 * 1024)]) 1 rfl ?_
      obtain ⟨q68, hq68, hD⟩ := Option.bind_eq_some_iff.mp hD
      refine k_gq 37 0 (K := 11) (K2 := 6) (key := 5) rfl rfl rfl rfl rfl hq68 (fun kq68 => ?_)
      refine k_gf q68 0 (K := 6) kq68 rfl rfl rfl rfl ?_
      refine k_runB (pc' := 181) (loc' := [(0, .ref (37 * 1024)), (1, .int x1), (2, .int x2), (3, .int x3), (4, .int x4), (5, .int x5), (6, .int x6), (7, .int x7), (8, .int ((x1 * 6) + v61))]) (st' := [.int x5, .int ((x1 * 6) + v61), .ref (q68 * 1024 + 9)]) 2 rfl ?_
      obtain ⟨A69, hA69, hD⟩ := Option.bind_eq_some_iff.mp hD
      refine k_cstI q68 9 (K := 6) kq68 rfl rfl rfl (fun _ => rfl) hA69 ?_
      refine k_runB (pc' := 183) (loc' := [(0, .ref (37 * 1024)), (1, .int x1), (2, .int x2), (3, .int x3), (4, .int x4), (5, .int x5), (6, .int x6), (7, .int x7), (8, .int ((x1 * 6) + v61))]) (st' := [.ref (37 * 1024)]) 1 rfl ?_
      obtain ⟨q70, hq70, hD⟩ := Option.bind_eq_some_iff.mp hD
      refine k_gq 37 0 (K := 11) (K2 := 6) (key := 5) rfl rfl rfl rfl rfl hq70 (fun kq70 => ?_)
      refine k_gf q70 0 (K := 6) kq70 rfl rfl rfl rfl ?_
      refine k_runB (pc' := 193) (loc' := [(0, .ref (37 * 1024)), (1, .int x1), (2, .int x2), (3, .int x3), (4, .int x4), (5, .int x5), (6, .int x6), (7, .int x7), (8, .int ((x1 * 6) + v61))]) (st' := [.int x6, .int ((x1 * 6) + v61), .ref (q70 * 1024 + 10)]) 2 rfl ?_
      obtain ⟨A71, hA71, hD⟩ := Option.bind_eq_some_iff.mp hD
      refine k_cstI q70 10 (K := 6) kq70 rfl rfl rfl (fun _ => rfl) hA71 ?_
      refine k_runB (pc' := 195) (loc' := [(0, .ref (37 * 1024)), (1, .int x1), (2, .int x2), (3, .int x3), (4, .int x4), (5, .int x5), (6, .int x6), (7, .int x7), (8, .int ((x1 * 6) + v61))]) (st' := [.ref (37 * 1024)]) 1 rfl ?_
      obtain ⟨q72, hq72, hD⟩ := Option.bind_eq_some_iff.mp hD
      refine k_gq 37 0 (K := 11) (K2 := 6) (key := 5) rfl rfl rfl rfl rfl hq72 (fun kq72 => ?_)
      refine k_gf q72 0 (K := 6) kq72 rfl rfl rfl rfl ?_
      refine k_runB (pc' := 205) (loc' := [(0, .ref (37 * 1024)), (1, .int x1), (2, .int x2), (3, .int x3), (4, .int x4), (5, .int x5), (6, .int x6), (7, .int x7), (8, .int ((x1 * 6) + v61))]) (st' := [.int x7, .int ((x1 * 6) + v61), .ref (q72 * 1024 + 11)]) 2 rfl ?_
      obtain ⟨A73, hA73, hD⟩ := Option.bind_eq_some_iff.mp hD
      refine k_cstI q72 11 (K := 6) kq72 rfl rfl rfl (fun _ => rfl) hA73 ?_
      refine k_runB (pc' := 207) (loc' := [(0, .ref (37 * 1024)), (1, .int x1), (2, .int x2), (3, .int x3), (4, .int x4), (5, .int x5), (6, .int x6), (7, .int x7), (8, .int ((x1 * 6) + v61))]) (st' := [.ref (37 * 1024)]) 1 rfl ?_
      obtain ⟨q74, hq74, hD⟩ := Option.bind_eq_some_iff.mp hD
      refine k_gq 37 0 (K := 11) (K2 := 6) (key := 5) rfl rfl rfl rfl rfl hq74 (fun kq74 => ?_)
      refine k_gf q74 0 (K := 6) kq74 rfl rfl rfl rfl ?_
      refine k_runB (pc' := 215) (loc' := [(0, .ref (37 * 1024)), (1, .int x1), (2, .int x2), (3, .int x3), (4, .int x4), (5, .int x5), (6, .int x6), (7, .int x7), (8, .int ((x1 * 6) + v61))]) (st' := [.int x1, .ref (q74 * 1024 + 5), .int x1, .ref (q74 * 1024 + 5)]) 2 rfl ?_
      obtain ⟨v75, hv75, hD⟩ := Option.bind_eq_some_iff.mp hD
      refine k_ldI rfl (c_get (r := q74) (o := 5) (K := 6) kq74 (by decide)) hv75 ?_
      refine k_runB (pc' := 218) (loc' := [(0, .ref (37 * 1024)), (1, .int x1), (2, .int x2), (3, .int x3), (4, .int x4), (5, .int x5), (6, .int x6), (7, .int x7), (8, .int ((x1 * 6) + v61))]) (st' := [.int (v75 + 1), .int x1, .ref (q74 * 1024 + 5)]) 2 rfl ?_
      obtain ⟨A76, hA76, hD⟩ := Option.bind_eq_some_iff.mp hD
      refine k_cstI q74 5 (K := 6) kq74 rfl rfl rfl (fun _ => rfl) hA76 ?_
      cases hD
      exact k_vret rfl rfl
def e_Reader_readStep_78 (n : Nat) (P : Nat → Nat → Nat) (F : Nat → Nat → Int32) (A : Nat → Nat → Nat → Int32) (J : Nat → Nat → Nat → Int64) (x1 : Int32) (x2 : Int32) (x3 : Int32) (x4 : Int32) (x5 : Int32) (x6 : Int32) : Option (Unit × (Nat → Nat → Nat) × (Nat → Nat → Int32) × (Nat → Nat → Nat → Int32) × (Nat → Nat → Nat → Int64)) :=
    (e_Reader_isNext P F A J 10).bind fun v40 =>
    cond (g_cnd .eq v40 0)
    (e_Reader_readStep_107 n P F A J x1 x2 x3 x4 x5 x6 ((-2)))
    ((e_Reader_take P F A J 10).bind fun (v42, P43, F44, A45, J46) =>
    cond (g_cnd .eq v42 0)
    (e_Reader_readStep_107 n P43 F44 A45 J46 x1 x2 x3 x4 x5 x6 ((-2)))
    ((e_Reader_takeStepNumber P43 F44 A45 J46 x1).bind fun (v48, P49, F50, A51, J52) =>
    e_Reader_readStep_107 n P49 F50 A51 J52 x1 x2 x3 x4 x5 x6 v48))
set_option maxRecDepth 10000 in
theorem t_e_Reader_readStep_78 (ht : ∀ ci k, t.1 ci k = k_ty ci k) {n : Nat}  {P : Nat → Nat → Nat} {F : Nat → Nat → Int32} {A : Nat → Nat → Nat → Int32} {J : Nat → Nat → Nat → Int64} {x1 : Int32} {x2 : Int32} {x3 : Int32} {x4 : Int32} {x5 : Int32} {x6 : Int32}  {w : Unit × (Nat → Nat → Nat) × (Nat → Nat → Int32) × (Nat → Nat → Nat → Int32) × (Nat → Nat → Nat → Int64)} : e_Reader_readStep_78 n P F A J x1 x2 x3 x4 x5 x6 = some w → k_run t lg (d + 4) 56 78 [(0, .ref (37 * 1024)), (1, .int x1), (2, .int x2), (3, .int x3), (4, .int x4), (5, .int x5), (6, .int x6)] [] (c_h c B P F A J) (none, c_h c B w.2.1 w.2.2.1 w.2.2.2.1 w.2.2.2.2) := by
  intro hD
  unfold e_Reader_readStep_78 at hD
  refine k_runB (pc' := 85) (loc' := [(0, .ref (37 * 1024)), (1, .int x1), (2, .int x2), (3, .int x3), (4, .int x4), (5, .int x5), (6, .int x6), (7, .int ((-2)))]) (st' := [.int 10, .ref (37 * 1024)]) 4 rfl ?_
  obtain ⟨v40, hv40, hD⟩ := Option.bind_eq_some_iff.mp hD
  refine k_runV rfl rfl rfl (c_get (r := 37) (o := 0) (K := 11) rfl (by decide)) rfl rfl (t_e_Reader_isNext (d := d + 3) hv40) ?_
  refine k_if rfl (fun c88_40 => ?_) (fun c88_40 => ?_)
  · rw [c88_40, cond_true] at hD
    refine k_wk [0, 1, 2, 3, 4, 5, 6, 7] (loc' := [(0, .ref (37 * 1024)), (1, .int x1), (2, .int x2), (3, .int x3), (4, .int x4), (5, .int x5), (6, .int x6), (7, .int ((-2)))]) rfl rfl ?_
    exact t_e_Reader_readStep_107 ht   hD
  · rw [c88_40, cond_false] at hD
    refine k_runB (pc' := 94) (loc' := [(0, .ref (37 * 1024)), (1, .int x1), (2, .int x2), (3, .int x3), (4, .int x4), (5, .int x5), (6, .int x6), (7, .int ((-2)))]) (st' := [.int 10, .ref (37 * 1024)]) 2 rfl ?_
    obtain ⟨⟨v42, P43, F44, A45, J46⟩, hv42, hD⟩ := Option.bind_eq_some_iff.mp hD
    dsimp only at hD
    refine k_runV rfl rfl rfl (c_get (r := 37) (o := 0) (K := 11) rfl (by decide)) rfl rfl (t_e_Reader_take (d := d + 2) ht hv42) ?_
    refine k_if rfl (fun c97_46 => ?_) (fun c97_46 => ?_)
    · rw [c97_46, cond_true] at hD
      refine k_wk [0, 1, 2, 3, 4, 5, 6, 7] (loc' := [(0, .ref (37 * 1024)), (1, .int x1), (2, .int x2), (3, .int x3), (4, .int x4), (5, .int x5), (6, .int x6), (7, .int ((-2)))]) rfl rfl ?_
      exact t_e_Reader_readStep_107 ht   hD
    · rw [c97_46, cond_false] at hD
      refine k_runB (pc' := 102) (loc' := [(0, .ref (37 * 1024)), (1, .int x1), (2, .int x2), (3, .int x3), (4, .int x4), (5, .int x5), (6, .int x6), (7, .int ((-2)))]) (st' := [.int x1, .ref (37 * 1024)]) 2 rfl ?_
      obtain ⟨⟨v48, P49, F50, A51, J52⟩, hv48, hD⟩ := Option.bind_eq_some_iff.mp hD
      dsimp only at hD
      refine k_runV rfl rfl rfl (c_get (r := 37) (o := 0) (K := 11) rfl (by decide)) rfl rfl (t_e_Reader_takeStepNumber (d := d) ht hv48) ?_
      refine k_runB (pc' := 107) (loc' := [(0, .ref (37 * 1024)), (1, .int x1), (2, .int x2), (3, .int x3), (4, .int x4), (5, .int x5), (6, .int x6), (7, .int v48)]) (st' := []) 1 rfl ?_
      refine k_wk [0, 1, 2, 3, 4, 5, 6, 7] (loc' := [(0, .ref (37 * 1024)), (1, .int x1), (2, .int x2), (3, .int x3), (4, .int x4), (5, .int x5), (6, .int x6), (7, .int v48)]) rfl rfl ?_
      exact t_e_Reader_readStep_107 ht   hD
/-- SleepWork$Reader.readStep()V  -/
def e_Reader_readStep (n : Nat) (P : Nat → Nat → Nat) (F : Nat → Nat → Int32) (A : Nat → Nat → Nat → Int32) (J : Nat → Nat → Nat → Int64) : Option (Unit × (Nat → Nat → Nat) × (Nat → Nat → Int32) × (Nat → Nat → Nat → Int32) × (Nat → Nat → Nat → Int64)) :=
  (e_Reader_takeTaskOfStep n P F A J).bind fun (v1, P2, F3, A4, J5) =>
  (e_Reader_takeNumber P2 F3 A4 J5 1 120).bind fun (v6, P7, F8, A9, J10) =>
  (e_Reader_takeNumber P7 F8 A9 J10 0 99).bind fun (v11, P12, F13, A14, J15) =>
  (e_Reader_takeNumber P12 F13 A14 J15 0 99).bind fun (v16, P17, F18, A19, J20) =>
  (e_Reader_takeNumber P17 F18 A19 J20 0 99).bind fun (v21, P22, F23, A24, J25) =>
  (e_Reader_isNext P22 F23 A24 J25 9).bind fun v26 =>
  cond (g_cnd .eq v26 0)
  (e_Reader_readStep_78 n P22 F23 A24 J25 v1 v6 v11 v16 v21 ((-2)))
  ((e_Reader_take P22 F23 A24 J25 9).bind fun (v28, P29, F30, A31, J32) =>
  cond (g_cnd .eq v28 0)
  (e_Reader_readStep_78 n P29 F30 A31 J32 v1 v6 v11 v16 v21 ((-2)))
  ((c_chk 6 (P29 37 5)).bind fun q34 =>
  (e_Reader_takeKnownName_v2 n P29 F30 A31 J32 (F30 q34 15)).bind fun (v35, P36, F37, A38, J39) =>
  e_Reader_readStep_78 n P36 F37 A38 J39 v1 v6 v11 v16 v21 v35))
set_option maxRecDepth 10000 in
theorem t_e_Reader_readStep (ht : ∀ ci k, t.1 ci k = k_ty ci k) {n : Nat} {P : Nat → Nat → Nat} {F : Nat → Nat → Int32} {A : Nat → Nat → Nat → Int32} {J : Nat → Nat → Nat → Int64}   {w : Unit × (Nat → Nat → Nat) × (Nat → Nat → Int32) × (Nat → Nat → Nat → Int32) × (Nat → Nat → Nat → Int64)} : e_Reader_readStep n P F A J = some w → k_run t lg (d + 4) 56 0 [(0, .ref (37 * 1024))] [] (c_h c B P F A J) (none, c_h c B w.2.1 w.2.2.1 w.2.2.2.1 w.2.2.2.2) := by
  intro hD
  unfold e_Reader_readStep at hD
  refine k_runB (pc' := 1) (loc' := [(0, .ref (37 * 1024))]) (st' := [.ref (37 * 1024)]) 1 rfl ?_
  obtain ⟨⟨v1, P2, F3, A4, J5⟩, hv1, hD⟩ := Option.bind_eq_some_iff.mp hD
  dsimp only at hD
  refine k_runV rfl rfl rfl (c_get (r := 37) (o := 0) (K := 11) rfl (by decide)) rfl rfl (t_e_Reader_takeTaskOfStep (d := d) ht hv1) ?_
  refine k_runB (pc' := 9) (loc' := [(0, .ref (37 * 1024)), (1, .int v1)]) (st' := [.int 120, .int 1, .ref (37 * 1024)]) 4 rfl ?_
  obtain ⟨⟨v6, P7, F8, A9, J10⟩, hv6, hD⟩ := Option.bind_eq_some_iff.mp hD
  dsimp only at hD
  refine k_runV rfl rfl rfl (c_get (r := 37) (o := 0) (K := 11) rfl (by decide)) rfl rfl (t_e_Reader_takeNumber (d := d + 1) ht hv6) ?_
  refine k_runB (pc' := 17) (loc' := [(0, .ref (37 * 1024)), (1, .int v1), (2, .int v6)]) (st' := [.int 99, .int 0, .ref (37 * 1024)]) 4 rfl ?_
  obtain ⟨⟨v11, P12, F13, A14, J15⟩, hv11, hD⟩ := Option.bind_eq_some_iff.mp hD
  dsimp only at hD
  refine k_runV rfl rfl rfl (c_get (r := 37) (o := 0) (K := 11) rfl (by decide)) rfl rfl (t_e_Reader_takeNumber (d := d + 1) ht hv11) ?_
  refine k_runB (pc' := 25) (loc' := [(0, .ref (37 * 1024)), (1, .int v1), (2, .int v6), (3, .int v11)]) (st' := [.int 99, .int 0, .ref (37 * 1024)]) 4 rfl ?_
  obtain ⟨⟨v16, P17, F18, A19, J20⟩, hv16, hD⟩ := Option.bind_eq_some_iff.mp hD
  dsimp only at hD
  refine k_runV rfl rfl rfl (c_get (r := 37) (o := 0) (K := 11) rfl (by decide)) rfl rfl (t_e_Reader_takeNumber (d := d + 1) ht hv16) ?_
  refine k_runB (pc' := 34) (loc' := [(0, .ref (37 * 1024)), (1, .int v1), (2, .int v6), (3, .int v11), (4, .int v16)]) (st' := [.int 99, .int 0, .ref (37 * 1024)]) 4 rfl ?_
  obtain ⟨⟨v21, P22, F23, A24, J25⟩, hv21, hD⟩ := Option.bind_eq_some_iff.mp hD
  dsimp only at hD
  refine k_runV rfl rfl rfl (c_get (r := 37) (o := 0) (K := 11) rfl (by decide)) rfl rfl (t_e_Reader_takeNumber (d := d + 1) ht hv21) ?_
  refine k_runB (pc' := 46) (loc' := [(0, .ref (37 * 1024)), (1, .int v1), (2, .int v6), (3, .int v11), (4, .int v16), (5, .int v21), (6, .int ((-2)))]) (st' := [.int 9, .ref (37 * 1024)]) 5 rfl ?_
  obtain ⟨v26, hv26, hD⟩ := Option.bind_eq_some_iff.mp hD
  refine k_runV rfl rfl rfl (c_get (r := 37) (o := 0) (K := 11) rfl (by decide)) rfl rfl (t_e_Reader_isNext (d := d + 3) hv26) ?_
  refine k_if rfl (fun c49_26 => ?_) (fun c49_26 => ?_)
  · rw [c49_26, cond_true] at hD
    refine k_wk [0, 1, 2, 3, 4, 5, 6] (loc' := [(0, .ref (37 * 1024)), (1, .int v1), (2, .int v6), (3, .int v11), (4, .int v16), (5, .int v21), (6, .int ((-2)))]) rfl rfl ?_
    exact t_e_Reader_readStep_78 ht   hD
  · rw [c49_26, cond_false] at hD
    refine k_runB (pc' := 55) (loc' := [(0, .ref (37 * 1024)), (1, .int v1), (2, .int v6), (3, .int v11), (4, .int v16), (5, .int v21), (6, .int ((-2)))]) (st' := [.int 9, .ref (37 * 1024)]) 2 rfl ?_
    obtain ⟨⟨v28, P29, F30, A31, J32⟩, hv28, hD⟩ := Option.bind_eq_some_iff.mp hD
    dsimp only at hD
    refine k_runV rfl rfl rfl (c_get (r := 37) (o := 0) (K := 11) rfl (by decide)) rfl rfl (t_e_Reader_take (d := d + 2) ht hv28) ?_
    refine k_if rfl (fun c58_32 => ?_) (fun c58_32 => ?_)
    · rw [c58_32, cond_true] at hD
      refine k_wk [0, 1, 2, 3, 4, 5, 6] (loc' := [(0, .ref (37 * 1024)), (1, .int v1), (2, .int v6), (3, .int v11), (4, .int v16), (5, .int v21), (6, .int ((-2)))]) rfl rfl ?_
      exact t_e_Reader_readStep_78 ht   hD
    · rw [c58_32, cond_false] at hD
      refine k_runB (pc' := 63) (loc' := [(0, .ref (37 * 1024)), (1, .int v1), (2, .int v6), (3, .int v11), (4, .int v16), (5, .int v21), (6, .int ((-2)))]) (st' := [.ref (37 * 1024), .ref (37 * 1024)]) 2 rfl ?_
      refine k_gf 37 0 (K := 11) rfl rfl rfl rfl rfl ?_
      refine k_runB (pc' := 67) (loc' := [(0, .ref (37 * 1024)), (1, .int v1), (2, .int v6), (3, .int v11), (4, .int v16), (5, .int v21), (6, .int ((-2)))]) (st' := [.ref (37 * 1024), .ref (37 * 1024 + 8), .ref (37 * 1024)]) 1 rfl ?_
      obtain ⟨q34, hq34, hD⟩ := Option.bind_eq_some_iff.mp hD
      refine k_gq 37 0 (K := 11) (K2 := 6) (key := 5) rfl rfl rfl rfl rfl hq34 (fun kq34 => ?_)
      refine k_gf q34 0 (K := 6) kq34 rfl rfl rfl rfl ?_
      obtain ⟨⟨v35, P36, F37, A38, J39⟩, hv35, hD⟩ := Option.bind_eq_some_iff.mp hD
      dsimp only at hD
      refine k_runV rfl rfl rfl (c_get (r := 37) (o := 0) (K := 11) rfl (by decide)) rfl rfl (t_e_Reader_takeKnownName_v2 (d := d + 1) ht hv35) ?_
      refine k_runB (pc' := 78) (loc' := [(0, .ref (37 * 1024)), (1, .int v1), (2, .int v6), (3, .int v11), (4, .int v16), (5, .int v21), (6, .int v35)]) (st' := []) 1 rfl ?_
      refine k_wk [0, 1, 2, 3, 4, 5, 6] (loc' := [(0, .ref (37 * 1024)), (1, .int v1), (2, .int v6), (3, .int v11), (4, .int v16), (5, .int v21), (6, .int v35)]) rfl rfl ?_
      exact t_e_Reader_readStep_78 ht   hD
def e_Reader_takeNewName_v3_106 (n : Nat) (P : Nat → Nat → Nat) (F : Nat → Nat → Int32) (A : Nat → Nat → Nat → Int32) (J : Nat → Nat → Nat → Int64) (x2 : Int32) (x3 : Int64) : Option (Unit × (Nat → Nat → Nat) × (Nat → Nat → Int32) × (Nat → Nat → Nat → Int32) × (Nat → Nat → Nat → Int64)) :=
    (c_stJ J 37 10 6 x2 x3).bind fun J27 =>
    some ((), P, F, A, J27)
set_option maxRecDepth 10000 in
theorem t_e_Reader_takeNewName_v3_106 (ht : ∀ ci k, t.1 ci k = k_ty ci k) {n : Nat}  {P : Nat → Nat → Nat} {F : Nat → Nat → Int32} {A : Nat → Nat → Nat → Int32} {J : Nat → Nat → Nat → Int64} {x2 : Int32} {x3 : Int64}  {w : Unit × (Nat → Nat → Nat) × (Nat → Nat → Int32) × (Nat → Nat → Nat → Int32) × (Nat → Nat → Nat → Int64)} : e_Reader_takeNewName_v3_106 n P F A J x2 x3 = some w → k_run t lg (d + 2) 47 106 [(0, .ref (37 * 1024)), (1, .ref (37 * 1024 + 10)), (2, .int x2), (3, .long (x3))] [] (c_h c B P F A J) (none, c_h c B w.2.1 w.2.2.1 w.2.2.2.1 w.2.2.2.2) := by
  intro hD
  unfold e_Reader_takeNewName_v3_106 at hD
  refine k_runB (pc' := 109) (loc' := [(0, .ref (37 * 1024)), (1, .ref (37 * 1024 + 10)), (2, .int x2), (3, .long (x3))]) (st' := [.long (x3), .int x2, .ref (37 * 1024 + 10)]) 3 rfl ?_
  obtain ⟨J27, hJ27, hD⟩ := Option.bind_eq_some_iff.mp hD
  refine k_cstL 37 10 (K := 11) rfl rfl rfl rfl (fun _ => rfl) hJ27 ?_
  cases hD
  exact k_vret rfl rfl
def e_Reader_takeNewName_v3_101 (n : Nat) (P : Nat → Nat → Nat) (F : Nat → Nat → Int32) (A : Nat → Nat → Nat → Int32) (J : Nat → Nat → Nat → Int64) (x2 : Int32) (x3 : Int64) : Option (Unit × (Nat → Nat → Nat) × (Nat → Nat → Int32) × (Nat → Nat → Nat → Int32) × (Nat → Nat → Nat → Int64)) :=
    (e_Reader_failLate P F A J 3).bind fun (_, P22, F23, A24, J25) =>
    (c_stJ J25 37 10 6 x2 x3).bind fun J26 =>
    some ((), P22, F23, A24, J26)
set_option maxRecDepth 10000 in
theorem t_e_Reader_takeNewName_v3_101 (ht : ∀ ci k, t.1 ci k = k_ty ci k) {n : Nat}  {P : Nat → Nat → Nat} {F : Nat → Nat → Int32} {A : Nat → Nat → Nat → Int32} {J : Nat → Nat → Nat → Int64} {x2 : Int32} {x3 : Int64}  {w : Unit × (Nat → Nat → Nat) × (Nat → Nat → Int32) × (Nat → Nat → Nat → Int32) × (Nat → Nat → Nat → Int64)} : e_Reader_takeNewName_v3_101 n P F A J x2 x3 = some w → k_run t lg (d + 2) 47 101 [(0, .ref (37 * 1024)), (1, .ref (37 * 1024 + 10)), (2, .int x2), (3, .long (x3))] [] (c_h c B P F A J) (none, c_h c B w.2.1 w.2.2.1 w.2.2.2.1 w.2.2.2.2) := by
  intro hD
  unfold e_Reader_takeNewName_v3_101 at hD
  refine k_runB (pc' := 103) (loc' := [(0, .ref (37 * 1024)), (1, .ref (37 * 1024 + 10)), (2, .int x2), (3, .long (x3))]) (st' := [.int 3, .ref (37 * 1024)]) 2 rfl ?_
  obtain ⟨⟨v21, P22, F23, A24, J25⟩, hv21, hD⟩ := Option.bind_eq_some_iff.mp hD
  dsimp only at hD
  refine k_runV rfl rfl rfl (c_get (r := 37) (o := 0) (K := 11) rfl (by decide)) rfl rfl (t_e_Reader_failLate (d := d + 1) ht hv21) ?_
  refine k_runB (pc' := 109) (loc' := [(0, .ref (37 * 1024)), (1, .ref (37 * 1024 + 10)), (2, .int x2), (3, .long (x3))]) (st' := [.long (x3), .int x2, .ref (37 * 1024 + 10)]) 3 rfl ?_
  obtain ⟨J26, hJ26, hD⟩ := Option.bind_eq_some_iff.mp hD
  refine k_cstL 37 10 (K := 11) rfl rfl rfl rfl (fun _ => rfl) hJ26 ?_
  cases hD
  exact k_vret rfl rfl
/-- SleepWork$Reader.takeNewName([JI)V  -/
def e_Reader_takeNewName_v3 (n : Nat) (P : Nat → Nat → Nat) (F : Nat → Nat → Int32) (A : Nat → Nat → Nat → Int32) (J : Nat → Nat → Nat → Int64) (x2 : Int32) : Option (Unit × (Nat → Nat → Nat) × (Nat → Nat → Int32) × (Nat → Nat → Nat → Int32) × (Nat → Nat → Nat → Int64)) :=
  (e_Reader_take P F A J 100).bind fun (v1, P2, F3, A4, J5) =>
  cond (g_cnd .eq v1 0)
  (some ((), P2, F3, A4, J5))
  (cond (g_cnd .lt x2 (Int32.ofNat 6))
  ((m_ldJ (J5 37 5) 401 (F3 37 8)).bind fun v8 =>
  (c_chk 6 (P2 37 5)).bind fun q9 =>
  (e_Reader_find n P2 F3 A4 J5 v8 (F3 q9 13)).bind fun v10 =>
  cond (g_cnd .ge v10 0)
  (e_Reader_takeNewName_v3_101 n P2 F3 A4 J5 x2 v8)
  ((c_chk 6 (P2 37 5)).bind fun q12 =>
  (e_Reader_find_v1 n P2 F3 A4 J5 v8 (F3 q12 15)).bind fun v13 =>
  cond (g_cnd .ge v13 0)
  (e_Reader_takeNewName_v3_101 n P2 F3 A4 J5 x2 v8)
  ((c_chk 6 (P2 37 5)).bind fun q15 =>
  (e_Reader_find_v2 n P2 F3 A4 J5 v8 (F3 q15 16)).bind fun v16 =>
  cond (g_cnd .ge v16 0)
  (e_Reader_takeNewName_v3_101 n P2 F3 A4 J5 x2 v8)
  ((c_chk 6 (P2 37 5)).bind fun q18 =>
  (e_Reader_find_v3 n P2 F3 A4 J5 v8 (F3 q18 17)).bind fun v19 =>
  cond (g_cnd .lt v19 0)
  (e_Reader_takeNewName_v3_106 n P2 F3 A4 J5 x2 v8)
  (e_Reader_takeNewName_v3_101 n P2 F3 A4 J5 x2 v8)))))
  (some ((), P2, F3, A4, J5)))
set_option maxRecDepth 10000 in
theorem t_e_Reader_takeNewName_v3 (ht : ∀ ci k, t.1 ci k = k_ty ci k) {n : Nat} {P : Nat → Nat → Nat} {F : Nat → Nat → Int32} {A : Nat → Nat → Nat → Int32} {J : Nat → Nat → Nat → Int64} {x2 : Int32}  {w : Unit × (Nat → Nat → Nat) × (Nat → Nat → Int32) × (Nat → Nat → Nat → Int32) × (Nat → Nat → Nat → Int64)} : e_Reader_takeNewName_v3 n P F A J x2 = some w → k_run t lg (d + 2) 47 0 [(0, .ref (37 * 1024)), (1, .ref (37 * 1024 + 10)), (2, .int x2)] [] (c_h c B P F A J) (none, c_h c B w.2.1 w.2.2.1 w.2.2.2.1 w.2.2.2.2) := by
  intro hD
  unfold e_Reader_takeNewName_v3 at hD
  refine k_runB (pc' := 3) (loc' := [(0, .ref (37 * 1024)), (1, .ref (37 * 1024 + 10)), (2, .int x2)]) (st' := [.int 100, .ref (37 * 1024)]) 2 rfl ?_
  obtain ⟨⟨v1, P2, F3, A4, J5⟩, hv1, hD⟩ := Option.bind_eq_some_iff.mp hD
  dsimp only at hD
  refine k_runV rfl rfl rfl (c_get (r := 37) (o := 0) (K := 11) rfl (by decide)) rfl rfl (t_e_Reader_take (d := d) ht hv1) ?_
  refine k_if rfl (fun c6_5 => ?_) (fun c6_5 => ?_)
  · rw [c6_5, cond_true] at hD
    cases hD
    exact k_vret rfl rfl
  · rw [c6_5, cond_false] at hD
    refine k_runB (pc' := 11) (loc' := [(0, .ref (37 * 1024)), (1, .ref (37 * 1024 + 10)), (2, .int x2)]) (st' := [.ref (37 * 1024 + 10), .int x2]) 2 rfl ?_
    refine k_cln 37 10 (K := 11) rfl rfl rfl rfl ?_
    refine k_ic rfl (fun c12_6 => ?_) (fun c12_6 => ?_)
    · rw [c12_6, cond_true] at hD
      refine k_runB (pc' := 17) (loc' := [(0, .ref (37 * 1024)), (1, .ref (37 * 1024 + 10)), (2, .int x2)]) (st' := [.ref (37 * 1024)]) 1 rfl ?_
      refine k_gf 37 0 (K := 11) rfl rfl rfl rfl rfl ?_
      refine k_gf 37 1 (K := 11) rfl rfl rfl rfl rfl ?_
      refine k_runB (pc' := 24) (loc' := [(0, .ref (37 * 1024)), (1, .ref (37 * 1024 + 10)), (2, .int x2)]) (st' := [.ref (37 * 1024), .ref (37 * 1024 + 5)]) 1 rfl ?_
      refine k_gf 37 0 (K := 11) rfl rfl rfl rfl rfl ?_
      obtain ⟨v8, hv8, hD⟩ := Option.bind_eq_some_iff.mp hD
      refine k_ldL rfl (c_get (r := 37) (o := 5) (K := 11) rfl (by decide)) hv8 ?_
      refine k_runB (pc' := 31) (loc' := [(0, .ref (37 * 1024)), (1, .ref (37 * 1024 + 10)), (2, .int x2), (3, .long (v8))]) (st' := [.ref (37 * 1024), .long (v8)]) 3 rfl ?_
      refine k_gf 37 0 (K := 11) rfl rfl rfl rfl rfl ?_
      refine k_runB (pc' := 35) (loc' := [(0, .ref (37 * 1024)), (1, .ref (37 * 1024 + 10)), (2, .int x2), (3, .long (v8))]) (st' := [.ref (37 * 1024), .ref (37 * 1024 + 7), .long (v8)]) 1 rfl ?_
      obtain ⟨q9, hq9, hD⟩ := Option.bind_eq_some_iff.mp hD
      refine k_gq 37 0 (K := 11) (K2 := 6) (key := 5) rfl rfl rfl rfl rfl hq9 (fun kq9 => ?_)
      refine k_gf q9 0 (K := 6) kq9 rfl rfl rfl rfl ?_
      obtain ⟨v10, hv10, hD⟩ := Option.bind_eq_some_iff.mp hD
      refine k_runC rfl rfl rfl rfl (t_e_Reader_find (d := d + 1) hv10) ?_
      refine k_if rfl (fun c44_10 => ?_) (fun c44_10 => ?_)
      · rw [c44_10, cond_true] at hD
        refine k_wk [0, 1, 2, 3] (loc' := [(0, .ref (37 * 1024)), (1, .ref (37 * 1024 + 10)), (2, .int x2), (3, .long (v8))]) rfl rfl ?_
        exact t_e_Reader_takeNewName_v3_101 ht   hD
      · rw [c44_10, cond_false] at hD
        refine k_runB (pc' := 49) (loc' := [(0, .ref (37 * 1024)), (1, .ref (37 * 1024 + 10)), (2, .int x2), (3, .long (v8))]) (st' := [.ref (37 * 1024), .long (v8)]) 2 rfl ?_
        refine k_gf 37 0 (K := 11) rfl rfl rfl rfl rfl ?_
        refine k_runB (pc' := 53) (loc' := [(0, .ref (37 * 1024)), (1, .ref (37 * 1024 + 10)), (2, .int x2), (3, .long (v8))]) (st' := [.ref (37 * 1024), .ref (37 * 1024 + 8), .long (v8)]) 1 rfl ?_
        obtain ⟨q12, hq12, hD⟩ := Option.bind_eq_some_iff.mp hD
        refine k_gq 37 0 (K := 11) (K2 := 6) (key := 5) rfl rfl rfl rfl rfl hq12 (fun kq12 => ?_)
        refine k_gf q12 0 (K := 6) kq12 rfl rfl rfl rfl ?_
        obtain ⟨v13, hv13, hD⟩ := Option.bind_eq_some_iff.mp hD
        refine k_runC rfl rfl rfl rfl (t_e_Reader_find_v1 (d := d + 1) hv13) ?_
        refine k_if rfl (fun c62_13 => ?_) (fun c62_13 => ?_)
        · rw [c62_13, cond_true] at hD
          refine k_wk [0, 1, 2, 3] (loc' := [(0, .ref (37 * 1024)), (1, .ref (37 * 1024 + 10)), (2, .int x2), (3, .long (v8))]) rfl rfl ?_
          exact t_e_Reader_takeNewName_v3_101 ht   hD
        · rw [c62_13, cond_false] at hD
          refine k_runB (pc' := 67) (loc' := [(0, .ref (37 * 1024)), (1, .ref (37 * 1024 + 10)), (2, .int x2), (3, .long (v8))]) (st' := [.ref (37 * 1024), .long (v8)]) 2 rfl ?_
          refine k_gf 37 0 (K := 11) rfl rfl rfl rfl rfl ?_
          refine k_runB (pc' := 71) (loc' := [(0, .ref (37 * 1024)), (1, .ref (37 * 1024 + 10)), (2, .int x2), (3, .long (v8))]) (st' := [.ref (37 * 1024), .ref (37 * 1024 + 9), .long (v8)]) 1 rfl ?_
          obtain ⟨q15, hq15, hD⟩ := Option.bind_eq_some_iff.mp hD
          refine k_gq 37 0 (K := 11) (K2 := 6) (key := 5) rfl rfl rfl rfl rfl hq15 (fun kq15 => ?_)
          refine k_gf q15 0 (K := 6) kq15 rfl rfl rfl rfl ?_
          obtain ⟨v16, hv16, hD⟩ := Option.bind_eq_some_iff.mp hD
          refine k_runC rfl rfl rfl rfl (t_e_Reader_find_v2 (d := d + 1) hv16) ?_
          refine k_if rfl (fun c80_16 => ?_) (fun c80_16 => ?_)
          · rw [c80_16, cond_true] at hD
            refine k_wk [0, 1, 2, 3] (loc' := [(0, .ref (37 * 1024)), (1, .ref (37 * 1024 + 10)), (2, .int x2), (3, .long (v8))]) rfl rfl ?_
            exact t_e_Reader_takeNewName_v3_101 ht   hD
          · rw [c80_16, cond_false] at hD
            refine k_runB (pc' := 85) (loc' := [(0, .ref (37 * 1024)), (1, .ref (37 * 1024 + 10)), (2, .int x2), (3, .long (v8))]) (st' := [.ref (37 * 1024), .long (v8)]) 2 rfl ?_
            refine k_gf 37 0 (K := 11) rfl rfl rfl rfl rfl ?_
            refine k_runB (pc' := 89) (loc' := [(0, .ref (37 * 1024)), (1, .ref (37 * 1024 + 10)), (2, .int x2), (3, .long (v8))]) (st' := [.ref (37 * 1024), .ref (37 * 1024 + 10), .long (v8)]) 1 rfl ?_
            obtain ⟨q18, hq18, hD⟩ := Option.bind_eq_some_iff.mp hD
            refine k_gq 37 0 (K := 11) (K2 := 6) (key := 5) rfl rfl rfl rfl rfl hq18 (fun kq18 => ?_)
            refine k_gf q18 0 (K := 6) kq18 rfl rfl rfl rfl ?_
            obtain ⟨v19, hv19, hD⟩ := Option.bind_eq_some_iff.mp hD
            refine k_runC rfl rfl rfl rfl (t_e_Reader_find_v3 (d := d + 1) hv19) ?_
            refine k_if rfl (fun c98_19 => ?_) (fun c98_19 => ?_)
            · rw [c98_19, cond_true] at hD
              refine k_wk [0, 1, 2, 3] (loc' := [(0, .ref (37 * 1024)), (1, .ref (37 * 1024 + 10)), (2, .int x2), (3, .long (v8))]) rfl rfl ?_
              exact t_e_Reader_takeNewName_v3_106 ht   hD
            · rw [c98_19, cond_false] at hD
              refine k_wk [0, 1, 2, 3] (loc' := [(0, .ref (37 * 1024)), (1, .ref (37 * 1024 + 10)), (2, .int x2), (3, .long (v8))]) rfl rfl ?_
              exact t_e_Reader_takeNewName_v3_101 ht   hD
    · rw [c12_6, cond_false] at hD
      cases hD
      exact k_vret rfl rfl
end MC
end Qz27
section Qz28
/-! the class's methods as functions (printed by wip/dec2.py) -/
section MC
variable {t : gT} {lg : Nat → Nat} {d : Nat} {c : Nat × Nat} {B : Nat → List gE}
def e_Reader_readMan_92 (n : Nat) (P : Nat → Nat → Nat) (F : Nat → Nat → Int32) (A : Nat → Nat → Nat → Int32) (J : Nat → Nat → Nat → Int64) (x1 : Int32) (x2 : Int32) : Option (Unit × (Nat → Nat → Nat) × (Nat → Nat → Int32) × (Nat → Nat → Nat → Int32) × (Nat → Nat → Nat → Int64)) :=
    (e_Reader_take P F A J 59).bind fun (v38, P39, F40, A41, J42) =>
    cond (g_cnd .eq v38 0)
    (some ((), P39, F40, A41, J42))
    ((c_chk 6 (P39 37 5)).bind fun q44 =>
    (c_chk 6 (P39 37 5)).bind fun q45 =>
    (c_st A41 q44 12 6 (F40 q45 17) x1).bind fun A46 =>
    (c_chk 2 (P39 37 6)).bind fun q47 =>
    (c_chk 6 (P39 37 5)).bind fun q48 =>
    (c_st A46 q47 3 6 (F40 q48 17) x2).bind fun A49 =>
    (c_chk 6 (P39 37 5)).bind fun q50 =>
    (c_pf F40 q50 17 ((F40 q50 17) + 1)).bind fun F51 =>
    some ((), P39, F51, A49, J42))
set_option maxRecDepth 10000 in
theorem t_e_Reader_readMan_92 (ht : ∀ ci k, t.1 ci k = k_ty ci k) {n : Nat}  {P : Nat → Nat → Nat} {F : Nat → Nat → Int32} {A : Nat → Nat → Nat → Int32} {J : Nat → Nat → Nat → Int64} {x1 : Int32} {x2 : Int32}  {w : Unit × (Nat → Nat → Nat) × (Nat → Nat → Int32) × (Nat → Nat → Nat → Int32) × (Nat → Nat → Nat → Int64)} : e_Reader_readMan_92 n P F A J x1 x2 = some w → k_run t lg (d + 4) 58 92 [(0, .ref (37 * 1024)), (1, .int x1), (2, .int x2)] [] (c_h c B P F A J) (none, c_h c B w.2.1 w.2.2.1 w.2.2.2.1 w.2.2.2.2) := by
  intro hD
  unfold e_Reader_readMan_92 at hD
  refine k_runB (pc' := 95) (loc' := [(0, .ref (37 * 1024)), (1, .int x1), (2, .int x2)]) (st' := [.int 59, .ref (37 * 1024)]) 2 rfl ?_
  obtain ⟨⟨v38, P39, F40, A41, J42⟩, hv38, hD⟩ := Option.bind_eq_some_iff.mp hD
  dsimp only at hD
  refine k_runV rfl rfl rfl (c_get (r := 37) (o := 0) (K := 11) rfl (by decide)) rfl rfl (t_e_Reader_take (d := d + 2) ht hv38) ?_
  refine k_if rfl (fun c98_42 => ?_) (fun c98_42 => ?_)
  · rw [c98_42, cond_true] at hD
    cases hD
    exact k_vret rfl rfl
  · rw [c98_42, cond_false] at hD
    refine k_runB (pc' := 102) (loc' := [(0, .ref (37 * 1024)), (1, .int x1), (2, .int x2)]) (st' := [.ref (37 * 1024)]) 1 rfl ?_
    obtain ⟨q44, hq44, hD⟩ := Option.bind_eq_some_iff.mp hD
    refine k_gq 37 0 (K := 11) (K2 := 6) (key := 5) rfl rfl rfl rfl rfl hq44 (fun kq44 => ?_)
    refine k_gf q44 0 (K := 6) kq44 rfl rfl rfl rfl ?_
    refine k_runB (pc' := 109) (loc' := [(0, .ref (37 * 1024)), (1, .int x1), (2, .int x2)]) (st' := [.ref (37 * 1024), .ref (q44 * 1024 + 12)]) 1 rfl ?_
    obtain ⟨q45, hq45, hD⟩ := Option.bind_eq_some_iff.mp hD
    refine k_gq 37 0 (K := 11) (K2 := 6) (key := 5) rfl rfl rfl rfl rfl hq45 (fun kq45 => ?_)
    refine k_gf q45 0 (K := 6) kq45 rfl rfl rfl rfl ?_
    refine k_runB (pc' := 116) (loc' := [(0, .ref (37 * 1024)), (1, .int x1), (2, .int x2)]) (st' := [.int x1, .int (F40 q45 17), .ref (q44 * 1024 + 12)]) 1 rfl ?_
    obtain ⟨A46, hA46, hD⟩ := Option.bind_eq_some_iff.mp hD
    refine k_cstI q44 12 (K := 6) kq44 rfl rfl rfl (fun _ => rfl) hA46 ?_
    refine k_runB (pc' := 118) (loc' := [(0, .ref (37 * 1024)), (1, .int x1), (2, .int x2)]) (st' := [.ref (37 * 1024)]) 1 rfl ?_
    obtain ⟨q47, hq47, hD⟩ := Option.bind_eq_some_iff.mp hD
    refine k_gq 37 0 (K := 11) (K2 := 2) (key := 6) rfl rfl rfl rfl rfl hq47 (fun kq47 => ?_)
    refine k_gf q47 0 (K := 2) kq47 rfl rfl rfl rfl ?_
    refine k_runB (pc' := 125) (loc' := [(0, .ref (37 * 1024)), (1, .int x1), (2, .int x2)]) (st' := [.ref (37 * 1024), .ref (q47 * 1024 + 3)]) 1 rfl ?_
    obtain ⟨q48, hq48, hD⟩ := Option.bind_eq_some_iff.mp hD
    refine k_gq 37 0 (K := 11) (K2 := 6) (key := 5) rfl rfl rfl rfl rfl hq48 (fun kq48 => ?_)
    refine k_gf q48 0 (K := 6) kq48 rfl rfl rfl rfl ?_
    refine k_runB (pc' := 132) (loc' := [(0, .ref (37 * 1024)), (1, .int x1), (2, .int x2)]) (st' := [.int x2, .int (F40 q48 17), .ref (q47 * 1024 + 3)]) 1 rfl ?_
    obtain ⟨A49, hA49, hD⟩ := Option.bind_eq_some_iff.mp hD
    refine k_cstI q47 3 (K := 2) kq47 rfl rfl rfl (fun _ => rfl) hA49 ?_
    refine k_runB (pc' := 134) (loc' := [(0, .ref (37 * 1024)), (1, .int x1), (2, .int x2)]) (st' := [.ref (37 * 1024)]) 1 rfl ?_
    obtain ⟨q50, hq50, hD⟩ := Option.bind_eq_some_iff.mp hD
    refine k_gq 37 0 (K := 11) (K2 := 6) (key := 5) rfl rfl rfl rfl rfl hq50 (fun kq50 => ?_)
    refine k_runB (pc' := 138) (loc' := [(0, .ref (37 * 1024)), (1, .int x1), (2, .int x2)]) (st' := [.ref (q50 * 1024), .ref (q50 * 1024)]) 1 rfl ?_
    refine k_gf q50 0 (K := 6) kq50 rfl rfl rfl rfl ?_
    refine k_runB (pc' := 143) (loc' := [(0, .ref (37 * 1024)), (1, .int x1), (2, .int x2)]) (st' := [.int ((F40 q50 17) + 1), .ref (q50 * 1024)]) 2 rfl ?_
    obtain ⟨F51, hF51, hD⟩ := Option.bind_eq_some_iff.mp hD
    refine k_cpt q50 0 (K := 6) (key := 17) kq50 rfl (ht 1 17) rfl rfl rfl hF51 ?_
    cases hD
    exact k_vret rfl rfl
/-- SleepWork$Reader.readMan()V  -/
def e_Reader_readMan (n : Nat) (P : Nat → Nat → Nat) (F : Nat → Nat → Int32) (A : Nat → Nat → Nat → Int32) (J : Nat → Nat → Nat → Int64) : Option (Unit × (Nat → Nat → Nat) × (Nat → Nat → Int32) × (Nat → Nat → Nat → Int32) × (Nat → Nat → Nat → Int64)) :=
  (c_chk 6 (P 37 5)).bind fun q1 =>
  (e_Reader_takeFirst P F A J 5 (F q1 17) 6).bind fun (_, P3, F4, A5, J6) =>
  (c_chk 6 (P3 37 5)).bind fun q7 =>
  (e_Reader_takeNewName_v3 n P3 F4 A5 J6 (F4 q7 17)).bind fun (_, P9, F10, A11, J12) =>
  (c_chk 6 (P9 37 5)).bind fun q13 =>
  (e_Reader_takeKnownName n P9 F10 A11 J12 (F10 q13 13)).bind fun (v14, P15, F16, A17, J18) =>
  (e_Reader_isNext P15 F16 A17 J18 11).bind fun v19 =>
  cond (g_cnd .eq v19 0)
  (e_Reader_readMan_92 n P15 F16 A17 J18 v14 ((-1)))
  ((e_Reader_take P15 F16 A17 J18 11).bind fun (v21, P22, F23, A24, J25) =>
  cond (g_cnd .eq v21 0)
  (e_Reader_readMan_92 n P22 F23 A24 J25 v14 ((-1)))
  ((c_chk 6 (P22 37 5)).bind fun q27 =>
  (e_Reader_takeKnownName_v1 n P22 F23 A24 J25 (F23 q27 16)).bind fun (v28, P29, F30, A31, J32) =>
  (e_Reader_takeStepNumber P29 F30 A31 J32 v28).bind fun (v33, P34, F35, A36, J37) =>
  e_Reader_readMan_92 n P34 F35 A36 J37 v14 ((v28 * 6) + v33)))
set_option maxRecDepth 10000 in
theorem t_e_Reader_readMan (ht : ∀ ci k, t.1 ci k = k_ty ci k) {n : Nat} {P : Nat → Nat → Nat} {F : Nat → Nat → Int32} {A : Nat → Nat → Nat → Int32} {J : Nat → Nat → Nat → Int64}   {w : Unit × (Nat → Nat → Nat) × (Nat → Nat → Int32) × (Nat → Nat → Nat → Int32) × (Nat → Nat → Nat → Int64)} : e_Reader_readMan n P F A J = some w → k_run t lg (d + 4) 58 0 [(0, .ref (37 * 1024))] [] (c_h c B P F A J) (none, c_h c B w.2.1 w.2.2.1 w.2.2.2.1 w.2.2.2.2) := by
  intro hD
  unfold e_Reader_readMan at hD
  refine k_runB (pc' := 3) (loc' := [(0, .ref (37 * 1024))]) (st' := [.ref (37 * 1024), .int 5, .ref (37 * 1024)]) 3 rfl ?_
  obtain ⟨q1, hq1, hD⟩ := Option.bind_eq_some_iff.mp hD
  refine k_gq 37 0 (K := 11) (K2 := 6) (key := 5) rfl rfl rfl rfl rfl hq1 (fun kq1 => ?_)
  refine k_gf q1 0 (K := 6) kq1 rfl rfl rfl rfl ?_
  refine k_runB (pc' := 11) (loc' := [(0, .ref (37 * 1024))]) (st' := [.int 6, .int (F q1 17), .int 5, .ref (37 * 1024)]) 1 rfl ?_
  obtain ⟨⟨v2, P3, F4, A5, J6⟩, hv2, hD⟩ := Option.bind_eq_some_iff.mp hD
  dsimp only at hD
  refine k_runV rfl rfl rfl (c_get (r := 37) (o := 0) (K := 11) rfl (by decide)) rfl rfl (t_e_Reader_takeFirst (d := d + 1) ht hv2) ?_
  refine k_runB (pc' := 16) (loc' := [(0, .ref (37 * 1024))]) (st' := [.ref (37 * 1024), .ref (37 * 1024)]) 2 rfl ?_
  refine k_gf 37 0 (K := 11) rfl rfl rfl rfl rfl ?_
  refine k_runB (pc' := 20) (loc' := [(0, .ref (37 * 1024))]) (st' := [.ref (37 * 1024), .ref (37 * 1024 + 10), .ref (37 * 1024)]) 1 rfl ?_
  obtain ⟨q7, hq7, hD⟩ := Option.bind_eq_some_iff.mp hD
  refine k_gq 37 0 (K := 11) (K2 := 6) (key := 5) rfl rfl rfl rfl rfl hq7 (fun kq7 => ?_)
  refine k_gf q7 0 (K := 6) kq7 rfl rfl rfl rfl ?_
  obtain ⟨⟨v8, P9, F10, A11, J12⟩, hv8, hD⟩ := Option.bind_eq_some_iff.mp hD
  dsimp only at hD
  refine k_runV rfl rfl rfl (c_get (r := 37) (o := 0) (K := 11) rfl (by decide)) rfl rfl (t_e_Reader_takeNewName_v3 (d := d + 1) ht hv8) ?_
  refine k_runB (pc' := 31) (loc' := [(0, .ref (37 * 1024))]) (st' := [.ref (37 * 1024), .ref (37 * 1024)]) 2 rfl ?_
  refine k_gf 37 0 (K := 11) rfl rfl rfl rfl rfl ?_
  refine k_runB (pc' := 35) (loc' := [(0, .ref (37 * 1024))]) (st' := [.ref (37 * 1024), .ref (37 * 1024 + 7), .ref (37 * 1024)]) 1 rfl ?_
  obtain ⟨q13, hq13, hD⟩ := Option.bind_eq_some_iff.mp hD
  refine k_gq 37 0 (K := 11) (K2 := 6) (key := 5) rfl rfl rfl rfl rfl hq13 (fun kq13 => ?_)
  refine k_gf q13 0 (K := 6) kq13 rfl rfl rfl rfl ?_
  obtain ⟨⟨v14, P15, F16, A17, J18⟩, hv14, hD⟩ := Option.bind_eq_some_iff.mp hD
  dsimp only at hD
  refine k_runV rfl rfl rfl (c_get (r := 37) (o := 0) (K := 11) rfl (by decide)) rfl rfl (t_e_Reader_takeKnownName (d := d + 1) ht hv14) ?_
  refine k_runB (pc' := 50) (loc' := [(0, .ref (37 * 1024)), (1, .int v14), (2, .int ((-1)))]) (st' := [.int 11, .ref (37 * 1024)]) 5 rfl ?_
  obtain ⟨v19, hv19, hD⟩ := Option.bind_eq_some_iff.mp hD
  refine k_runV rfl rfl rfl (c_get (r := 37) (o := 0) (K := 11) rfl (by decide)) rfl rfl (t_e_Reader_isNext (d := d + 3) hv19) ?_
  refine k_if rfl (fun c53_19 => ?_) (fun c53_19 => ?_)
  · rw [c53_19, cond_true] at hD
    refine k_wk [0, 1, 2] (loc' := [(0, .ref (37 * 1024)), (1, .int v14), (2, .int ((-1)))]) rfl rfl ?_
    exact t_e_Reader_readMan_92 ht   hD
  · rw [c53_19, cond_false] at hD
    refine k_runB (pc' := 59) (loc' := [(0, .ref (37 * 1024)), (1, .int v14), (2, .int ((-1)))]) (st' := [.int 11, .ref (37 * 1024)]) 2 rfl ?_
    obtain ⟨⟨v21, P22, F23, A24, J25⟩, hv21, hD⟩ := Option.bind_eq_some_iff.mp hD
    dsimp only at hD
    refine k_runV rfl rfl rfl (c_get (r := 37) (o := 0) (K := 11) rfl (by decide)) rfl rfl (t_e_Reader_take (d := d + 2) ht hv21) ?_
    refine k_if rfl (fun c62_25 => ?_) (fun c62_25 => ?_)
    · rw [c62_25, cond_true] at hD
      refine k_wk [0, 1, 2] (loc' := [(0, .ref (37 * 1024)), (1, .int v14), (2, .int ((-1)))]) rfl rfl ?_
      exact t_e_Reader_readMan_92 ht   hD
    · rw [c62_25, cond_false] at hD
      refine k_runB (pc' := 67) (loc' := [(0, .ref (37 * 1024)), (1, .int v14), (2, .int ((-1)))]) (st' := [.ref (37 * 1024), .ref (37 * 1024)]) 2 rfl ?_
      refine k_gf 37 0 (K := 11) rfl rfl rfl rfl rfl ?_
      refine k_runB (pc' := 71) (loc' := [(0, .ref (37 * 1024)), (1, .int v14), (2, .int ((-1)))]) (st' := [.ref (37 * 1024), .ref (37 * 1024 + 9), .ref (37 * 1024)]) 1 rfl ?_
      obtain ⟨q27, hq27, hD⟩ := Option.bind_eq_some_iff.mp hD
      refine k_gq 37 0 (K := 11) (K2 := 6) (key := 5) rfl rfl rfl rfl rfl hq27 (fun kq27 => ?_)
      refine k_gf q27 0 (K := 6) kq27 rfl rfl rfl rfl ?_
      obtain ⟨⟨v28, P29, F30, A31, J32⟩, hv28, hD⟩ := Option.bind_eq_some_iff.mp hD
      dsimp only at hD
      refine k_runV rfl rfl rfl (c_get (r := 37) (o := 0) (K := 11) rfl (by decide)) rfl rfl (t_e_Reader_takeKnownName_v1 (d := d + 1) ht hv28) ?_
      refine k_runB (pc' := 87) (loc' := [(0, .ref (37 * 1024)), (1, .int v14), (2, .int ((-1))), (3, .int v28)]) (st' := [.int v28, .ref (37 * 1024), .int (v28 * 6)]) 6 rfl ?_
      obtain ⟨⟨v33, P34, F35, A36, J37⟩, hv33, hD⟩ := Option.bind_eq_some_iff.mp hD
      dsimp only at hD
      refine k_runV rfl rfl rfl (c_get (r := 37) (o := 0) (K := 11) rfl (by decide)) rfl rfl (t_e_Reader_takeStepNumber (d := d) ht hv33) ?_
      refine k_runB (pc' := 92) (loc' := [(0, .ref (37 * 1024)), (1, .int v14), (2, .int ((v28 * 6) + v33)), (3, .int v28)]) (st' := []) 2 rfl ?_
      refine k_wk [0, 1, 2] (loc' := [(0, .ref (37 * 1024)), (1, .int v14), (2, .int ((v28 * 6) + v33))]) rfl rfl ?_
      exact t_e_Reader_readMan_92 ht   hD
/-- SleepWork$Reader.takeKnownName([JI)I  -/
def e_Reader_takeKnownName_v3 (n : Nat) (P : Nat → Nat → Nat) (F : Nat → Nat → Int32) (A : Nat → Nat → Nat → Int32) (J : Nat → Nat → Nat → Int64) (x2 : Int32) : Option (Int32 × (Nat → Nat → Nat) × (Nat → Nat → Int32) × (Nat → Nat → Nat → Int32) × (Nat → Nat → Nat → Int64)) :=
  (e_Reader_take P F A J 100).bind fun (v1, P2, F3, A4, J5) =>
  cond (g_cnd .ne v1 0)
  ((m_ldJ (J5 37 5) 401 (F3 37 8)).bind fun v7 =>
  (e_Reader_find_v3 n P2 F3 A4 J5 v7 x2).bind fun v8 =>
  cond (g_cnd .ge v8 0)
  (some (v8, P2, F3, A4, J5))
  ((e_Reader_failLate P2 F3 A4 J5 4).bind fun (_, P11, F12, A13, J14) =>
  some (v8, P11, F12, A13, J14)))
  (some ((-1), P2, F3, A4, J5))
set_option maxRecDepth 10000 in
theorem t_e_Reader_takeKnownName_v3 (ht : ∀ ci k, t.1 ci k = k_ty ci k) {n : Nat} {P : Nat → Nat → Nat} {F : Nat → Nat → Int32} {A : Nat → Nat → Nat → Int32} {J : Nat → Nat → Nat → Int64} {x2 : Int32}  {w : Int32 × (Nat → Nat → Nat) × (Nat → Nat → Int32) × (Nat → Nat → Nat → Int32) × (Nat → Nat → Nat → Int64)} : e_Reader_takeKnownName_v3 n P F A J x2 = some w → k_run t lg (d + 2) 48 0 [(0, .ref (37 * 1024)), (1, .ref (37 * 1024 + 10)), (2, .int x2)] [] (c_h c B P F A J) (some (.int w.1), c_h c B w.2.1 w.2.2.1 w.2.2.2.1 w.2.2.2.2) := by
  intro hD
  unfold e_Reader_takeKnownName_v3 at hD
  refine k_runB (pc' := 3) (loc' := [(0, .ref (37 * 1024)), (1, .ref (37 * 1024 + 10)), (2, .int x2)]) (st' := [.int 100, .ref (37 * 1024)]) 2 rfl ?_
  obtain ⟨⟨v1, P2, F3, A4, J5⟩, hv1, hD⟩ := Option.bind_eq_some_iff.mp hD
  dsimp only at hD
  refine k_runV rfl rfl rfl (c_get (r := 37) (o := 0) (K := 11) rfl (by decide)) rfl rfl (t_e_Reader_take (d := d) ht hv1) ?_
  refine k_if rfl (fun c6_5 => ?_) (fun c6_5 => ?_)
  · rw [c6_5, cond_true] at hD
    refine k_runB (pc' := 12) (loc' := [(0, .ref (37 * 1024)), (1, .ref (37 * 1024 + 10)), (2, .int x2)]) (st' := [.ref (37 * 1024)]) 1 rfl ?_
    refine k_gf 37 0 (K := 11) rfl rfl rfl rfl rfl ?_
    refine k_gf 37 1 (K := 11) rfl rfl rfl rfl rfl ?_
    refine k_runB (pc' := 19) (loc' := [(0, .ref (37 * 1024)), (1, .ref (37 * 1024 + 10)), (2, .int x2)]) (st' := [.ref (37 * 1024), .ref (37 * 1024 + 5)]) 1 rfl ?_
    refine k_gf 37 0 (K := 11) rfl rfl rfl rfl rfl ?_
    obtain ⟨v7, hv7, hD⟩ := Option.bind_eq_some_iff.mp hD
    refine k_ldL rfl (c_get (r := 37) (o := 5) (K := 11) rfl (by decide)) hv7 ?_
    refine k_runB (pc' := 25) (loc' := [(0, .ref (37 * 1024)), (1, .ref (37 * 1024 + 10)), (2, .int x2)]) (st' := [.int x2, .ref (37 * 1024 + 10), .long (v7)]) 2 rfl ?_
    obtain ⟨v8, hv8, hD⟩ := Option.bind_eq_some_iff.mp hD
    refine k_runC rfl rfl rfl rfl (t_e_Reader_find_v3 (d := d + 1) hv8) ?_
    refine k_runB (pc' := 30) (loc' := [(0, .ref (37 * 1024)), (1, .ref (37 * 1024 + 10)), (2, .int x2), (3, .int v8)]) (st' := [.int v8]) 2 rfl ?_
    refine k_if rfl (fun c30_8 => ?_) (fun c30_8 => ?_)
    · rw [c30_8, cond_true] at hD
      refine k_runB (pc' := 39) (loc' := [(0, .ref (37 * 1024)), (1, .ref (37 * 1024 + 10)), (2, .int x2), (3, .int v8)]) (st' := [.int v8]) 1 rfl ?_
      cases hD
      exact k_iret rfl rfl
    · rw [c30_8, cond_false] at hD
      refine k_runB (pc' := 35) (loc' := [(0, .ref (37 * 1024)), (1, .ref (37 * 1024 + 10)), (2, .int x2), (3, .int v8)]) (st' := [.int 4, .ref (37 * 1024)]) 2 rfl ?_
      obtain ⟨⟨v10, P11, F12, A13, J14⟩, hv10, hD⟩ := Option.bind_eq_some_iff.mp hD
      dsimp only at hD
      refine k_runV rfl rfl rfl (c_get (r := 37) (o := 0) (K := 11) rfl (by decide)) rfl rfl (t_e_Reader_failLate (d := d + 1) ht hv10) ?_
      refine k_runB (pc' := 39) (loc' := [(0, .ref (37 * 1024)), (1, .ref (37 * 1024 + 10)), (2, .int x2), (3, .int v8)]) (st' := [.int v8]) 1 rfl ?_
      cases hD
      exact k_iret rfl rfl
  · rw [c6_5, cond_false] at hD
    refine k_runB (pc' := 10) (loc' := [(0, .ref (37 * 1024)), (1, .ref (37 * 1024 + 10)), (2, .int x2)]) (st' := [.int ((-1))]) 1 rfl ?_
    cases hD
    exact k_iret rfl rfl
def e_Reader_readUnit_97 (KS : (Nat → Nat → Nat) → (Nat → Nat → Int32) → (Nat → Nat → Nat → Int32) → (Nat → Nat → Nat → Int64) → Int32 → Option (Unit × (Nat → Nat → Nat) × (Nat → Nat → Int32) × (Nat → Nat → Nat → Int32) × (Nat → Nat → Nat → Int64))) (K58 : (Nat → Nat → Nat) → (Nat → Nat → Int32) → (Nat → Nat → Nat → Int32) → (Nat → Nat → Nat → Int64) → Int32 → Option (Unit × (Nat → Nat → Nat) × (Nat → Nat → Int32) × (Nat → Nat → Nat → Int32) × (Nat → Nat → Nat → Int64))) (n : Nat) (P : Nat → Nat → Nat) (F : Nat → Nat → Int32) (A : Nat → Nat → Nat → Int32) (J : Nat → Nat → Nat → Int64) (x2 : Int32) : Option (Unit × (Nat → Nat → Nat) × (Nat → Nat → Int32) × (Nat → Nat → Nat → Int32) × (Nat → Nat → Nat → Int64)) :=
    K58 P F A J (x2 + 1)
set_option maxRecDepth 10000 in
theorem t_e_Reader_readUnit_97 (ht : ∀ ci k, t.1 ci k = k_ty ci k) {n : Nat} {KS : (Nat → Nat → Nat) → (Nat → Nat → Int32) → (Nat → Nat → Nat → Int32) → (Nat → Nat → Nat → Int64) → Int32 → Option (Unit × (Nat → Nat → Nat) × (Nat → Nat → Int32) × (Nat → Nat → Nat → Int32) × (Nat → Nat → Nat → Int64))} (hKS : ∀ (P : Nat → Nat → Nat) (F : Nat → Nat → Int32) (A : Nat → Nat → Nat → Int32) (J : Nat → Nat → Nat → Int64) (x1 : Int32) (w : Unit × (Nat → Nat → Nat) × (Nat → Nat → Int32) × (Nat → Nat → Nat → Int32) × (Nat → Nat → Nat → Int64)), KS P F A J x1 = some w → k_run t lg (d + 4) 62 0 [(0, .ref (37 * 1024)), (1, .int x1)] [] (c_h c B P F A J) (none, c_h c B w.2.1 w.2.2.1 w.2.2.2.1 w.2.2.2.2)) {K58 : (Nat → Nat → Nat) → (Nat → Nat → Int32) → (Nat → Nat → Nat → Int32) → (Nat → Nat → Nat → Int64) → Int32 → Option (Unit × (Nat → Nat → Nat) × (Nat → Nat → Int32) × (Nat → Nat → Nat → Int32) × (Nat → Nat → Nat → Int64))} (hK58 : ∀ (P : Nat → Nat → Nat) (F : Nat → Nat → Int32) (A : Nat → Nat → Nat → Int32) (J : Nat → Nat → Nat → Int64) (x2 : Int32) (w : Unit × (Nat → Nat → Nat) × (Nat → Nat → Int32) × (Nat → Nat → Nat → Int32) × (Nat → Nat → Nat → Int64)), K58 P F A J x2 = some w → k_run t lg (d + 5) 65 58 [(0, .ref (37 * 1024)), (2, .int x2)] [] (c_h c B P F A J) (none, c_h c B w.2.1 w.2.2.1 w.2.2.2.1 w.2.2.2.2)) {P : Nat → Nat → Nat} {F : Nat → Nat → Int32} {A : Nat → Nat → Nat → Int32} {J : Nat → Nat → Nat → Int64} {x2 : Int32}  {w : Unit × (Nat → Nat → Nat) × (Nat → Nat → Int32) × (Nat → Nat → Nat → Int32) × (Nat → Nat → Nat → Int64)} : e_Reader_readUnit_97 KS K58 n P F A J x2 = some w → k_run t lg (d + 5) 65 97 [(0, .ref (37 * 1024)), (2, .int x2)] [] (c_h c B P F A J) (none, c_h c B w.2.1 w.2.2.1 w.2.2.2.1 w.2.2.2.2) := by
  intro hD
  unfold e_Reader_readUnit_97 at hD
  refine k_runB (pc' := 58) (loc' := [(0, .ref (37 * 1024)), (2, .int (x2 + 1))]) (st' := []) 2 rfl ?_
  refine k_wk [0, 2] (loc' := [(0, .ref (37 * 1024)), (2, .int (x2 + 1))]) rfl rfl ?_
  exact hK58 _ _ _ _ _ _  hD
def e_Reader_readUnit_58 (KS : (Nat → Nat → Nat) → (Nat → Nat → Int32) → (Nat → Nat → Nat → Int32) → (Nat → Nat → Nat → Int64) → Int32 → Option (Unit × (Nat → Nat → Nat) × (Nat → Nat → Int32) × (Nat → Nat → Nat → Int32) × (Nat → Nat → Nat → Int64))) : Nat → (Nat → Nat → Nat) → (Nat → Nat → Int32) → (Nat → Nat → Nat → Int32) → (Nat → Nat → Nat → Int64) → Int32 → Option (Unit × (Nat → Nat → Nat) × (Nat → Nat → Int32) × (Nat → Nat → Nat → Int32) × (Nat → Nat → Nat → Int64))
  | 0, _, _, _, _, _ => none
  | n + 1, P, F, A, J, x2 => cond (g_cnd .gt x2 20)
    ((e_Reader_take P F A J 101).bind fun (v26, P27, F28, A29, J30) =>
    cond (g_cnd .eq v26 0)
    (some ((), P27, F28, A29, J30))
    ((c_chk 6 (P27 37 5)).bind fun q32 =>
    (m_ld (A29 37 4) 401 (F28 37 8)).bind fun v33 =>
    (e_Laws_add P27 F28 A29 J30 q32 1 v33).bind fun (v34, P35, F36, A37, J38) =>
    some ((), P35, F36, A37, J38)))
    ((e_Reader_isNext P F A J x2).bind fun v39 =>
    cond (g_cnd .eq v39 0)
    (e_Reader_readUnit_97 KS (e_Reader_readUnit_58 KS n) n P F A J x2)
    ((e_Reader_take P F A J x2).bind fun (v41, P42, F43, A44, J45) =>
    cond (g_cnd .eq v41 0)
    (e_Reader_readUnit_97 KS (e_Reader_readUnit_58 KS n) n P42 F43 A44 J45 x2)
    ((c_chk 6 (P42 37 5)).bind fun q47 =>
    (e_Laws_add P42 F43 A44 J45 q47 2 (x2 - 15)).bind fun (v48, P49, F50, A51, J52) =>
    some ((), P49, F50, A51, J52))))
set_option maxRecDepth 10000 in
theorem t_e_Reader_readUnit_58 (ht : ∀ ci k, t.1 ci k = k_ty ci k) {n : Nat} {KS : (Nat → Nat → Nat) → (Nat → Nat → Int32) → (Nat → Nat → Nat → Int32) → (Nat → Nat → Nat → Int64) → Int32 → Option (Unit × (Nat → Nat → Nat) × (Nat → Nat → Int32) × (Nat → Nat → Nat → Int32) × (Nat → Nat → Nat → Int64))} (hKS : ∀ (P : Nat → Nat → Nat) (F : Nat → Nat → Int32) (A : Nat → Nat → Nat → Int32) (J : Nat → Nat → Nat → Int64) (x1 : Int32) (w : Unit × (Nat → Nat → Nat) × (Nat → Nat → Int32) × (Nat → Nat → Nat → Int32) × (Nat → Nat → Nat → Int64)), KS P F A J x1 = some w → k_run t lg (d + 4) 62 0 [(0, .ref (37 * 1024)), (1, .int x1)] [] (c_h c B P F A J) (none, c_h c B w.2.1 w.2.2.1 w.2.2.2.1 w.2.2.2.2))  {P : Nat → Nat → Nat} {F : Nat → Nat → Int32} {A : Nat → Nat → Nat → Int32} {J : Nat → Nat → Nat → Int64} {x2 : Int32}  {w : Unit × (Nat → Nat → Nat) × (Nat → Nat → Int32) × (Nat → Nat → Nat → Int32) × (Nat → Nat → Nat → Int64)} : e_Reader_readUnit_58 KS n P F A J x2 = some w → k_run t lg (d + 5) 65 58 [(0, .ref (37 * 1024)), (2, .int x2)] [] (c_h c B P F A J) (none, c_h c B w.2.1 w.2.2.1 w.2.2.2.1 w.2.2.2.2) := by
  induction n generalizing P F A J x2 w with
  | zero => intro hD; cases hD
  | succ n ih =>
    intro hD
    have hK58 : ∀ (P : Nat → Nat → Nat) (F : Nat → Nat → Int32) (A : Nat → Nat → Nat → Int32) (J : Nat → Nat → Nat → Int64) (x2 : Int32) (w : Unit × (Nat → Nat → Nat) × (Nat → Nat → Int32) × (Nat → Nat → Nat → Int32) × (Nat → Nat → Nat → Int64)), e_Reader_readUnit_58 KS n P F A J x2 = some w → k_run t lg (d + 5) 65 58 [(0, .ref (37 * 1024)), (2, .int x2)] [] (c_h c B P F A J) (none, c_h c B w.2.1 w.2.2.1 w.2.2.2.1 w.2.2.2.2) := fun _ _ _ _ _ _  h => ih  h
    unfold e_Reader_readUnit_58 at hD
    refine k_runB (pc' := 61) (loc' := [(0, .ref (37 * 1024)), (2, .int x2)]) (st' := [.int 20, .int x2]) 2 rfl ?_
    refine k_ic rfl (fun c61_24 => ?_) (fun c61_24 => ?_)
    · rw [c61_24, cond_true] at hD
      refine k_runB (pc' := 106) (loc' := [(0, .ref (37 * 1024)), (2, .int x2)]) (st' := [.int 101, .ref (37 * 1024)]) 2 rfl ?_
      obtain ⟨⟨v26, P27, F28, A29, J30⟩, hv26, hD⟩ := Option.bind_eq_some_iff.mp hD
      dsimp only at hD
      refine k_runV rfl rfl rfl (c_get (r := 37) (o := 0) (K := 11) rfl (by decide)) rfl rfl (t_e_Reader_take (d := d + 3) ht hv26) ?_
      refine k_if rfl (fun c109_30 => ?_) (fun c109_30 => ?_)
      · rw [c109_30, cond_true] at hD
        cases hD
        exact k_vret rfl rfl
      · rw [c109_30, cond_false] at hD
        refine k_runB (pc' := 113) (loc' := [(0, .ref (37 * 1024)), (2, .int x2)]) (st' := [.ref (37 * 1024)]) 1 rfl ?_
        obtain ⟨q32, hq32, hD⟩ := Option.bind_eq_some_iff.mp hD
        refine k_gq 37 0 (K := 11) (K2 := 6) (key := 5) rfl rfl rfl rfl rfl hq32 (fun kq32 => ?_)
        refine k_gf q32 0 (K := 6) kq32 rfl rfl rfl rfl ?_
        refine k_runB (pc' := 121) (loc' := [(0, .ref (37 * 1024)), (2, .int x2)]) (st' := [.ref (37 * 1024), .int 1, .ref (q32 * 1024 + 13)]) 2 rfl ?_
        refine k_gf 37 0 (K := 11) rfl rfl rfl rfl rfl ?_
        refine k_gf 37 1 (K := 11) rfl rfl rfl rfl rfl ?_
        refine k_runB (pc' := 128) (loc' := [(0, .ref (37 * 1024)), (2, .int x2)]) (st' := [.ref (37 * 1024), .ref (37 * 1024 + 4), .int 1, .ref (q32 * 1024 + 13)]) 1 rfl ?_
        refine k_gf 37 0 (K := 11) rfl rfl rfl rfl rfl ?_
        obtain ⟨v33, hv33, hD⟩ := Option.bind_eq_some_iff.mp hD
        refine k_ldI rfl (c_get (r := 37) (o := 4) (K := 11) rfl (by decide)) hv33 ?_
        obtain ⟨⟨v34, P35, F36, A37, J38⟩, hv34, hD⟩ := Option.bind_eq_some_iff.mp hD
        dsimp only at hD
        refine k_runV rfl rfl rfl (c_get (r := q32) (o := 13) (K := 6) kq32 (by decide)) rfl rfl (t_e_Laws_add (d := d + 4) ht kq32 hv34) ?_
        refine k_runB (pc' := 136) (loc' := [(0, .ref (37 * 1024)), (2, .int x2)]) (st' := []) 1 rfl ?_
        cases hD
        exact k_vret rfl rfl
    · rw [c61_24, cond_false] at hD
      refine k_runB (pc' := 66) (loc' := [(0, .ref (37 * 1024)), (2, .int x2)]) (st' := [.int x2, .ref (37 * 1024)]) 2 rfl ?_
      obtain ⟨v39, hv39, hD⟩ := Option.bind_eq_some_iff.mp hD
      refine k_runV rfl rfl rfl (c_get (r := 37) (o := 0) (K := 11) rfl (by decide)) rfl rfl (t_e_Reader_isNext (d := d + 4) hv39) ?_
      refine k_if rfl (fun c69_39 => ?_) (fun c69_39 => ?_)
      · rw [c69_39, cond_true] at hD
        refine k_wk [0, 2] (loc' := [(0, .ref (37 * 1024)), (2, .int x2)]) rfl rfl ?_
        exact t_e_Reader_readUnit_97 ht hKS hK58  hD
      · rw [c69_39, cond_false] at hD
        refine k_runB (pc' := 74) (loc' := [(0, .ref (37 * 1024)), (2, .int x2)]) (st' := [.int x2, .ref (37 * 1024)]) 2 rfl ?_
        obtain ⟨⟨v41, P42, F43, A44, J45⟩, hv41, hD⟩ := Option.bind_eq_some_iff.mp hD
        dsimp only at hD
        refine k_runV rfl rfl rfl (c_get (r := 37) (o := 0) (K := 11) rfl (by decide)) rfl rfl (t_e_Reader_take (d := d + 3) ht hv41) ?_
        refine k_if rfl (fun c77_45 => ?_) (fun c77_45 => ?_)
        · rw [c77_45, cond_true] at hD
          refine k_wk [0, 2] (loc' := [(0, .ref (37 * 1024)), (2, .int x2)]) rfl rfl ?_
          exact t_e_Reader_readUnit_97 ht hKS hK58  hD
        · rw [c77_45, cond_false] at hD
          refine k_runB (pc' := 81) (loc' := [(0, .ref (37 * 1024)), (2, .int x2)]) (st' := [.ref (37 * 1024)]) 1 rfl ?_
          obtain ⟨q47, hq47, hD⟩ := Option.bind_eq_some_iff.mp hD
          refine k_gq 37 0 (K := 11) (K2 := 6) (key := 5) rfl rfl rfl rfl rfl hq47 (fun kq47 => ?_)
          refine k_gf q47 0 (K := 6) kq47 rfl rfl rfl rfl ?_
          refine k_runB (pc' := 92) (loc' := [(0, .ref (37 * 1024)), (2, .int x2)]) (st' := [.int (x2 - 15), .int 2, .ref (q47 * 1024 + 13)]) 4 rfl ?_
          obtain ⟨⟨v48, P49, F50, A51, J52⟩, hv48, hD⟩ := Option.bind_eq_some_iff.mp hD
          dsimp only at hD
          refine k_runV rfl rfl rfl (c_get (r := q47) (o := 13) (K := 6) kq47 (by decide)) rfl rfl (t_e_Laws_add (d := d + 4) ht kq47 hv48) ?_
          refine k_runB (pc' := 96) (loc' := [(0, .ref (37 * 1024)), (2, .int x2)]) (st' := []) 1 rfl ?_
          cases hD
          exact k_vret rfl rfl
/-- SleepWork$Reader.readUnit(I)V  -/
def e_Reader_readUnit (KS : (Nat → Nat → Nat) → (Nat → Nat → Int32) → (Nat → Nat → Nat → Int32) → (Nat → Nat → Nat → Int64) → Int32 → Option (Unit × (Nat → Nat → Nat) × (Nat → Nat → Int32) × (Nat → Nat → Nat → Int32) × (Nat → Nat → Nat → Int64))) (n : Nat) (P : Nat → Nat → Nat) (F : Nat → Nat → Int32) (A : Nat → Nat → Nat → Int32) (J : Nat → Nat → Nat → Int64) (x1 : Int32) : Option (Unit × (Nat → Nat → Nat) × (Nat → Nat → Int32) × (Nat → Nat → Nat → Int32) × (Nat → Nat → Nat → Int64)) :=
  (e_Reader_isNext P F A J 40).bind fun v1 =>
  cond (g_cnd .eq v1 0)
  (e_Reader_readUnit_58 KS n P F A J 15)
  (cond (g_cnd .lt x1 6)
  ((e_Reader_take P F A J 40).bind fun (v4, P5, F6, A7, J8) =>
  (KS P5 F6 A7 J8 (x1 + 1)).bind fun (_, P10, F11, A12, J13) =>
  (e_Reader_take P10 F11 A12 J13 41).bind fun (v14, P15, F16, A17, J18) =>
  some ((), P15, F16, A17, J18))
  ((m_ld (A 37 3) 401 (F 37 7)).bind fun v19 =>
  (e_Reader_fail P F A J 2 v19).bind fun (_, P21, F22, A23, J24) =>
  some ((), P21, F22, A23, J24)))
set_option maxRecDepth 10000 in
theorem t_e_Reader_readUnit (ht : ∀ ci k, t.1 ci k = k_ty ci k) {n : Nat} {KS : (Nat → Nat → Nat) → (Nat → Nat → Int32) → (Nat → Nat → Nat → Int32) → (Nat → Nat → Nat → Int64) → Int32 → Option (Unit × (Nat → Nat → Nat) × (Nat → Nat → Int32) × (Nat → Nat → Nat → Int32) × (Nat → Nat → Nat → Int64))} (hKS : ∀ (P : Nat → Nat → Nat) (F : Nat → Nat → Int32) (A : Nat → Nat → Nat → Int32) (J : Nat → Nat → Nat → Int64) (x1 : Int32) (w : Unit × (Nat → Nat → Nat) × (Nat → Nat → Int32) × (Nat → Nat → Nat → Int32) × (Nat → Nat → Nat → Int64)), KS P F A J x1 = some w → k_run t lg (d + 4) 62 0 [(0, .ref (37 * 1024)), (1, .int x1)] [] (c_h c B P F A J) (none, c_h c B w.2.1 w.2.2.1 w.2.2.2.1 w.2.2.2.2)) {P : Nat → Nat → Nat} {F : Nat → Nat → Int32} {A : Nat → Nat → Nat → Int32} {J : Nat → Nat → Nat → Int64} {x1 : Int32}  {w : Unit × (Nat → Nat → Nat) × (Nat → Nat → Int32) × (Nat → Nat → Nat → Int32) × (Nat → Nat → Nat → Int64)} : e_Reader_readUnit KS n P F A J x1 = some w → k_run t lg (d + 5) 65 0 [(0, .ref (37 * 1024)), (1, .int x1)] [] (c_h c B P F A J) (none, c_h c B w.2.1 w.2.2.1 w.2.2.2.1 w.2.2.2.2) := by
  intro hD
  unfold e_Reader_readUnit at hD
  refine k_runB (pc' := 3) (loc' := [(0, .ref (37 * 1024)), (1, .int x1)]) (st' := [.int 40, .ref (37 * 1024)]) 2 rfl ?_
  obtain ⟨v1, hv1, hD⟩ := Option.bind_eq_some_iff.mp hD
  refine k_runV rfl rfl rfl (c_get (r := 37) (o := 0) (K := 11) rfl (by decide)) rfl rfl (t_e_Reader_isNext (d := d + 4) hv1) ?_
  refine k_if rfl (fun c6_1 => ?_) (fun c6_1 => ?_)
  · rw [c6_1, cond_true] at hD
    refine k_runB (pc' := 58) (loc' := [(0, .ref (37 * 1024)), (1, .int x1), (2, .int 15)]) (st' := []) 2 rfl ?_
    refine k_wk [0, 2] (loc' := [(0, .ref (37 * 1024)), (2, .int 15)]) rfl rfl ?_
    exact t_e_Reader_readUnit_58 ht hKS   hD
  · rw [c6_1, cond_false] at hD
    refine k_runB (pc' := 12) (loc' := [(0, .ref (37 * 1024)), (1, .int x1)]) (st' := [.int 6, .int x1]) 2 rfl ?_
    refine k_ic rfl (fun c12_2 => ?_) (fun c12_2 => ?_)
    · rw [c12_2, cond_true] at hD
      refine k_runB (pc' := 36) (loc' := [(0, .ref (37 * 1024)), (1, .int x1)]) (st' := [.int 40, .ref (37 * 1024)]) 2 rfl ?_
      obtain ⟨⟨v4, P5, F6, A7, J8⟩, hv4, hD⟩ := Option.bind_eq_some_iff.mp hD
      dsimp only at hD
      refine k_runV rfl rfl rfl (c_get (r := 37) (o := 0) (K := 11) rfl (by decide)) rfl rfl (t_e_Reader_take (d := d + 3) ht hv4) ?_
      refine k_runB (pc' := 44) (loc' := [(0, .ref (37 * 1024)), (1, .int x1)]) (st' := [.int (x1 + 1), .ref (37 * 1024)]) 5 rfl ?_
      obtain ⟨⟨v9, P10, F11, A12, J13⟩, hv9, hD⟩ := Option.bind_eq_some_iff.mp hD
      dsimp only at hD
      refine k_runV rfl rfl rfl (c_get (r := 37) (o := 0) (K := 11) rfl (by decide)) rfl rfl (hKS _ _ _ _ _ _ hv9) ?_
      refine k_runB (pc' := 50) (loc' := [(0, .ref (37 * 1024)), (1, .int x1)]) (st' := [.int 41, .ref (37 * 1024)]) 2 rfl ?_
      obtain ⟨⟨v14, P15, F16, A17, J18⟩, hv14, hD⟩ := Option.bind_eq_some_iff.mp hD
      dsimp only at hD
      refine k_runV rfl rfl rfl (c_get (r := 37) (o := 0) (K := 11) rfl (by decide)) rfl rfl (t_e_Reader_take (d := d + 3) ht hv14) ?_
      refine k_runB (pc' := 54) (loc' := [(0, .ref (37 * 1024)), (1, .int x1)]) (st' := []) 1 rfl ?_
      cases hD
      exact k_vret rfl rfl
    · rw [c12_2, cond_false] at hD
      refine k_runB (pc' := 18) (loc' := [(0, .ref (37 * 1024)), (1, .int x1)]) (st' := [.ref (37 * 1024), .int 2, .ref (37 * 1024)]) 3 rfl ?_
      refine k_gf 37 0 (K := 11) rfl rfl rfl rfl rfl ?_
      refine k_gf 37 1 (K := 11) rfl rfl rfl rfl rfl ?_
      refine k_runB (pc' := 25) (loc' := [(0, .ref (37 * 1024)), (1, .int x1)]) (st' := [.ref (37 * 1024), .ref (37 * 1024 + 3), .int 2, .ref (37 * 1024)]) 1 rfl ?_
      refine k_gf 37 0 (K := 11) rfl rfl rfl rfl rfl ?_
      obtain ⟨v19, hv19, hD⟩ := Option.bind_eq_some_iff.mp hD
      refine k_ldI rfl (c_get (r := 37) (o := 3) (K := 11) rfl (by decide)) hv19 ?_
      obtain ⟨⟨v20, P21, F22, A23, J24⟩, hv20, hD⟩ := Option.bind_eq_some_iff.mp hD
      dsimp only at hD
      refine k_runV rfl rfl rfl (c_get (r := 37) (o := 0) (K := 11) rfl (by decide)) rfl rfl (t_e_Reader_fail (d := d + 4) ht hv20) ?_
      cases hD
      exact k_vret rfl rfl
/-- SleepWork$Reader.addSign(I)V  -/
def e_Reader_addSign (P : Nat → Nat → Nat) (F : Nat → Nat → Int32) (A : Nat → Nat → Nat → Int32) (J : Nat → Nat → Nat → Int64) (x1 : Int32) : Option (Unit × (Nat → Nat → Nat) × (Nat → Nat → Int32) × (Nat → Nat → Nat → Int32) × (Nat → Nat → Nat → Int64)) :=
  cond (g_cnd .eq x1 0)
  (some ((), P, F, A, J))
  ((c_chk 6 (P 37 5)).bind fun q2 =>
  (e_Laws_add P F A J q2 x1 0).bind fun (v3, P4, F5, A6, J7) =>
  some ((), P4, F5, A6, J7))
set_option maxRecDepth 10000 in
theorem t_e_Reader_addSign (ht : ∀ ci k, t.1 ci k = k_ty ci k) {P : Nat → Nat → Nat} {F : Nat → Nat → Int32} {A : Nat → Nat → Nat → Int32} {J : Nat → Nat → Nat → Int64} {x1 : Int32}  {w : Unit × (Nat → Nat → Nat) × (Nat → Nat → Int32) × (Nat → Nat → Nat → Int32) × (Nat → Nat → Nat → Int64)} : e_Reader_addSign P F A J x1 = some w → k_run t lg (d + 1) 63 0 [(0, .ref (37 * 1024)), (1, .int x1)] [] (c_h c B P F A J) (none, c_h c B w.2.1 w.2.2.1 w.2.2.2.1 w.2.2.2.2) := by
  intro hD
  unfold e_Reader_addSign at hD
  refine k_runB (pc' := 1) (loc' := [(0, .ref (37 * 1024)), (1, .int x1)]) (st' := [.int x1]) 1 rfl ?_
  refine k_if rfl (fun c1_0 => ?_) (fun c1_0 => ?_)
  · rw [c1_0, cond_true] at hD
    cases hD
    exact k_vret rfl rfl
  · rw [c1_0, cond_false] at hD
    refine k_runB (pc' := 5) (loc' := [(0, .ref (37 * 1024)), (1, .int x1)]) (st' := [.ref (37 * 1024)]) 1 rfl ?_
    obtain ⟨q2, hq2, hD⟩ := Option.bind_eq_some_iff.mp hD
    refine k_gq 37 0 (K := 11) (K2 := 6) (key := 5) rfl rfl rfl rfl rfl hq2 (fun kq2 => ?_)
    refine k_gf q2 0 (K := 6) kq2 rfl rfl rfl rfl ?_
    refine k_runB (pc' := 13) (loc' := [(0, .ref (37 * 1024)), (1, .int x1)]) (st' := [.int 0, .int x1, .ref (q2 * 1024 + 13)]) 2 rfl ?_
    obtain ⟨⟨v3, P4, F5, A6, J7⟩, hv3, hD⟩ := Option.bind_eq_some_iff.mp hD
    dsimp only at hD
    refine k_runV rfl rfl rfl (c_get (r := q2) (o := 13) (K := 6) kq2 (by decide)) rfl rfl (t_e_Laws_add (d := d) ht kq2 hv3) ?_
    refine k_runB (pc' := 17) (loc' := [(0, .ref (37 * 1024)), (1, .int x1)]) (st' := []) 1 rfl ?_
    cases hD
    exact k_vret rfl rfl
def e_Reader_takeEither_18 (P : Nat → Nat → Nat) (F : Nat → Nat → Int32) (A : Nat → Nat → Nat → Int32) (J : Nat → Nat → Nat → Int64) (x2 : Int32) : Option (Int32 × (Nat → Nat → Nat) × (Nat → Nat → Int32) × (Nat → Nat → Nat → Int32) × (Nat → Nat → Nat → Int64)) :=
    (e_Reader_isNext P F A J x2).bind fun v9 =>
    cond (g_cnd .eq v9 0)
    (some (0, P, F, A, J))
    ((e_Reader_take P F A J x2).bind fun (v11, P12, F13, A14, J15) =>
    cond (g_cnd .eq v11 0)
    (some (0, P12, F13, A14, J15))
    (some (x2, P12, F13, A14, J15)))
set_option maxRecDepth 10000 in
theorem t_e_Reader_takeEither_18 (ht : ∀ ci k, t.1 ci k = k_ty ci k)  {P : Nat → Nat → Nat} {F : Nat → Nat → Int32} {A : Nat → Nat → Nat → Int32} {J : Nat → Nat → Nat → Int64} {x2 : Int32}  {w : Int32 × (Nat → Nat → Nat) × (Nat → Nat → Int32) × (Nat → Nat → Nat → Int32) × (Nat → Nat → Nat → Int64)} : e_Reader_takeEither_18 P F A J x2 = some w → k_run t lg (d + 2) 64 18 [(0, .ref (37 * 1024)), (2, .int x2)] [] (c_h c B P F A J) (some (.int w.1), c_h c B w.2.1 w.2.2.1 w.2.2.2.1 w.2.2.2.2) := by
  intro hD
  unfold e_Reader_takeEither_18 at hD
  refine k_runB (pc' := 20) (loc' := [(0, .ref (37 * 1024)), (2, .int x2)]) (st' := [.int x2, .ref (37 * 1024)]) 2 rfl ?_
  obtain ⟨v9, hv9, hD⟩ := Option.bind_eq_some_iff.mp hD
  refine k_runV rfl rfl rfl (c_get (r := 37) (o := 0) (K := 11) rfl (by decide)) rfl rfl (t_e_Reader_isNext (d := d + 1) hv9) ?_
  refine k_if rfl (fun c23_9 => ?_) (fun c23_9 => ?_)
  · rw [c23_9, cond_true] at hD
    refine k_runB (pc' := 39) (loc' := [(0, .ref (37 * 1024)), (2, .int x2)]) (st' := [.int 0]) 1 rfl ?_
    cases hD
    exact k_iret rfl rfl
  · rw [c23_9, cond_false] at hD
    refine k_runB (pc' := 28) (loc' := [(0, .ref (37 * 1024)), (2, .int x2)]) (st' := [.int x2, .ref (37 * 1024)]) 2 rfl ?_
    obtain ⟨⟨v11, P12, F13, A14, J15⟩, hv11, hD⟩ := Option.bind_eq_some_iff.mp hD
    dsimp only at hD
    refine k_runV rfl rfl rfl (c_get (r := 37) (o := 0) (K := 11) rfl (by decide)) rfl rfl (t_e_Reader_take (d := d) ht hv11) ?_
    refine k_if rfl (fun c31_15 => ?_) (fun c31_15 => ?_)
    · rw [c31_15, cond_true] at hD
      refine k_runB (pc' := 39) (loc' := [(0, .ref (37 * 1024)), (2, .int x2)]) (st' := [.int 0]) 1 rfl ?_
      cases hD
      exact k_iret rfl rfl
    · rw [c31_15, cond_false] at hD
      refine k_runB (pc' := 39) (loc' := [(0, .ref (37 * 1024)), (2, .int x2)]) (st' := [.int x2]) 2 rfl ?_
      cases hD
      exact k_iret rfl rfl
/-- SleepWork$Reader.takeEither(II)I  -/
def e_Reader_takeEither (P : Nat → Nat → Nat) (F : Nat → Nat → Int32) (A : Nat → Nat → Nat → Int32) (J : Nat → Nat → Nat → Int64) (x1 : Int32) (x2 : Int32) : Option (Int32 × (Nat → Nat → Nat) × (Nat → Nat → Int32) × (Nat → Nat → Nat → Int32) × (Nat → Nat → Nat → Int64)) :=
  (e_Reader_isNext P F A J x1).bind fun v1 =>
  cond (g_cnd .eq v1 0)
  (e_Reader_takeEither_18 P F A J x2)
  ((e_Reader_take P F A J x1).bind fun (v3, P4, F5, A6, J7) =>
  cond (g_cnd .eq v3 0)
  (e_Reader_takeEither_18 P4 F5 A6 J7 x2)
  (some (x1, P4, F5, A6, J7)))
set_option maxRecDepth 10000 in
theorem t_e_Reader_takeEither (ht : ∀ ci k, t.1 ci k = k_ty ci k) {P : Nat → Nat → Nat} {F : Nat → Nat → Int32} {A : Nat → Nat → Nat → Int32} {J : Nat → Nat → Nat → Int64} {x1 : Int32} {x2 : Int32}  {w : Int32 × (Nat → Nat → Nat) × (Nat → Nat → Int32) × (Nat → Nat → Nat → Int32) × (Nat → Nat → Nat → Int64)} : e_Reader_takeEither P F A J x1 x2 = some w → k_run t lg (d + 2) 64 0 [(0, .ref (37 * 1024)), (1, .int x1), (2, .int x2)] [] (c_h c B P F A J) (some (.int w.1), c_h c B w.2.1 w.2.2.1 w.2.2.2.1 w.2.2.2.2) := by
  intro hD
  unfold e_Reader_takeEither at hD
  refine k_runB (pc' := 2) (loc' := [(0, .ref (37 * 1024)), (1, .int x1), (2, .int x2)]) (st' := [.int x1, .ref (37 * 1024)]) 2 rfl ?_
  obtain ⟨v1, hv1, hD⟩ := Option.bind_eq_some_iff.mp hD
  refine k_runV rfl rfl rfl (c_get (r := 37) (o := 0) (K := 11) rfl (by decide)) rfl rfl (t_e_Reader_isNext (d := d + 1) hv1) ?_
  refine k_if rfl (fun c5_1 => ?_) (fun c5_1 => ?_)
  · rw [c5_1, cond_true] at hD
    refine k_wk [0, 2] (loc' := [(0, .ref (37 * 1024)), (2, .int x2)]) rfl rfl ?_
    exact t_e_Reader_takeEither_18 ht   hD
  · rw [c5_1, cond_false] at hD
    refine k_runB (pc' := 10) (loc' := [(0, .ref (37 * 1024)), (1, .int x1), (2, .int x2)]) (st' := [.int x1, .ref (37 * 1024)]) 2 rfl ?_
    obtain ⟨⟨v3, P4, F5, A6, J7⟩, hv3, hD⟩ := Option.bind_eq_some_iff.mp hD
    dsimp only at hD
    refine k_runV rfl rfl rfl (c_get (r := 37) (o := 0) (K := 11) rfl (by decide)) rfl rfl (t_e_Reader_take (d := d) ht hv3) ?_
    refine k_if rfl (fun c13_7 => ?_) (fun c13_7 => ?_)
    · rw [c13_7, cond_true] at hD
      refine k_wk [0, 2] (loc' := [(0, .ref (37 * 1024)), (2, .int x2)]) rfl rfl ?_
      exact t_e_Reader_takeEither_18 ht   hD
    · rw [c13_7, cond_false] at hD
      refine k_runB (pc' := 17) (loc' := [(0, .ref (37 * 1024)), (1, .int x1), (2, .int x2)]) (st' := [.int x1]) 1 rfl ?_
      cases hD
      exact k_iret rfl rfl
def e_Reader_readSum_71 (KS : (Nat → Nat → Nat) → (Nat → Nat → Int32) → (Nat → Nat → Nat → Int32) → (Nat → Nat → Nat → Int64) → Int32 → Option (Unit × (Nat → Nat → Nat) × (Nat → Nat → Int32) × (Nat → Nat → Nat → Int32) × (Nat → Nat → Nat → Int64))) (K10 : (Nat → Nat → Nat) → (Nat → Nat → Int32) → (Nat → Nat → Nat → Int32) → (Nat → Nat → Nat → Int64) → Int32 → Int32 → Int32 → Int32 → Int32 → Option (Unit × (Nat → Nat → Nat) × (Nat → Nat → Int32) × (Nat → Nat → Nat → Int32) × (Nat → Nat → Nat → Int64))) (n : Nat) (P : Nat → Nat → Nat) (F : Nat → Nat → Int32) (A : Nat → Nat → Nat → Int32) (J : Nat → Nat → Nat → Int64) (x1 : Int32) (x2 : Int32) (x3 : Int32) (x4 : Int32) (x5 : Int32) : Option (Unit × (Nat → Nat → Nat) × (Nat → Nat → Int32) × (Nat → Nat → Nat → Int32) × (Nat → Nat → Nat → Int64)) :=
    K10 P F A J x1 x2 x3 x4 (x5 + 1)
set_option maxRecDepth 10000 in
theorem t_e_Reader_readSum_71 (ht : ∀ ci k, t.1 ci k = k_ty ci k) {n : Nat} {KS : (Nat → Nat → Nat) → (Nat → Nat → Int32) → (Nat → Nat → Nat → Int32) → (Nat → Nat → Nat → Int64) → Int32 → Option (Unit × (Nat → Nat → Nat) × (Nat → Nat → Int32) × (Nat → Nat → Nat → Int32) × (Nat → Nat → Nat → Int64))} (hKS : ∀ (P : Nat → Nat → Nat) (F : Nat → Nat → Int32) (A : Nat → Nat → Nat → Int32) (J : Nat → Nat → Nat → Int64) (x1 : Int32) (w : Unit × (Nat → Nat → Nat) × (Nat → Nat → Int32) × (Nat → Nat → Nat → Int32) × (Nat → Nat → Nat → Int64)), KS P F A J x1 = some w → k_run t lg (d + 4) 62 0 [(0, .ref (37 * 1024)), (1, .int x1)] [] (c_h c B P F A J) (none, c_h c B w.2.1 w.2.2.1 w.2.2.2.1 w.2.2.2.2)) {K10 : (Nat → Nat → Nat) → (Nat → Nat → Int32) → (Nat → Nat → Nat → Int32) → (Nat → Nat → Nat → Int64) → Int32 → Int32 → Int32 → Int32 → Int32 → Option (Unit × (Nat → Nat → Nat) × (Nat → Nat → Int32) × (Nat → Nat → Nat → Int32) × (Nat → Nat → Nat → Int64))} (hK10 : ∀ (P : Nat → Nat → Nat) (F : Nat → Nat → Int32) (A : Nat → Nat → Nat → Int32) (J : Nat → Nat → Nat → Int64) (x1 : Int32) (x2 : Int32) (x3 : Int32) (x4 : Int32) (x5 : Int32) (w : Unit × (Nat → Nat → Nat) × (Nat → Nat → Int32) × (Nat → Nat → Nat → Int32) × (Nat → Nat → Nat → Int64)), K10 P F A J x1 x2 x3 x4 x5 = some w → k_run t lg (d + 6) 62 10 [(0, .ref (37 * 1024)), (1, .int x1), (2, .int x2), (3, .int x3), (4, .int x4), (5, .int x5)] [] (c_h c B P F A J) (none, c_h c B w.2.1 w.2.2.1 w.2.2.2.1 w.2.2.2.2)) {P : Nat → Nat → Nat} {F : Nat → Nat → Int32} {A : Nat → Nat → Nat → Int32} {J : Nat → Nat → Nat → Int64} {x1 : Int32} {x2 : Int32} {x3 : Int32} {x4 : Int32} {x5 : Int32}  {w : Unit × (Nat → Nat → Nat) × (Nat → Nat → Int32) × (Nat → Nat → Nat → Int32) × (Nat → Nat → Nat → Int64)} : e_Reader_readSum_71 KS K10 n P F A J x1 x2 x3 x4 x5 = some w → k_run t lg (d + 6) 62 71 [(0, .ref (37 * 1024)), (1, .int x1), (2, .int x2), (3, .int x3), (4, .int x4), (5, .int x5)] [] (c_h c B P F A J) (none, c_h c B w.2.1 w.2.2.1 w.2.2.2.1 w.2.2.2.2) := by
  intro hD
  unfold e_Reader_readSum_71 at hD
  refine k_runB (pc' := 10) (loc' := [(0, .ref (37 * 1024)), (1, .int x1), (2, .int x2), (3, .int x3), (4, .int x4), (5, .int (x5 + 1))]) (st' := []) 2 rfl ?_
  refine k_wk [0, 1, 2, 3, 4, 5] (loc' := [(0, .ref (37 * 1024)), (1, .int x1), (2, .int x2), (3, .int x3), (4, .int x4), (5, .int (x5 + 1))]) rfl rfl ?_
  exact hK10 _ _ _ _ _ _ _ _ _ _  hD
def e_Reader_readSum_69 (KS : (Nat → Nat → Nat) → (Nat → Nat → Int32) → (Nat → Nat → Nat → Int32) → (Nat → Nat → Nat → Int64) → Int32 → Option (Unit × (Nat → Nat → Nat) × (Nat → Nat → Int32) × (Nat → Nat → Nat → Int32) × (Nat → Nat → Nat → Int64))) (K10 : (Nat → Nat → Nat) → (Nat → Nat → Int32) → (Nat → Nat → Nat → Int32) → (Nat → Nat → Nat → Int64) → Int32 → Int32 → Int32 → Int32 → Int32 → Option (Unit × (Nat → Nat → Nat) × (Nat → Nat → Int32) × (Nat → Nat → Nat → Int32) × (Nat → Nat → Nat → Int64))) (n : Nat) (P : Nat → Nat → Nat) (F : Nat → Nat → Int32) (A : Nat → Nat → Nat → Int32) (J : Nat → Nat → Nat → Int64) (x1 : Int32) (x2 : Int32) (x3 : Int32) (x5 : Int32) (s0 : Int32) : Option (Unit × (Nat → Nat → Nat) × (Nat → Nat → Int32) × (Nat → Nat → Nat → Int32) × (Nat → Nat → Nat → Int64)) :=
    e_Reader_readSum_71 KS K10 n P F A J x1 x2 x3 s0 x5
set_option maxRecDepth 10000 in
theorem t_e_Reader_readSum_69 (ht : ∀ ci k, t.1 ci k = k_ty ci k) {n : Nat} {KS : (Nat → Nat → Nat) → (Nat → Nat → Int32) → (Nat → Nat → Nat → Int32) → (Nat → Nat → Nat → Int64) → Int32 → Option (Unit × (Nat → Nat → Nat) × (Nat → Nat → Int32) × (Nat → Nat → Nat → Int32) × (Nat → Nat → Nat → Int64))} (hKS : ∀ (P : Nat → Nat → Nat) (F : Nat → Nat → Int32) (A : Nat → Nat → Nat → Int32) (J : Nat → Nat → Nat → Int64) (x1 : Int32) (w : Unit × (Nat → Nat → Nat) × (Nat → Nat → Int32) × (Nat → Nat → Nat → Int32) × (Nat → Nat → Nat → Int64)), KS P F A J x1 = some w → k_run t lg (d + 4) 62 0 [(0, .ref (37 * 1024)), (1, .int x1)] [] (c_h c B P F A J) (none, c_h c B w.2.1 w.2.2.1 w.2.2.2.1 w.2.2.2.2)) {K10 : (Nat → Nat → Nat) → (Nat → Nat → Int32) → (Nat → Nat → Nat → Int32) → (Nat → Nat → Nat → Int64) → Int32 → Int32 → Int32 → Int32 → Int32 → Option (Unit × (Nat → Nat → Nat) × (Nat → Nat → Int32) × (Nat → Nat → Nat → Int32) × (Nat → Nat → Nat → Int64))} (hK10 : ∀ (P : Nat → Nat → Nat) (F : Nat → Nat → Int32) (A : Nat → Nat → Nat → Int32) (J : Nat → Nat → Nat → Int64) (x1 : Int32) (x2 : Int32) (x3 : Int32) (x4 : Int32) (x5 : Int32) (w : Unit × (Nat → Nat → Nat) × (Nat → Nat → Int32) × (Nat → Nat → Nat → Int32) × (Nat → Nat → Nat → Int64)), K10 P F A J x1 x2 x3 x4 x5 = some w → k_run t lg (d + 6) 62 10 [(0, .ref (37 * 1024)), (1, .int x1), (2, .int x2), (3, .int x3), (4, .int x4), (5, .int x5)] [] (c_h c B P F A J) (none, c_h c B w.2.1 w.2.2.1 w.2.2.2.1 w.2.2.2.2)) {P : Nat → Nat → Nat} {F : Nat → Nat → Int32} {A : Nat → Nat → Nat → Int32} {J : Nat → Nat → Nat → Int64} {x1 : Int32} {x2 : Int32} {x3 : Int32} {x5 : Int32} {s0 : Int32}  {w : Unit × (Nat → Nat → Nat) × (Nat → Nat → Int32) × (Nat → Nat → Nat → Int32) × (Nat → Nat → Nat → Int64)} : e_Reader_readSum_69 KS K10 n P F A J x1 x2 x3 x5 s0 = some w → k_run t lg (d + 6) 62 69 [(0, .ref (37 * 1024)), (1, .int x1), (2, .int x2), (3, .int x3), (5, .int x5)] [.int s0] (c_h c B P F A J) (none, c_h c B w.2.1 w.2.2.1 w.2.2.2.1 w.2.2.2.2) := by
  intro hD
  unfold e_Reader_readSum_69 at hD
  refine k_runB (pc' := 71) (loc' := [(0, .ref (37 * 1024)), (1, .int x1), (2, .int x2), (3, .int x3), (4, .int s0), (5, .int x5)]) (st' := []) 1 rfl ?_
  refine k_wk [0, 1, 2, 3, 4, 5] (loc' := [(0, .ref (37 * 1024)), (1, .int x1), (2, .int x2), (3, .int x3), (4, .int s0), (5, .int x5)]) rfl rfl ?_
  exact t_e_Reader_readSum_71 ht hKS hK10  hD
def e_Reader_readSum_10 (KS : (Nat → Nat → Nat) → (Nat → Nat → Int32) → (Nat → Nat → Nat → Int32) → (Nat → Nat → Nat → Int64) → Int32 → Option (Unit × (Nat → Nat → Nat) × (Nat → Nat → Int32) × (Nat → Nat → Nat → Int32) × (Nat → Nat → Nat → Int64))) : Nat → (Nat → Nat → Nat) → (Nat → Nat → Int32) → (Nat → Nat → Nat → Int32) → (Nat → Nat → Nat → Int64) → Int32 → Int32 → Int32 → Int32 → Int32 → Option (Unit × (Nat → Nat → Nat) × (Nat → Nat → Int32) × (Nat → Nat → Nat → Int32) × (Nat → Nat → Nat → Int64))
  | 0, _, _, _, _, _, _, _, _, _ => none
  | n + 1, P, F, A, J, x1, x2, x3, x4, x5 => cond (g_cnd .gt x5 400)
    (some ((), P, F, A, J))
    (cond (g_cnd .eq x4 0)
    (some ((), P, F, A, J))
    ((e_Reader_readUnit KS n P F A J x1).bind fun (_, P4, F5, A6, J7) =>
    (e_Reader_addSign P4 F5 A6 J7 x3).bind fun (_, P9, F10, A11, J12) =>
    (e_Reader_takeEither P9 F10 A11 J12 42 47).bind fun (v13, P14, F15, A16, J17) =>
    cond (g_cnd .ne v13 0)
    (e_Reader_readSum_71 KS (e_Reader_readSum_10 KS n) n P14 F15 A16 J17 x1 x2 v13 x4 x5)
    ((e_Reader_addSign P14 F15 A16 J17 x2).bind fun (_, P20, F21, A22, J23) =>
    (e_Reader_takeEither P20 F21 A22 J23 43 45).bind fun (v24, P25, F26, A27, J28) =>
    cond (g_cnd .eq v24 0)
    (e_Reader_readSum_69 KS (e_Reader_readSum_10 KS n) n P25 F26 A27 J28 x1 v24 v13 x5 0)
    (e_Reader_readSum_69 KS (e_Reader_readSum_10 KS n) n P25 F26 A27 J28 x1 v24 v13 x5 1))))
set_option maxRecDepth 10000 in
theorem t_e_Reader_readSum_10 (ht : ∀ ci k, t.1 ci k = k_ty ci k) {n : Nat} {KS : (Nat → Nat → Nat) → (Nat → Nat → Int32) → (Nat → Nat → Nat → Int32) → (Nat → Nat → Nat → Int64) → Int32 → Option (Unit × (Nat → Nat → Nat) × (Nat → Nat → Int32) × (Nat → Nat → Nat → Int32) × (Nat → Nat → Nat → Int64))} (hKS : ∀ (P : Nat → Nat → Nat) (F : Nat → Nat → Int32) (A : Nat → Nat → Nat → Int32) (J : Nat → Nat → Nat → Int64) (x1 : Int32) (w : Unit × (Nat → Nat → Nat) × (Nat → Nat → Int32) × (Nat → Nat → Nat → Int32) × (Nat → Nat → Nat → Int64)), KS P F A J x1 = some w → k_run t lg (d + 4) 62 0 [(0, .ref (37 * 1024)), (1, .int x1)] [] (c_h c B P F A J) (none, c_h c B w.2.1 w.2.2.1 w.2.2.2.1 w.2.2.2.2))  {P : Nat → Nat → Nat} {F : Nat → Nat → Int32} {A : Nat → Nat → Nat → Int32} {J : Nat → Nat → Nat → Int64} {x1 : Int32} {x2 : Int32} {x3 : Int32} {x4 : Int32} {x5 : Int32}  {w : Unit × (Nat → Nat → Nat) × (Nat → Nat → Int32) × (Nat → Nat → Nat → Int32) × (Nat → Nat → Nat → Int64)} : e_Reader_readSum_10 KS n P F A J x1 x2 x3 x4 x5 = some w → k_run t lg (d + 6) 62 10 [(0, .ref (37 * 1024)), (1, .int x1), (2, .int x2), (3, .int x3), (4, .int x4), (5, .int x5)] [] (c_h c B P F A J) (none, c_h c B w.2.1 w.2.2.1 w.2.2.2.1 w.2.2.2.2) := by
  induction n generalizing P F A J x1 x2 x3 x4 x5 w with
  | zero => intro hD; cases hD
  | succ n ih =>
    intro hD
    have hK10 : ∀ (P : Nat → Nat → Nat) (F : Nat → Nat → Int32) (A : Nat → Nat → Nat → Int32) (J : Nat → Nat → Nat → Int64) (x1 : Int32) (x2 : Int32) (x3 : Int32) (x4 : Int32) (x5 : Int32) (w : Unit × (Nat → Nat → Nat) × (Nat → Nat → Int32) × (Nat → Nat → Nat → Int32) × (Nat → Nat → Nat → Int64)), e_Reader_readSum_10 KS n P F A J x1 x2 x3 x4 x5 = some w → k_run t lg (d + 6) 62 10 [(0, .ref (37 * 1024)), (1, .int x1), (2, .int x2), (3, .int x3), (4, .int x4), (5, .int x5)] [] (c_h c B P F A J) (none, c_h c B w.2.1 w.2.2.1 w.2.2.2.1 w.2.2.2.2) := fun _ _ _ _ _ _ _ _ _ _  h => ih  h
    unfold e_Reader_readSum_10 at hD
    refine k_runB (pc' := 15) (loc' := [(0, .ref (37 * 1024)), (1, .int x1), (2, .int x2), (3, .int x3), (4, .int x4), (5, .int x5)]) (st' := [.int 400, .int x5]) 2 rfl ?_
    refine k_ic rfl (fun c15_0 => ?_) (fun c15_0 => ?_)
    · rw [c15_0, cond_true] at hD
      cases hD
      exact k_vret rfl rfl
    · rw [c15_0, cond_false] at hD
      refine k_runB (pc' := 20) (loc' := [(0, .ref (37 * 1024)), (1, .int x1), (2, .int x2), (3, .int x3), (4, .int x4), (5, .int x5)]) (st' := [.int x4]) 1 rfl ?_
      refine k_if rfl (fun c20_1 => ?_) (fun c20_1 => ?_)
      · rw [c20_1, cond_true] at hD
        cases hD
        exact k_vret rfl rfl
      · rw [c20_1, cond_false] at hD
        refine k_runB (pc' := 25) (loc' := [(0, .ref (37 * 1024)), (1, .int x1), (2, .int x2), (3, .int x3), (4, .int x4), (5, .int x5)]) (st' := [.int x1, .ref (37 * 1024)]) 2 rfl ?_
        obtain ⟨⟨v3, P4, F5, A6, J7⟩, hv3, hD⟩ := Option.bind_eq_some_iff.mp hD
        dsimp only at hD
        refine k_runV rfl rfl rfl (c_get (r := 37) (o := 0) (K := 11) rfl (by decide)) rfl rfl (t_e_Reader_readUnit (d := d) ht hKS hv3) ?_
        refine k_runB (pc' := 30) (loc' := [(0, .ref (37 * 1024)), (1, .int x1), (2, .int x2), (3, .int x3), (4, .int x4), (5, .int x5)]) (st' := [.int x3, .ref (37 * 1024)]) 2 rfl ?_
        obtain ⟨⟨v8, P9, F10, A11, J12⟩, hv8, hD⟩ := Option.bind_eq_some_iff.mp hD
        dsimp only at hD
        refine k_runV rfl rfl rfl (c_get (r := 37) (o := 0) (K := 11) rfl (by decide)) rfl rfl (t_e_Reader_addSign (d := d + 4) ht hv8) ?_
        refine k_runB (pc' := 38) (loc' := [(0, .ref (37 * 1024)), (1, .int x1), (2, .int x2), (3, .int x3), (4, .int x4), (5, .int x5)]) (st' := [.int 47, .int 42, .ref (37 * 1024)]) 3 rfl ?_
        obtain ⟨⟨v13, P14, F15, A16, J17⟩, hv13, hD⟩ := Option.bind_eq_some_iff.mp hD
        dsimp only at hD
        refine k_runV rfl rfl rfl (c_get (r := 37) (o := 0) (K := 11) rfl (by decide)) rfl rfl (t_e_Reader_takeEither (d := d + 3) ht hv13) ?_
        refine k_runB (pc' := 43) (loc' := [(0, .ref (37 * 1024)), (1, .int x1), (2, .int x2), (3, .int v13), (4, .int x4), (5, .int x5)]) (st' := [.int v13]) 2 rfl ?_
        refine k_if rfl (fun c43_17 => ?_) (fun c43_17 => ?_)
        · rw [c43_17, cond_true] at hD
          refine k_wk [0, 1, 2, 3, 4, 5] (loc' := [(0, .ref (37 * 1024)), (1, .int x1), (2, .int x2), (3, .int v13), (4, .int x4), (5, .int x5)]) rfl rfl ?_
          exact t_e_Reader_readSum_71 ht hKS hK10  hD
        · rw [c43_17, cond_false] at hD
          refine k_runB (pc' := 48) (loc' := [(0, .ref (37 * 1024)), (1, .int x1), (2, .int x2), (3, .int v13), (4, .int x4), (5, .int x5)]) (st' := [.int x2, .ref (37 * 1024)]) 2 rfl ?_
          obtain ⟨⟨v19, P20, F21, A22, J23⟩, hv19, hD⟩ := Option.bind_eq_some_iff.mp hD
          dsimp only at hD
          refine k_runV rfl rfl rfl (c_get (r := 37) (o := 0) (K := 11) rfl (by decide)) rfl rfl (t_e_Reader_addSign (d := d + 4) ht hv19) ?_
          refine k_runB (pc' := 56) (loc' := [(0, .ref (37 * 1024)), (1, .int x1), (2, .int x2), (3, .int v13), (4, .int x4), (5, .int x5)]) (st' := [.int 45, .int 43, .ref (37 * 1024)]) 3 rfl ?_
          obtain ⟨⟨v24, P25, F26, A27, J28⟩, hv24, hD⟩ := Option.bind_eq_some_iff.mp hD
          dsimp only at hD
          refine k_runV rfl rfl rfl (c_get (r := 37) (o := 0) (K := 11) rfl (by decide)) rfl rfl (t_e_Reader_takeEither (d := d + 3) ht hv24) ?_
          refine k_runB (pc' := 61) (loc' := [(0, .ref (37 * 1024)), (1, .int x1), (2, .int v24), (3, .int v13), (4, .int x4), (5, .int x5)]) (st' := [.int v24]) 2 rfl ?_
          refine k_if rfl (fun c61_28 => ?_) (fun c61_28 => ?_)
          · rw [c61_28, cond_true] at hD
            refine k_runB (pc' := 69) (loc' := [(0, .ref (37 * 1024)), (1, .int x1), (2, .int v24), (3, .int v13), (4, .int x4), (5, .int x5)]) (st' := [.int 0]) 1 rfl ?_
            refine k_wk [0, 1, 2, 3, 5] (loc' := [(0, .ref (37 * 1024)), (1, .int x1), (2, .int v24), (3, .int v13), (5, .int x5)]) rfl rfl ?_
            exact t_e_Reader_readSum_69 ht hKS hK10  hD
          · rw [c61_28, cond_false] at hD
            refine k_runB (pc' := 69) (loc' := [(0, .ref (37 * 1024)), (1, .int x1), (2, .int v24), (3, .int v13), (4, .int x4), (5, .int x5)]) (st' := [.int 1]) 2 rfl ?_
            refine k_wk [0, 1, 2, 3, 5] (loc' := [(0, .ref (37 * 1024)), (1, .int x1), (2, .int v24), (3, .int v13), (5, .int x5)]) rfl rfl ?_
            exact t_e_Reader_readSum_69 ht hKS hK10  hD
/-- SleepWork$Reader.readSum(I)V  -/
def e_Reader_readSumB (KS : (Nat → Nat → Nat) → (Nat → Nat → Int32) → (Nat → Nat → Nat → Int32) → (Nat → Nat → Nat → Int64) → Int32 → Option (Unit × (Nat → Nat → Nat) × (Nat → Nat → Int32) × (Nat → Nat → Nat → Int32) × (Nat → Nat → Nat → Int64))) (n : Nat) (P : Nat → Nat → Nat) (F : Nat → Nat → Int32) (A : Nat → Nat → Nat → Int32) (J : Nat → Nat → Nat → Int64) (x1 : Int32) : Option (Unit × (Nat → Nat → Nat) × (Nat → Nat → Int32) × (Nat → Nat → Nat → Int32) × (Nat → Nat → Nat → Int64)) :=
  e_Reader_readSum_10 KS n P F A J x1 0 0 1 0
set_option maxRecDepth 10000 in
theorem t_e_Reader_readSumB (ht : ∀ ci k, t.1 ci k = k_ty ci k) {n : Nat} {KS : (Nat → Nat → Nat) → (Nat → Nat → Int32) → (Nat → Nat → Nat → Int32) → (Nat → Nat → Nat → Int64) → Int32 → Option (Unit × (Nat → Nat → Nat) × (Nat → Nat → Int32) × (Nat → Nat → Nat → Int32) × (Nat → Nat → Nat → Int64))} (hKS : ∀ (P : Nat → Nat → Nat) (F : Nat → Nat → Int32) (A : Nat → Nat → Nat → Int32) (J : Nat → Nat → Nat → Int64) (x1 : Int32) (w : Unit × (Nat → Nat → Nat) × (Nat → Nat → Int32) × (Nat → Nat → Nat → Int32) × (Nat → Nat → Nat → Int64)), KS P F A J x1 = some w → k_run t lg (d + 4) 62 0 [(0, .ref (37 * 1024)), (1, .int x1)] [] (c_h c B P F A J) (none, c_h c B w.2.1 w.2.2.1 w.2.2.2.1 w.2.2.2.2)) {P : Nat → Nat → Nat} {F : Nat → Nat → Int32} {A : Nat → Nat → Nat → Int32} {J : Nat → Nat → Nat → Int64} {x1 : Int32}  {w : Unit × (Nat → Nat → Nat) × (Nat → Nat → Int32) × (Nat → Nat → Nat → Int32) × (Nat → Nat → Nat → Int64)} : e_Reader_readSumB KS n P F A J x1 = some w → k_run t lg (d + 6) 62 0 [(0, .ref (37 * 1024)), (1, .int x1)] [] (c_h c B P F A J) (none, c_h c B w.2.1 w.2.2.1 w.2.2.2.1 w.2.2.2.2) := by
  intro hD
  unfold e_Reader_readSumB at hD
  refine k_runB (pc' := 10) (loc' := [(0, .ref (37 * 1024)), (1, .int x1), (2, .int 0), (3, .int 0), (4, .int 1), (5, .int 0)]) (st' := []) 8 rfl ?_
  refine k_wk [0, 1, 2, 3, 4, 5] (loc' := [(0, .ref (37 * 1024)), (1, .int x1), (2, .int 0), (3, .int 0), (4, .int 1), (5, .int 0)]) rfl rfl ?_
  exact t_e_Reader_readSum_10 ht hKS   hD
def e_Reader_readSum : Nat → Nat → (Nat → Nat → Nat) → (Nat → Nat → Int32) → (Nat → Nat → Nat → Int32) → (Nat → Nat → Nat → Int64) → Int32 → Option (Unit × (Nat → Nat → Nat) × (Nat → Nat → Int32) × (Nat → Nat → Nat → Int32) × (Nat → Nat → Nat → Int64))
  | 0, _, _, _, _, _, _ => none
  | m + 1, n, P, F, A, J, x1 => e_Reader_readSumB (e_Reader_readSum m n) n P F A J x1
set_option maxRecDepth 10000 in
theorem t_e_Reader_readSum (ht : ∀ ci k, t.1 ci k = k_ty ci k) {m n : Nat} {P : Nat → Nat → Nat} {F : Nat → Nat → Int32} {A : Nat → Nat → Nat → Int32} {J : Nat → Nat → Nat → Int64} {x1 : Int32} {w : Unit × (Nat → Nat → Nat) × (Nat → Nat → Int32) × (Nat → Nat → Nat → Int32) × (Nat → Nat → Nat → Int64)} : e_Reader_readSum m n P F A J x1 = some w → k_run t lg (d + 2 * m + 4) 62 0 [(0, .ref (37 * 1024)), (1, .int x1)] [] (c_h c B P F A J) (none, c_h c B w.2.1 w.2.2.1 w.2.2.2.1 w.2.2.2.2) := by
  induction m generalizing P F A J x1 w with
  | zero => intro hD; cases hD
  | succ m ih =>
    intro hD
    exact t_e_Reader_readSumB (d := d + 2 * m) ht (fun _ _ _ _ _ _ h => ih h) hD
end MC
end Qz28
section Qz29
/-! the class's methods as functions (printed by wip/dec2.py) -/
section MC
variable {t : gT} {lg : Nat → Nat} {d : Nat} {c : Nat × Nat} {B : Nat → List gE}
/-- SleepWork$Reader.readIf()V  -/
def e_Reader_readIf (n : Nat) (P : Nat → Nat → Nat) (F : Nat → Nat → Int32) (A : Nat → Nat → Nat → Int32) (J : Nat → Nat → Nat → Int64) : Option (Unit × (Nat → Nat → Nat) × (Nat → Nat → Int32) × (Nat → Nat → Nat → Int32) × (Nat → Nat → Nat → Int64)) :=
  (e_Reader_take P F A J 12).bind fun (v1, P2, F3, A4, J5) =>
  (e_Reader_readSum 8 n P2 F3 A4 J5 0).bind fun (_, P7, F8, A9, J10) =>
  (e_Reader_take P7 F8 A9 J10 60).bind fun (v11, P12, F13, A14, J15) =>
  (e_Reader_readSum 8 n P12 F13 A14 J15 0).bind fun (_, P17, F18, A19, J20) =>
  (c_chk 6 (P17 37 5)).bind fun q21 =>
  (e_Laws_add P17 F18 A19 J20 q21 60 0).bind fun (v22, P23, F24, A25, J26) =>
  (e_Reader_take P23 F24 A25 J26 13).bind fun (v27, P28, F29, A30, J31) =>
  (e_Reader_readSum 8 n P28 F29 A30 J31 0).bind fun (_, P33, F34, A35, J36) =>
  (c_chk 6 (P33 37 5)).bind fun q37 =>
  (e_Laws_add P33 F34 A35 J36 q37 0 0).bind fun (v38, P39, F40, A41, J42) =>
  (e_Reader_take P39 F40 A41 J42 14).bind fun (v43, P44, F45, A46, J47) =>
  (c_chk 6 (P44 37 5)).bind fun q48 =>
  (e_Laws_aimHere P44 F45 A46 J47 q48 v22).bind fun (_, P50, F51, A52, J53) =>
  some ((), P50, F51, A52, J53)
set_option maxRecDepth 10000 in
theorem t_e_Reader_readIf (ht : ∀ ci k, t.1 ci k = k_ty ci k) {n : Nat} {P : Nat → Nat → Nat} {F : Nat → Nat → Int32} {A : Nat → Nat → Nat → Int32} {J : Nat → Nat → Nat → Int64}   {w : Unit × (Nat → Nat → Nat) × (Nat → Nat → Int32) × (Nat → Nat → Nat → Int32) × (Nat → Nat → Nat → Int64)} : e_Reader_readIf n P F A J = some w → k_run t lg (d + 21) 61 0 [(0, .ref (37 * 1024))] [] (c_h c B P F A J) (none, c_h c B w.2.1 w.2.2.1 w.2.2.2.1 w.2.2.2.2) := by
  intro hD
  unfold e_Reader_readIf at hD
  refine k_runB (pc' := 3) (loc' := [(0, .ref (37 * 1024))]) (st' := [.int 12, .ref (37 * 1024)]) 2 rfl ?_
  obtain ⟨⟨v1, P2, F3, A4, J5⟩, hv1, hD⟩ := Option.bind_eq_some_iff.mp hD
  dsimp only at hD
  refine k_runV rfl rfl rfl (c_get (r := 37) (o := 0) (K := 11) rfl (by decide)) rfl rfl (t_e_Reader_take (d := d + 19) ht hv1) ?_
  refine k_runB (pc' := 9) (loc' := [(0, .ref (37 * 1024))]) (st' := [.int 0, .ref (37 * 1024)]) 3 rfl ?_
  obtain ⟨⟨v6, P7, F8, A9, J10⟩, hv6, hD⟩ := Option.bind_eq_some_iff.mp hD
  dsimp only at hD
  refine k_runV rfl rfl rfl (c_get (r := 37) (o := 0) (K := 11) rfl (by decide)) rfl rfl (t_e_Reader_readSum (d := d) ht (m := 8) hv6) ?_
  refine k_runB (pc' := 15) (loc' := [(0, .ref (37 * 1024))]) (st' := [.int 60, .ref (37 * 1024)]) 2 rfl ?_
  obtain ⟨⟨v11, P12, F13, A14, J15⟩, hv11, hD⟩ := Option.bind_eq_some_iff.mp hD
  dsimp only at hD
  refine k_runV rfl rfl rfl (c_get (r := 37) (o := 0) (K := 11) rfl (by decide)) rfl rfl (t_e_Reader_take (d := d + 19) ht hv11) ?_
  refine k_runB (pc' := 21) (loc' := [(0, .ref (37 * 1024))]) (st' := [.int 0, .ref (37 * 1024)]) 3 rfl ?_
  obtain ⟨⟨v16, P17, F18, A19, J20⟩, hv16, hD⟩ := Option.bind_eq_some_iff.mp hD
  dsimp only at hD
  refine k_runV rfl rfl rfl (c_get (r := 37) (o := 0) (K := 11) rfl (by decide)) rfl rfl (t_e_Reader_readSum (d := d) ht (m := 8) hv16) ?_
  refine k_runB (pc' := 25) (loc' := [(0, .ref (37 * 1024))]) (st' := [.ref (37 * 1024)]) 1 rfl ?_
  obtain ⟨q21, hq21, hD⟩ := Option.bind_eq_some_iff.mp hD
  refine k_gq 37 0 (K := 11) (K2 := 6) (key := 5) rfl rfl rfl rfl rfl hq21 (fun kq21 => ?_)
  refine k_gf q21 0 (K := 6) kq21 rfl rfl rfl rfl ?_
  refine k_runB (pc' := 34) (loc' := [(0, .ref (37 * 1024))]) (st' := [.int 0, .int 60, .ref (q21 * 1024 + 13)]) 2 rfl ?_
  obtain ⟨⟨v22, P23, F24, A25, J26⟩, hv22, hD⟩ := Option.bind_eq_some_iff.mp hD
  dsimp only at hD
  refine k_runV rfl rfl rfl (c_get (r := q21) (o := 13) (K := 6) kq21 (by decide)) rfl rfl (t_e_Laws_add (d := d + 20) ht kq21 hv22) ?_
  refine k_runB (pc' := 41) (loc' := [(0, .ref (37 * 1024)), (1, .int v22)]) (st' := [.int 13, .ref (37 * 1024)]) 3 rfl ?_
  obtain ⟨⟨v27, P28, F29, A30, J31⟩, hv27, hD⟩ := Option.bind_eq_some_iff.mp hD
  dsimp only at hD
  refine k_runV rfl rfl rfl (c_get (r := 37) (o := 0) (K := 11) rfl (by decide)) rfl rfl (t_e_Reader_take (d := d + 19) ht hv27) ?_
  refine k_runB (pc' := 47) (loc' := [(0, .ref (37 * 1024)), (1, .int v22)]) (st' := [.int 0, .ref (37 * 1024)]) 3 rfl ?_
  obtain ⟨⟨v32, P33, F34, A35, J36⟩, hv32, hD⟩ := Option.bind_eq_some_iff.mp hD
  dsimp only at hD
  refine k_runV rfl rfl rfl (c_get (r := 37) (o := 0) (K := 11) rfl (by decide)) rfl rfl (t_e_Reader_readSum (d := d) ht (m := 8) hv32) ?_
  refine k_runB (pc' := 51) (loc' := [(0, .ref (37 * 1024)), (1, .int v22)]) (st' := [.ref (37 * 1024)]) 1 rfl ?_
  obtain ⟨q37, hq37, hD⟩ := Option.bind_eq_some_iff.mp hD
  refine k_gq 37 0 (K := 11) (K2 := 6) (key := 5) rfl rfl rfl rfl rfl hq37 (fun kq37 => ?_)
  refine k_gf q37 0 (K := 6) kq37 rfl rfl rfl rfl ?_
  refine k_runB (pc' := 59) (loc' := [(0, .ref (37 * 1024)), (1, .int v22)]) (st' := [.int 0, .int 0, .ref (q37 * 1024 + 13)]) 2 rfl ?_
  obtain ⟨⟨v38, P39, F40, A41, J42⟩, hv38, hD⟩ := Option.bind_eq_some_iff.mp hD
  dsimp only at hD
  refine k_runV rfl rfl rfl (c_get (r := q37) (o := 13) (K := 6) kq37 (by decide)) rfl rfl (t_e_Laws_add (d := d + 20) ht kq37 hv38) ?_
  refine k_runB (pc' := 66) (loc' := [(0, .ref (37 * 1024)), (1, .int v22)]) (st' := [.int 14, .ref (37 * 1024)]) 3 rfl ?_
  obtain ⟨⟨v43, P44, F45, A46, J47⟩, hv43, hD⟩ := Option.bind_eq_some_iff.mp hD
  dsimp only at hD
  refine k_runV rfl rfl rfl (c_get (r := 37) (o := 0) (K := 11) rfl (by decide)) rfl rfl (t_e_Reader_take (d := d + 19) ht hv43) ?_
  refine k_runB (pc' := 71) (loc' := [(0, .ref (37 * 1024)), (1, .int v22)]) (st' := [.ref (37 * 1024)]) 2 rfl ?_
  obtain ⟨q48, hq48, hD⟩ := Option.bind_eq_some_iff.mp hD
  refine k_gq 37 0 (K := 11) (K2 := 6) (key := 5) rfl rfl rfl rfl rfl hq48 (fun kq48 => ?_)
  refine k_gf q48 0 (K := 6) kq48 rfl rfl rfl rfl ?_
  refine k_runB (pc' := 78) (loc' := [(0, .ref (37 * 1024)), (1, .int v22)]) (st' := [.int v22, .ref (q48 * 1024 + 13)]) 1 rfl ?_
  obtain ⟨⟨v49, P50, F51, A52, J53⟩, hv49, hD⟩ := Option.bind_eq_some_iff.mp hD
  dsimp only at hD
  refine k_runV rfl rfl rfl (c_get (r := q48) (o := 13) (K := 6) kq48 (by decide)) rfl rfl (t_e_Laws_aimHere (d := d + 20) kq48 hv49) ?_
  cases hD
  exact k_vret rfl rfl
def e_Reader_readLaw_94 (n : Nat) (P : Nat → Nat → Nat) (F : Nat → Nat → Int32) (A : Nat → Nat → Nat → Int32) (J : Nat → Nat → Nat → Int64) (x1 : Int32) (x2 : Int32) : Option (Unit × (Nat → Nat → Nat) × (Nat → Nat → Int32) × (Nat → Nat → Nat → Int32) × (Nat → Nat → Nat → Int64)) :=
    (e_Reader_readSum 8 n P F A J 0).bind fun (_, P34, F35, A36, J37) =>
    (c_chk 6 (P34 37 5)).bind fun q38 =>
    (e_Laws_add P34 F35 A36 J37 q38 0 0).bind fun (v39, P40, F41, A42, J43) =>
    (e_Reader_take P40 F41 A42 J43 59).bind fun (v44, P45, F46, A47, J48) =>
    cond (g_cnd .eq v44 0)
    (some ((), P45, F46, A47, J48))
    ((c_pf F46 37 9 ((F46 37 9) + 1)).bind fun F50 =>
    cond (g_cnd .lt x1 0)
    (some ((), P45, F50, A47, J48))
    ((c_chk 6 (P45 37 5)).bind fun q52 =>
    (c_st A47 q52 14 6 x1 x2).bind fun A53 =>
    some ((), P45, F50, A53, J48)))
set_option maxRecDepth 10000 in
theorem t_e_Reader_readLaw_94 (ht : ∀ ci k, t.1 ci k = k_ty ci k) {n : Nat}  {P : Nat → Nat → Nat} {F : Nat → Nat → Int32} {A : Nat → Nat → Nat → Int32} {J : Nat → Nat → Nat → Int64} {x1 : Int32} {x2 : Int32}  {w : Unit × (Nat → Nat → Nat) × (Nat → Nat → Int32) × (Nat → Nat → Nat → Int32) × (Nat → Nat → Nat → Int64)} : e_Reader_readLaw_94 n P F A J x1 x2 = some w → k_run t lg (d + 22) 60 94 [(0, .ref (37 * 1024)), (1, .int x1), (2, .int x2)] [] (c_h c B P F A J) (none, c_h c B w.2.1 w.2.2.1 w.2.2.2.1 w.2.2.2.2) := by
  intro hD
  unfold e_Reader_readLaw_94 at hD
  refine k_runB (pc' := 96) (loc' := [(0, .ref (37 * 1024)), (1, .int x1), (2, .int x2)]) (st' := [.int 0, .ref (37 * 1024)]) 2 rfl ?_
  obtain ⟨⟨v33, P34, F35, A36, J37⟩, hv33, hD⟩ := Option.bind_eq_some_iff.mp hD
  dsimp only at hD
  refine k_runV rfl rfl rfl (c_get (r := 37) (o := 0) (K := 11) rfl (by decide)) rfl rfl (t_e_Reader_readSum (d := d + 1) ht (m := 8) hv33) ?_
  refine k_runB (pc' := 100) (loc' := [(0, .ref (37 * 1024)), (1, .int x1), (2, .int x2)]) (st' := [.ref (37 * 1024)]) 1 rfl ?_
  obtain ⟨q38, hq38, hD⟩ := Option.bind_eq_some_iff.mp hD
  refine k_gq 37 0 (K := 11) (K2 := 6) (key := 5) rfl rfl rfl rfl rfl hq38 (fun kq38 => ?_)
  refine k_gf q38 0 (K := 6) kq38 rfl rfl rfl rfl ?_
  refine k_runB (pc' := 108) (loc' := [(0, .ref (37 * 1024)), (1, .int x1), (2, .int x2)]) (st' := [.int 0, .int 0, .ref (q38 * 1024 + 13)]) 2 rfl ?_
  obtain ⟨⟨v39, P40, F41, A42, J43⟩, hv39, hD⟩ := Option.bind_eq_some_iff.mp hD
  dsimp only at hD
  refine k_runV rfl rfl rfl (c_get (r := q38) (o := 13) (K := 6) kq38 (by decide)) rfl rfl (t_e_Laws_add (d := d + 21) ht kq38 hv39) ?_
  refine k_runB (pc' := 115) (loc' := [(0, .ref (37 * 1024)), (1, .int x1), (2, .int x2)]) (st' := [.int 59, .ref (37 * 1024)]) 3 rfl ?_
  obtain ⟨⟨v44, P45, F46, A47, J48⟩, hv44, hD⟩ := Option.bind_eq_some_iff.mp hD
  dsimp only at hD
  refine k_runV rfl rfl rfl (c_get (r := 37) (o := 0) (K := 11) rfl (by decide)) rfl rfl (t_e_Reader_take (d := d + 20) ht hv44) ?_
  refine k_if rfl (fun c118_48 => ?_) (fun c118_48 => ?_)
  · rw [c118_48, cond_true] at hD
    cases hD
    exact k_vret rfl rfl
  · rw [c118_48, cond_false] at hD
    refine k_runB (pc' := 123) (loc' := [(0, .ref (37 * 1024)), (1, .int x1), (2, .int x2)]) (st' := [.ref (37 * 1024), .ref (37 * 1024)]) 2 rfl ?_
    refine k_gf 37 0 (K := 11) rfl rfl rfl rfl rfl ?_
    refine k_runB (pc' := 128) (loc' := [(0, .ref (37 * 1024)), (1, .int x1), (2, .int x2)]) (st' := [.int ((F46 37 9) + 1), .ref (37 * 1024)]) 2 rfl ?_
    obtain ⟨F50, hF50, hD⟩ := Option.bind_eq_some_iff.mp hD
    refine k_cpt 37 0 (K := 11) (key := 9) rfl rfl (ht 4 9) rfl rfl rfl hF50 ?_
    refine k_runB (pc' := 132) (loc' := [(0, .ref (37 * 1024)), (1, .int x1), (2, .int x2)]) (st' := [.int x1]) 1 rfl ?_
    refine k_if rfl (fun c132_50 => ?_) (fun c132_50 => ?_)
    · rw [c132_50, cond_true] at hD
      cases hD
      exact k_vret rfl rfl
    · rw [c132_50, cond_false] at hD
      refine k_runB (pc' := 136) (loc' := [(0, .ref (37 * 1024)), (1, .int x1), (2, .int x2)]) (st' := [.ref (37 * 1024)]) 1 rfl ?_
      obtain ⟨q52, hq52, hD⟩ := Option.bind_eq_some_iff.mp hD
      refine k_gq 37 0 (K := 11) (K2 := 6) (key := 5) rfl rfl rfl rfl rfl hq52 (fun kq52 => ?_)
      refine k_gf q52 0 (K := 6) kq52 rfl rfl rfl rfl ?_
      refine k_gf q52 13 (K := 6) kq52 rfl rfl rfl rfl ?_
      refine k_runB (pc' := 147) (loc' := [(0, .ref (37 * 1024)), (1, .int x1), (2, .int x2)]) (st' := [.int x2, .int x1, .ref (q52 * 1024 + 14)]) 2 rfl ?_
      obtain ⟨A53, hA53, hD⟩ := Option.bind_eq_some_iff.mp hD
      refine k_cstI q52 14 (K := 6) kq52 rfl rfl rfl (fun _ => rfl) hA53 ?_
      cases hD
      exact k_vret rfl rfl
def e_Reader_readLaw_84 (K48 : (Nat → Nat → Nat) → (Nat → Nat → Int32) → (Nat → Nat → Nat → Int32) → (Nat → Nat → Nat → Int64) → Int32 → Int32 → Int32 → Option (Unit × (Nat → Nat → Nat) × (Nat → Nat → Int32) × (Nat → Nat → Nat → Int32) × (Nat → Nat → Nat → Int64))) (n : Nat) (P : Nat → Nat → Nat) (F : Nat → Nat → Int32) (A : Nat → Nat → Nat → Int32) (J : Nat → Nat → Nat → Int64) (x1 : Int32) (x2 : Int32) (x3 : Int32) : Option (Unit × (Nat → Nat → Nat) × (Nat → Nat → Int32) × (Nat → Nat → Nat → Int32) × (Nat → Nat → Nat → Int64)) :=
    (e_Reader_readIf n P F A J).bind fun (_, P55, F56, A57, J58) =>
    K48 P55 F56 A57 J58 x1 x2 (x3 + 1)
set_option maxRecDepth 10000 in
theorem t_e_Reader_readLaw_84 (ht : ∀ ci k, t.1 ci k = k_ty ci k) {n : Nat} {K48 : (Nat → Nat → Nat) → (Nat → Nat → Int32) → (Nat → Nat → Nat → Int32) → (Nat → Nat → Nat → Int64) → Int32 → Int32 → Int32 → Option (Unit × (Nat → Nat → Nat) × (Nat → Nat → Int32) × (Nat → Nat → Nat → Int32) × (Nat → Nat → Nat → Int64))} (hK48 : ∀ (P : Nat → Nat → Nat) (F : Nat → Nat → Int32) (A : Nat → Nat → Nat → Int32) (J : Nat → Nat → Nat → Int64) (x1 : Int32) (x2 : Int32) (x3 : Int32) (w : Unit × (Nat → Nat → Nat) × (Nat → Nat → Int32) × (Nat → Nat → Nat → Int32) × (Nat → Nat → Nat → Int64)), K48 P F A J x1 x2 x3 = some w → k_run t lg (d + 22) 60 48 [(0, .ref (37 * 1024)), (1, .int x1), (2, .int x2), (3, .int x3)] [] (c_h c B P F A J) (none, c_h c B w.2.1 w.2.2.1 w.2.2.2.1 w.2.2.2.2)) {P : Nat → Nat → Nat} {F : Nat → Nat → Int32} {A : Nat → Nat → Nat → Int32} {J : Nat → Nat → Nat → Int64} {x1 : Int32} {x2 : Int32} {x3 : Int32}  {w : Unit × (Nat → Nat → Nat) × (Nat → Nat → Int32) × (Nat → Nat → Nat → Int32) × (Nat → Nat → Nat → Int64)} : e_Reader_readLaw_84 K48 n P F A J x1 x2 x3 = some w → k_run t lg (d + 22) 60 84 [(0, .ref (37 * 1024)), (1, .int x1), (2, .int x2), (3, .int x3)] [] (c_h c B P F A J) (none, c_h c B w.2.1 w.2.2.1 w.2.2.2.1 w.2.2.2.2) := by
  intro hD
  unfold e_Reader_readLaw_84 at hD
  refine k_runB (pc' := 85) (loc' := [(0, .ref (37 * 1024)), (1, .int x1), (2, .int x2), (3, .int x3)]) (st' := [.ref (37 * 1024)]) 1 rfl ?_
  obtain ⟨⟨v54, P55, F56, A57, J58⟩, hv54, hD⟩ := Option.bind_eq_some_iff.mp hD
  dsimp only at hD
  refine k_runV rfl rfl rfl (c_get (r := 37) (o := 0) (K := 11) rfl (by decide)) rfl rfl (t_e_Reader_readIf (d := d) ht hv54) ?_
  refine k_runB (pc' := 48) (loc' := [(0, .ref (37 * 1024)), (1, .int x1), (2, .int x2), (3, .int (x3 + 1))]) (st' := []) 2 rfl ?_
  refine k_wk [0, 1, 2, 3] (loc' := [(0, .ref (37 * 1024)), (1, .int x1), (2, .int x2), (3, .int (x3 + 1))]) rfl rfl ?_
  exact hK48 _ _ _ _ _ _ _ _  hD
def e_Reader_readLaw_48 : Nat → (Nat → Nat → Nat) → (Nat → Nat → Int32) → (Nat → Nat → Nat → Int32) → (Nat → Nat → Nat → Int64) → Int32 → Int32 → Int32 → Option (Unit × (Nat → Nat → Nat) × (Nat → Nat → Int32) × (Nat → Nat → Nat → Int32) × (Nat → Nat → Nat → Int64))
  | 0, _, _, _, _, _, _, _ => none
  | n + 1, P, F, A, J, x1, x2, x3 => cond (g_cnd .gt x3 4)
    (e_Reader_readLaw_94 n P F A J x1 x2)
    ((e_Reader_isNext P F A J 12).bind fun v19 =>
    cond (g_cnd .eq v19 0)
    (e_Reader_readLaw_94 n P F A J x1 x2)
    (cond (g_cnd .ne x3 4)
    (e_Reader_readLaw_84 (e_Reader_readLaw_48 n) n P F A J x1 x2 x3)
    ((m_ld (A 37 3) 401 (F 37 7)).bind fun v22 =>
    (e_Reader_fail P F A J 2 v22).bind fun (_, P24, F25, A26, J27) =>
    (e_Reader_readIf n P24 F25 A26 J27).bind fun (_, P29, F30, A31, J32) =>
    (e_Reader_readLaw_48 n) P29 F30 A31 J32 x1 x2 (x3 + 1))))
set_option maxRecDepth 10000 in
theorem t_e_Reader_readLaw_48 (ht : ∀ ci k, t.1 ci k = k_ty ci k) {n : Nat}  {P : Nat → Nat → Nat} {F : Nat → Nat → Int32} {A : Nat → Nat → Nat → Int32} {J : Nat → Nat → Nat → Int64} {x1 : Int32} {x2 : Int32} {x3 : Int32}  {w : Unit × (Nat → Nat → Nat) × (Nat → Nat → Int32) × (Nat → Nat → Nat → Int32) × (Nat → Nat → Nat → Int64)} : e_Reader_readLaw_48 n P F A J x1 x2 x3 = some w → k_run t lg (d + 22) 60 48 [(0, .ref (37 * 1024)), (1, .int x1), (2, .int x2), (3, .int x3)] [] (c_h c B P F A J) (none, c_h c B w.2.1 w.2.2.1 w.2.2.2.1 w.2.2.2.2) := by
  induction n generalizing P F A J x1 x2 x3 w with
  | zero => intro hD; cases hD
  | succ n ih =>
    intro hD
    have hK48 : ∀ (P : Nat → Nat → Nat) (F : Nat → Nat → Int32) (A : Nat → Nat → Nat → Int32) (J : Nat → Nat → Nat → Int64) (x1 : Int32) (x2 : Int32) (x3 : Int32) (w : Unit × (Nat → Nat → Nat) × (Nat → Nat → Int32) × (Nat → Nat → Nat → Int32) × (Nat → Nat → Nat → Int64)), e_Reader_readLaw_48 n P F A J x1 x2 x3 = some w → k_run t lg (d + 22) 60 48 [(0, .ref (37 * 1024)), (1, .int x1), (2, .int x2), (3, .int x3)] [] (c_h c B P F A J) (none, c_h c B w.2.1 w.2.2.1 w.2.2.2.1 w.2.2.2.2) := fun _ _ _ _ _ _ _ _  h => ih  h
    unfold e_Reader_readLaw_48 at hD
    refine k_runB (pc' := 50) (loc' := [(0, .ref (37 * 1024)), (1, .int x1), (2, .int x2), (3, .int x3)]) (st' := [.int 4, .int x3]) 2 rfl ?_
    refine k_ic rfl (fun c50_17 => ?_) (fun c50_17 => ?_)
    · rw [c50_17, cond_true] at hD
      refine k_wk [0, 1, 2] (loc' := [(0, .ref (37 * 1024)), (1, .int x1), (2, .int x2)]) rfl rfl ?_
      exact t_e_Reader_readLaw_94 ht   hD
    · rw [c50_17, cond_false] at hD
      refine k_runB (pc' := 56) (loc' := [(0, .ref (37 * 1024)), (1, .int x1), (2, .int x2), (3, .int x3)]) (st' := [.int 12, .ref (37 * 1024)]) 2 rfl ?_
      obtain ⟨v19, hv19, hD⟩ := Option.bind_eq_some_iff.mp hD
      refine k_runV rfl rfl rfl (c_get (r := 37) (o := 0) (K := 11) rfl (by decide)) rfl rfl (t_e_Reader_isNext (d := d + 21) hv19) ?_
      refine k_if rfl (fun c59_19 => ?_) (fun c59_19 => ?_)
      · rw [c59_19, cond_true] at hD
        refine k_wk [0, 1, 2] (loc' := [(0, .ref (37 * 1024)), (1, .int x1), (2, .int x2)]) rfl rfl ?_
        exact t_e_Reader_readLaw_94 ht   hD
      · rw [c59_19, cond_false] at hD
        refine k_runB (pc' := 64) (loc' := [(0, .ref (37 * 1024)), (1, .int x1), (2, .int x2), (3, .int x3)]) (st' := [.int 4, .int x3]) 2 rfl ?_
        refine k_ic rfl (fun c64_20 => ?_) (fun c64_20 => ?_)
        · rw [c64_20, cond_true] at hD
          refine k_wk [0, 1, 2, 3] (loc' := [(0, .ref (37 * 1024)), (1, .int x1), (2, .int x2), (3, .int x3)]) rfl rfl ?_
          exact t_e_Reader_readLaw_84 ht hK48  hD
        · rw [c64_20, cond_false] at hD
          refine k_runB (pc' := 70) (loc' := [(0, .ref (37 * 1024)), (1, .int x1), (2, .int x2), (3, .int x3)]) (st' := [.ref (37 * 1024), .int 2, .ref (37 * 1024)]) 3 rfl ?_
          refine k_gf 37 0 (K := 11) rfl rfl rfl rfl rfl ?_
          refine k_gf 37 1 (K := 11) rfl rfl rfl rfl rfl ?_
          refine k_runB (pc' := 77) (loc' := [(0, .ref (37 * 1024)), (1, .int x1), (2, .int x2), (3, .int x3)]) (st' := [.ref (37 * 1024), .ref (37 * 1024 + 3), .int 2, .ref (37 * 1024)]) 1 rfl ?_
          refine k_gf 37 0 (K := 11) rfl rfl rfl rfl rfl ?_
          obtain ⟨v22, hv22, hD⟩ := Option.bind_eq_some_iff.mp hD
          refine k_ldI rfl (c_get (r := 37) (o := 3) (K := 11) rfl (by decide)) hv22 ?_
          obtain ⟨⟨v23, P24, F25, A26, J27⟩, hv23, hD⟩ := Option.bind_eq_some_iff.mp hD
          dsimp only at hD
          refine k_runV rfl rfl rfl (c_get (r := 37) (o := 0) (K := 11) rfl (by decide)) rfl rfl (t_e_Reader_fail (d := d + 21) ht hv23) ?_
          refine k_runB (pc' := 85) (loc' := [(0, .ref (37 * 1024)), (1, .int x1), (2, .int x2), (3, .int x3)]) (st' := [.ref (37 * 1024)]) 1 rfl ?_
          obtain ⟨⟨v28, P29, F30, A31, J32⟩, hv28, hD⟩ := Option.bind_eq_some_iff.mp hD
          dsimp only at hD
          refine k_runV rfl rfl rfl (c_get (r := 37) (o := 0) (K := 11) rfl (by decide)) rfl rfl (t_e_Reader_readIf (d := d) ht hv28) ?_
          refine k_runB (pc' := 48) (loc' := [(0, .ref (37 * 1024)), (1, .int x1), (2, .int x2), (3, .int (x3 + 1))]) (st' := []) 2 rfl ?_
          refine k_wk [0, 1, 2, 3] (loc' := [(0, .ref (37 * 1024)), (1, .int x1), (2, .int x2), (3, .int (x3 + 1))]) rfl rfl ?_
          exact hK48 _ _ _ _ _ _ _ _  hD
/-- SleepWork$Reader.readLaw()V  -/
def e_Reader_readLaw (n : Nat) (P : Nat → Nat → Nat) (F : Nat → Nat → Int32) (A : Nat → Nat → Nat → Int32) (J : Nat → Nat → Nat → Int64) : Option (Unit × (Nat → Nat → Nat) × (Nat → Nat → Int32) × (Nat → Nat → Nat → Int32) × (Nat → Nat → Nat → Int64)) :=
  (e_Reader_takeFirst P F A J 6 (F 37 9) 8).bind fun (_, P2, F3, A4, J5) =>
  (c_chk 6 (P2 37 5)).bind fun q6 =>
  (e_Reader_takeKnownName_v3 n P2 F3 A4 J5 (F3 q6 17)).bind fun (v7, P8, F9, A10, J11) =>
  (c_chk 6 (P8 37 5)).bind fun q12 =>
  (e_Reader_take P8 F9 A10 J11 61).bind fun (v13, P14, F15, A16, J17) =>
  e_Reader_readLaw_48 n P14 F15 A16 J17 v7 (F9 q12 1304) 0
set_option maxRecDepth 10000 in
theorem t_e_Reader_readLaw (ht : ∀ ci k, t.1 ci k = k_ty ci k) {n : Nat} {P : Nat → Nat → Nat} {F : Nat → Nat → Int32} {A : Nat → Nat → Nat → Int32} {J : Nat → Nat → Nat → Int64}   {w : Unit × (Nat → Nat → Nat) × (Nat → Nat → Int32) × (Nat → Nat → Nat → Int32) × (Nat → Nat → Nat → Int64)} : e_Reader_readLaw n P F A J = some w → k_run t lg (d + 22) 60 0 [(0, .ref (37 * 1024))] [] (c_h c B P F A J) (none, c_h c B w.2.1 w.2.2.1 w.2.2.2.1 w.2.2.2.2) := by
  intro hD
  unfold e_Reader_readLaw at hD
  refine k_runB (pc' := 4) (loc' := [(0, .ref (37 * 1024))]) (st' := [.ref (37 * 1024), .int 6, .ref (37 * 1024)]) 3 rfl ?_
  refine k_gf 37 0 (K := 11) rfl rfl rfl rfl rfl ?_
  refine k_runB (pc' := 9) (loc' := [(0, .ref (37 * 1024))]) (st' := [.int 8, .int (F 37 9), .int 6, .ref (37 * 1024)]) 1 rfl ?_
  obtain ⟨⟨v1, P2, F3, A4, J5⟩, hv1, hD⟩ := Option.bind_eq_some_iff.mp hD
  dsimp only at hD
  refine k_runV rfl rfl rfl (c_get (r := 37) (o := 0) (K := 11) rfl (by decide)) rfl rfl (t_e_Reader_takeFirst (d := d + 19) ht hv1) ?_
  refine k_runB (pc' := 14) (loc' := [(0, .ref (37 * 1024))]) (st' := [.ref (37 * 1024), .ref (37 * 1024)]) 2 rfl ?_
  refine k_gf 37 0 (K := 11) rfl rfl rfl rfl rfl ?_
  refine k_runB (pc' := 18) (loc' := [(0, .ref (37 * 1024))]) (st' := [.ref (37 * 1024), .ref (37 * 1024 + 10), .ref (37 * 1024)]) 1 rfl ?_
  obtain ⟨q6, hq6, hD⟩ := Option.bind_eq_some_iff.mp hD
  refine k_gq 37 0 (K := 11) (K2 := 6) (key := 5) rfl rfl rfl rfl rfl hq6 (fun kq6 => ?_)
  refine k_gf q6 0 (K := 6) kq6 rfl rfl rfl rfl ?_
  obtain ⟨⟨v7, P8, F9, A10, J11⟩, hv7, hD⟩ := Option.bind_eq_some_iff.mp hD
  dsimp only at hD
  refine k_runV rfl rfl rfl (c_get (r := 37) (o := 0) (K := 11) rfl (by decide)) rfl rfl (t_e_Reader_takeKnownName_v3 (d := d + 19) ht hv7) ?_
  refine k_runB (pc' := 29) (loc' := [(0, .ref (37 * 1024)), (1, .int v7)]) (st' := [.ref (37 * 1024)]) 2 rfl ?_
  obtain ⟨q12, hq12, hD⟩ := Option.bind_eq_some_iff.mp hD
  refine k_gq 37 0 (K := 11) (K2 := 6) (key := 5) rfl rfl rfl rfl rfl hq12 (fun kq12 => ?_)
  refine k_gf q12 0 (K := 6) kq12 rfl rfl rfl rfl ?_
  refine k_gf q12 13 (K := 6) kq12 rfl rfl rfl rfl ?_
  refine k_runB (pc' := 42) (loc' := [(0, .ref (37 * 1024)), (1, .int v7), (2, .int (F9 q12 1304))]) (st' := [.int 61, .ref (37 * 1024)]) 3 rfl ?_
  obtain ⟨⟨v13, P14, F15, A16, J17⟩, hv13, hD⟩ := Option.bind_eq_some_iff.mp hD
  dsimp only at hD
  refine k_runV rfl rfl rfl (c_get (r := 37) (o := 0) (K := 11) rfl (by decide)) rfl rfl (t_e_Reader_take (d := d + 20) ht hv13) ?_
  refine k_runB (pc' := 48) (loc' := [(0, .ref (37 * 1024)), (1, .int v7), (2, .int (F9 q12 1304)), (3, .int 0)]) (st' := []) 3 rfl ?_
  refine k_wk [0, 1, 2, 3] (loc' := [(0, .ref (37 * 1024)), (1, .int v7), (2, .int (F9 q12 1304)), (3, .int 0)]) rfl rfl ?_
  exact t_e_Reader_readLaw_48 ht   hD
/-- SleepWork$Reader.readNight()V  -/
def e_Reader_readNight (P : Nat → Nat → Nat) (F : Nat → Nat → Int32) (A : Nat → Nat → Nat → Int32) (J : Nat → Nat → Nat → Int64) : Option (Unit × (Nat → Nat → Nat) × (Nat → Nat → Int32) × (Nat → Nat → Nat → Int32) × (Nat → Nat → Nat → Int64)) :=
  (e_Reader_take P F A J 7).bind fun (v1, P2, F3, A4, J5) =>
  (c_chk 6 (P2 37 5)).bind fun q6 =>
  (e_Reader_takeNumber P2 F3 A4 J5 1 600).bind fun (v7, P8, F9, A10, J11) =>
  (c_pf F9 q6 18 v7).bind fun F12 =>
  (e_Reader_take P8 F12 A10 J11 59).bind fun (v13, P14, F15, A16, J17) =>
  some ((), P14, F15, A16, J17)
set_option maxRecDepth 10000 in
theorem t_e_Reader_readNight (ht : ∀ ci k, t.1 ci k = k_ty ci k) {P : Nat → Nat → Nat} {F : Nat → Nat → Int32} {A : Nat → Nat → Nat → Int32} {J : Nat → Nat → Nat → Int64}   {w : Unit × (Nat → Nat → Nat) × (Nat → Nat → Int32) × (Nat → Nat → Nat → Int32) × (Nat → Nat → Nat → Int64)} : e_Reader_readNight P F A J = some w → k_run t lg (d + 3) 59 0 [(0, .ref (37 * 1024))] [] (c_h c B P F A J) (none, c_h c B w.2.1 w.2.2.1 w.2.2.2.1 w.2.2.2.2) := by
  intro hD
  unfold e_Reader_readNight at hD
  refine k_runB (pc' := 3) (loc' := [(0, .ref (37 * 1024))]) (st' := [.int 7, .ref (37 * 1024)]) 2 rfl ?_
  obtain ⟨⟨v1, P2, F3, A4, J5⟩, hv1, hD⟩ := Option.bind_eq_some_iff.mp hD
  dsimp only at hD
  refine k_runV rfl rfl rfl (c_get (r := 37) (o := 0) (K := 11) rfl (by decide)) rfl rfl (t_e_Reader_take (d := d + 1) ht hv1) ?_
  refine k_runB (pc' := 8) (loc' := [(0, .ref (37 * 1024))]) (st' := [.ref (37 * 1024)]) 2 rfl ?_
  obtain ⟨q6, hq6, hD⟩ := Option.bind_eq_some_iff.mp hD
  refine k_gq 37 0 (K := 11) (K2 := 6) (key := 5) rfl rfl rfl rfl rfl hq6 (fun kq6 => ?_)
  refine k_runB (pc' := 16) (loc' := [(0, .ref (37 * 1024))]) (st' := [.int 600, .int 1, .ref (37 * 1024), .ref (q6 * 1024)]) 3 rfl ?_
  obtain ⟨⟨v7, P8, F9, A10, J11⟩, hv7, hD⟩ := Option.bind_eq_some_iff.mp hD
  dsimp only at hD
  refine k_runV rfl rfl rfl (c_get (r := 37) (o := 0) (K := 11) rfl (by decide)) rfl rfl (t_e_Reader_takeNumber (d := d) ht hv7) ?_
  obtain ⟨F12, hF12, hD⟩ := Option.bind_eq_some_iff.mp hD
  refine k_cpt q6 0 (K := 6) (key := 18) kq6 rfl (ht 1 18) rfl rfl rfl hF12 ?_
  refine k_runB (pc' := 25) (loc' := [(0, .ref (37 * 1024))]) (st' := [.int 59, .ref (37 * 1024)]) 2 rfl ?_
  obtain ⟨⟨v13, P14, F15, A16, J17⟩, hv13, hD⟩ := Option.bind_eq_some_iff.mp hD
  dsimp only at hD
  refine k_runV rfl rfl rfl (c_get (r := 37) (o := 0) (K := 11) rfl (by decide)) rfl rfl (t_e_Reader_take (d := d + 1) ht hv13) ?_
  refine k_runB (pc' := 29) (loc' := [(0, .ref (37 * 1024))]) (st' := []) 1 rfl ?_
  cases hD
  exact k_vret rfl rfl
def e_Reader_readText_171 (n : Nat) (P : Nat → Nat → Nat) (F : Nat → Nat → Int32) (A : Nat → Nat → Nat → Int32) (J : Nat → Nat → Nat → Int64) : Option (Int32 × (Nat → Nat → Nat) × (Nat → Nat → Int32) × (Nat → Nat → Nat → Int32) × (Nat → Nat → Nat → Int64)) :=
    cond (g_cnd .ne (F 37 10) 0)
    (some (F 37 10, P, F, A, J))
    ((c_pf F 37 10 (F 37 12)).bind fun F59 =>
    (c_pf F59 37 11 (F59 37 13)).bind fun F60 =>
    some (F60 37 10, P, F60, A, J))
set_option maxRecDepth 10000 in
theorem t_e_Reader_readText_171 (ht : ∀ ci k, t.1 ci k = k_ty ci k) {n : Nat}  {P : Nat → Nat → Nat} {F : Nat → Nat → Int32} {A : Nat → Nat → Nat → Int32} {J : Nat → Nat → Nat → Int64}   {w : Int32 × (Nat → Nat → Nat) × (Nat → Nat → Int32) × (Nat → Nat → Nat → Int32) × (Nat → Nat → Nat → Int64)} : e_Reader_readText_171 n P F A J = some w → k_run t lg (d + 23) 39 171 [(0, .ref (37 * 1024))] [] (c_h c B P F A J) (some (.int w.1), c_h c B w.2.1 w.2.2.1 w.2.2.2.1 w.2.2.2.2) := by
  intro hD
  unfold e_Reader_readText_171 at hD
  refine k_runB (pc' := 172) (loc' := [(0, .ref (37 * 1024))]) (st' := [.ref (37 * 1024)]) 1 rfl ?_
  refine k_gf 37 0 (K := 11) rfl rfl rfl rfl rfl ?_
  refine k_if rfl (fun c175_57 => ?_) (fun c175_57 => ?_)
  · rw [c175_57, cond_true] at hD
    refine k_runB (pc' := 195) (loc' := [(0, .ref (37 * 1024))]) (st' := [.ref (37 * 1024)]) 1 rfl ?_
    refine k_gf 37 0 (K := 11) rfl rfl rfl rfl rfl ?_
    cases hD
    exact k_iret rfl rfl
  · rw [c175_57, cond_false] at hD
    refine k_runB (pc' := 180) (loc' := [(0, .ref (37 * 1024))]) (st' := [.ref (37 * 1024), .ref (37 * 1024)]) 2 rfl ?_
    refine k_gf 37 0 (K := 11) rfl rfl rfl rfl rfl ?_
    obtain ⟨F59, hF59, hD⟩ := Option.bind_eq_some_iff.mp hD
    refine k_cpt 37 0 (K := 11) (key := 10) rfl rfl (ht 4 10) rfl rfl rfl hF59 ?_
    refine k_runB (pc' := 188) (loc' := [(0, .ref (37 * 1024))]) (st' := [.ref (37 * 1024), .ref (37 * 1024)]) 2 rfl ?_
    refine k_gf 37 0 (K := 11) rfl rfl rfl rfl rfl ?_
    obtain ⟨F60, hF60, hD⟩ := Option.bind_eq_some_iff.mp hD
    refine k_cpt 37 0 (K := 11) (key := 11) rfl rfl (ht 4 11) rfl rfl rfl hF60 ?_
    refine k_runB (pc' := 195) (loc' := [(0, .ref (37 * 1024))]) (st' := [.ref (37 * 1024)]) 1 rfl ?_
    refine k_gf 37 0 (K := 11) rfl rfl rfl rfl rfl ?_
    cases hD
    exact k_iret rfl rfl
def e_Reader_readText_165 (K10 : (Nat → Nat → Nat) → (Nat → Nat → Int32) → (Nat → Nat → Nat → Int32) → (Nat → Nat → Nat → Int64) → Int32 → Option (Int32 × (Nat → Nat → Nat) × (Nat → Nat → Int32) × (Nat → Nat → Nat → Int32) × (Nat → Nat → Nat → Int64))) (n : Nat) (P : Nat → Nat → Nat) (F : Nat → Nat → Int32) (A : Nat → Nat → Nat → Int32) (J : Nat → Nat → Nat → Int64) (x4 : Int32) : Option (Int32 × (Nat → Nat → Nat) × (Nat → Nat → Int32) × (Nat → Nat → Nat → Int32) × (Nat → Nat → Nat → Int64)) :=
    K10 P F A J (x4 + 1)
set_option maxRecDepth 10000 in
theorem t_e_Reader_readText_165 (ht : ∀ ci k, t.1 ci k = k_ty ci k) {n : Nat} {K10 : (Nat → Nat → Nat) → (Nat → Nat → Int32) → (Nat → Nat → Nat → Int32) → (Nat → Nat → Nat → Int64) → Int32 → Option (Int32 × (Nat → Nat → Nat) × (Nat → Nat → Int32) × (Nat → Nat → Nat → Int32) × (Nat → Nat → Nat → Int64))} (hK10 : ∀ (P : Nat → Nat → Nat) (F : Nat → Nat → Int32) (A : Nat → Nat → Nat → Int32) (J : Nat → Nat → Nat → Int64) (x4 : Int32) (w : Int32 × (Nat → Nat → Nat) × (Nat → Nat → Int32) × (Nat → Nat → Nat → Int32) × (Nat → Nat → Nat → Int64)), K10 P F A J x4 = some w → k_run t lg (d + 23) 39 10 [(0, .ref (37 * 1024)), (4, .int x4)] [] (c_h c B P F A J) (some (.int w.1), c_h c B w.2.1 w.2.2.1 w.2.2.2.1 w.2.2.2.2)) {P : Nat → Nat → Nat} {F : Nat → Nat → Int32} {A : Nat → Nat → Nat → Int32} {J : Nat → Nat → Nat → Int64} {x4 : Int32}  {w : Int32 × (Nat → Nat → Nat) × (Nat → Nat → Int32) × (Nat → Nat → Nat → Int32) × (Nat → Nat → Nat → Int64)} : e_Reader_readText_165 K10 n P F A J x4 = some w → k_run t lg (d + 23) 39 165 [(0, .ref (37 * 1024)), (4, .int x4)] [] (c_h c B P F A J) (some (.int w.1), c_h c B w.2.1 w.2.2.1 w.2.2.2.1 w.2.2.2.2) := by
  intro hD
  unfold e_Reader_readText_165 at hD
  refine k_runB (pc' := 10) (loc' := [(0, .ref (37 * 1024)), (4, .int (x4 + 1))]) (st' := []) 2 rfl ?_
  refine k_wk [0, 4] (loc' := [(0, .ref (37 * 1024)), (4, .int (x4 + 1))]) rfl rfl ?_
  exact hK10 _ _ _ _ _ _  hD
def e_Reader_readText_10 : Nat → (Nat → Nat → Nat) → (Nat → Nat → Int32) → (Nat → Nat → Nat → Int32) → (Nat → Nat → Nat → Int64) → Int32 → Option (Int32 × (Nat → Nat → Nat) × (Nat → Nat → Int32) × (Nat → Nat → Nat → Int32) × (Nat → Nat → Nat → Int64))
  | 0, _, _, _, _, _ => none
  | n + 1, P, F, A, J, x4 => cond (g_cnd .gt x4 400)
    (e_Reader_readText_171 n P F A J)
    (cond (g_cnd .ne (F 37 10) 0)
    (e_Reader_readText_171 n P F A J)
    ((e_Reader_isNext P F A J 102).bind fun v8 =>
    cond (g_cnd .ne v8 0)
    (e_Reader_readText_171 n P F A J)
    ((m_ld (A 37 2) 401 (F 37 7)).bind fun v10 =>
    cond (decide (v10 = 0))
    ((e_Reader_readRoom n P F A J).bind fun (_, P13, F14, A15, J16) =>
    e_Reader_readText_165 (e_Reader_readText_10 n) n P13 F14 A15 J16 x4)
    (cond (decide (v10 = 1))
    ((e_Reader_readDoor n P F A J).bind fun (_, P18, F19, A20, J21) =>
    e_Reader_readText_165 (e_Reader_readText_10 n) n P18 F19 A20 J21 x4)
    (cond (decide (v10 = 2))
    ((e_Reader_readTool n P F A J).bind fun (_, P23, F24, A25, J26) =>
    e_Reader_readText_165 (e_Reader_readText_10 n) n P23 F24 A25 J26 x4)
    (cond (decide (v10 = 3))
    ((e_Reader_readTask n P F A J).bind fun (_, P28, F29, A30, J31) =>
    e_Reader_readText_165 (e_Reader_readText_10 n) n P28 F29 A30 J31 x4)
    (cond (decide (v10 = 4))
    ((e_Reader_readStep n P F A J).bind fun (_, P33, F34, A35, J36) =>
    e_Reader_readText_165 (e_Reader_readText_10 n) n P33 F34 A35 J36 x4)
    (cond (decide (v10 = 5))
    ((e_Reader_readMan n P F A J).bind fun (_, P38, F39, A40, J41) =>
    e_Reader_readText_165 (e_Reader_readText_10 n) n P38 F39 A40 J41 x4)
    (cond (decide (v10 = 6))
    ((e_Reader_readLaw n P F A J).bind fun (_, P43, F44, A45, J46) =>
    e_Reader_readText_165 (e_Reader_readText_10 n) n P43 F44 A45 J46 x4)
    (cond (decide (v10 = 7))
    ((e_Reader_readNight P F A J).bind fun (_, P48, F49, A50, J51) =>
    e_Reader_readText_165 (e_Reader_readText_10 n) n P48 F49 A50 J51 x4)
    ((m_ld (A 37 3) 401 (F 37 7)).bind fun v52 =>
    (e_Reader_fail P F A J 1 v52).bind fun (_, P54, F55, A56, J57) =>
    (e_Reader_readText_10 n) P54 F55 A56 J57 (x4 + 1))))))))))))
set_option maxRecDepth 10000 in
theorem t_e_Reader_readText_10 (ht : ∀ ci k, t.1 ci k = k_ty ci k) {n : Nat}  {P : Nat → Nat → Nat} {F : Nat → Nat → Int32} {A : Nat → Nat → Nat → Int32} {J : Nat → Nat → Nat → Int64} {x4 : Int32}  {w : Int32 × (Nat → Nat → Nat) × (Nat → Nat → Int32) × (Nat → Nat → Nat → Int32) × (Nat → Nat → Nat → Int64)} : e_Reader_readText_10 n P F A J x4 = some w → k_run t lg (d + 23) 39 10 [(0, .ref (37 * 1024)), (4, .int x4)] [] (c_h c B P F A J) (some (.int w.1), c_h c B w.2.1 w.2.2.1 w.2.2.2.1 w.2.2.2.2) := by
  induction n generalizing P F A J x4 w with
  | zero => intro hD; cases hD
  | succ n ih =>
    intro hD
    have hK10 : ∀ (P : Nat → Nat → Nat) (F : Nat → Nat → Int32) (A : Nat → Nat → Nat → Int32) (J : Nat → Nat → Nat → Int64) (x4 : Int32) (w : Int32 × (Nat → Nat → Nat) × (Nat → Nat → Int32) × (Nat → Nat → Nat → Int32) × (Nat → Nat → Nat → Int64)), e_Reader_readText_10 n P F A J x4 = some w → k_run t lg (d + 23) 39 10 [(0, .ref (37 * 1024)), (4, .int x4)] [] (c_h c B P F A J) (some (.int w.1), c_h c B w.2.1 w.2.2.1 w.2.2.2.1 w.2.2.2.2) := fun _ _ _ _ _ _  h => ih  h
    unfold e_Reader_readText_10 at hD
    refine k_runB (pc' := 15) (loc' := [(0, .ref (37 * 1024)), (4, .int x4)]) (st' := [.int 400, .int x4]) 2 rfl ?_
    refine k_ic rfl (fun c15_5 => ?_) (fun c15_5 => ?_)
    · rw [c15_5, cond_true] at hD
      refine k_wk [0] (loc' := [(0, .ref (37 * 1024))]) rfl rfl ?_
      exact t_e_Reader_readText_171 ht   hD
    · rw [c15_5, cond_false] at hD
      refine k_runB (pc' := 19) (loc' := [(0, .ref (37 * 1024)), (4, .int x4)]) (st' := [.ref (37 * 1024)]) 1 rfl ?_
      refine k_gf 37 0 (K := 11) rfl rfl rfl rfl rfl ?_
      refine k_if rfl (fun c22_6 => ?_) (fun c22_6 => ?_)
      · rw [c22_6, cond_true] at hD
        refine k_wk [0] (loc' := [(0, .ref (37 * 1024))]) rfl rfl ?_
        exact t_e_Reader_readText_171 ht   hD
      · rw [c22_6, cond_false] at hD
        refine k_runB (pc' := 28) (loc' := [(0, .ref (37 * 1024)), (4, .int x4)]) (st' := [.int 102, .ref (37 * 1024)]) 2 rfl ?_
        obtain ⟨v8, hv8, hD⟩ := Option.bind_eq_some_iff.mp hD
        refine k_runV rfl rfl rfl (c_get (r := 37) (o := 0) (K := 11) rfl (by decide)) rfl rfl (t_e_Reader_isNext (d := d + 22) hv8) ?_
        refine k_if rfl (fun c31_8 => ?_) (fun c31_8 => ?_)
        · rw [c31_8, cond_true] at hD
          refine k_wk [0] (loc' := [(0, .ref (37 * 1024))]) rfl rfl ?_
          exact t_e_Reader_readText_171 ht   hD
        · rw [c31_8, cond_false] at hD
          refine k_runB (pc' := 35) (loc' := [(0, .ref (37 * 1024)), (4, .int x4)]) (st' := [.ref (37 * 1024)]) 1 rfl ?_
          refine k_gf 37 0 (K := 11) rfl rfl rfl rfl rfl ?_
          refine k_gf 37 1 (K := 11) rfl rfl rfl rfl rfl ?_
          refine k_runB (pc' := 42) (loc' := [(0, .ref (37 * 1024)), (4, .int x4)]) (st' := [.ref (37 * 1024), .ref (37 * 1024 + 2)]) 1 rfl ?_
          refine k_gf 37 0 (K := 11) rfl rfl rfl rfl rfl ?_
          obtain ⟨v10, hv10, hD⟩ := Option.bind_eq_some_iff.mp hD
          refine k_ldI rfl (c_get (r := 37) (o := 2) (K := 11) rfl (by decide)) hv10 ?_
          cases c46_10_0 : decide (v10 = 0) with
          | true =>
            rw [c46_10_0, cond_true] at hD
            refine k_tab (tgt := 92) rfl (by rw [of_decide_eq_true c46_10_0]; decide) ?_
            refine k_runB (pc' := 93) (loc' := [(0, .ref (37 * 1024)), (4, .int x4)]) (st' := [.ref (37 * 1024)]) 1 rfl ?_
            obtain ⟨⟨v12, P13, F14, A15, J16⟩, hv12, hD⟩ := Option.bind_eq_some_iff.mp hD
            dsimp only at hD
            refine k_runV rfl rfl rfl (c_get (r := 37) (o := 0) (K := 11) rfl (by decide)) rfl rfl (t_e_Reader_readRoom (d := d + 19) ht hv12) ?_
            refine k_runB (pc' := 165) (loc' := [(0, .ref (37 * 1024)), (4, .int x4)]) (st' := []) 1 rfl ?_
            refine k_wk [0, 4] (loc' := [(0, .ref (37 * 1024)), (4, .int x4)]) rfl rfl ?_
            exact t_e_Reader_readText_165 ht hK10  hD
          | false =>
            rw [c46_10_0, cond_false] at hD
            cases c46_10_1 : decide (v10 = 1) with
            | true =>
              rw [c46_10_1, cond_true] at hD
              refine k_tab (tgt := 99) rfl (by rw [of_decide_eq_true c46_10_1]; decide) ?_
              refine k_runB (pc' := 100) (loc' := [(0, .ref (37 * 1024)), (4, .int x4)]) (st' := [.ref (37 * 1024)]) 1 rfl ?_
              obtain ⟨⟨v17, P18, F19, A20, J21⟩, hv17, hD⟩ := Option.bind_eq_some_iff.mp hD
              dsimp only at hD
              refine k_runV rfl rfl rfl (c_get (r := 37) (o := 0) (K := 11) rfl (by decide)) rfl rfl (t_e_Reader_readDoor (d := d + 19) ht hv17) ?_
              refine k_runB (pc' := 165) (loc' := [(0, .ref (37 * 1024)), (4, .int x4)]) (st' := []) 1 rfl ?_
              refine k_wk [0, 4] (loc' := [(0, .ref (37 * 1024)), (4, .int x4)]) rfl rfl ?_
              exact t_e_Reader_readText_165 ht hK10  hD
            | false =>
              rw [c46_10_1, cond_false] at hD
              cases c46_10_2 : decide (v10 = 2) with
              | true =>
                rw [c46_10_2, cond_true] at hD
                refine k_tab (tgt := 106) rfl (by rw [of_decide_eq_true c46_10_2]; decide) ?_
                refine k_runB (pc' := 107) (loc' := [(0, .ref (37 * 1024)), (4, .int x4)]) (st' := [.ref (37 * 1024)]) 1 rfl ?_
                obtain ⟨⟨v22, P23, F24, A25, J26⟩, hv22, hD⟩ := Option.bind_eq_some_iff.mp hD
                dsimp only at hD
                refine k_runV rfl rfl rfl (c_get (r := 37) (o := 0) (K := 11) rfl (by decide)) rfl rfl (t_e_Reader_readTool (d := d + 19) ht hv22) ?_
                refine k_runB (pc' := 165) (loc' := [(0, .ref (37 * 1024)), (4, .int x4)]) (st' := []) 1 rfl ?_
                refine k_wk [0, 4] (loc' := [(0, .ref (37 * 1024)), (4, .int x4)]) rfl rfl ?_
                exact t_e_Reader_readText_165 ht hK10  hD
              | false =>
                rw [c46_10_2, cond_false] at hD
                cases c46_10_3 : decide (v10 = 3) with
                | true =>
                  rw [c46_10_3, cond_true] at hD
                  refine k_tab (tgt := 113) rfl (by rw [of_decide_eq_true c46_10_3]; decide) ?_
                  refine k_runB (pc' := 114) (loc' := [(0, .ref (37 * 1024)), (4, .int x4)]) (st' := [.ref (37 * 1024)]) 1 rfl ?_
                  obtain ⟨⟨v27, P28, F29, A30, J31⟩, hv27, hD⟩ := Option.bind_eq_some_iff.mp hD
                  dsimp only at hD
                  refine k_runV rfl rfl rfl (c_get (r := 37) (o := 0) (K := 11) rfl (by decide)) rfl rfl (t_e_Reader_readTask (d := d + 19) ht hv27) ?_
                  refine k_runB (pc' := 165) (loc' := [(0, .ref (37 * 1024)), (4, .int x4)]) (st' := []) 1 rfl ?_
                  refine k_wk [0, 4] (loc' := [(0, .ref (37 * 1024)), (4, .int x4)]) rfl rfl ?_
                  exact t_e_Reader_readText_165 ht hK10  hD
                | false =>
                  rw [c46_10_3, cond_false] at hD
                  cases c46_10_4 : decide (v10 = 4) with
                  | true =>
                    rw [c46_10_4, cond_true] at hD
                    refine k_tab (tgt := 120) rfl (by rw [of_decide_eq_true c46_10_4]; decide) ?_
                    refine k_runB (pc' := 121) (loc' := [(0, .ref (37 * 1024)), (4, .int x4)]) (st' := [.ref (37 * 1024)]) 1 rfl ?_
                    obtain ⟨⟨v32, P33, F34, A35, J36⟩, hv32, hD⟩ := Option.bind_eq_some_iff.mp hD
                    dsimp only at hD
                    refine k_runV rfl rfl rfl (c_get (r := 37) (o := 0) (K := 11) rfl (by decide)) rfl rfl (t_e_Reader_readStep (d := d + 18) ht hv32) ?_
                    refine k_runB (pc' := 165) (loc' := [(0, .ref (37 * 1024)), (4, .int x4)]) (st' := []) 1 rfl ?_
                    refine k_wk [0, 4] (loc' := [(0, .ref (37 * 1024)), (4, .int x4)]) rfl rfl ?_
                    exact t_e_Reader_readText_165 ht hK10  hD
                  | false =>
                    rw [c46_10_4, cond_false] at hD
                    cases c46_10_5 : decide (v10 = 5) with
                    | true =>
                      rw [c46_10_5, cond_true] at hD
                      refine k_tab (tgt := 127) rfl (by rw [of_decide_eq_true c46_10_5]; decide) ?_
                      refine k_runB (pc' := 128) (loc' := [(0, .ref (37 * 1024)), (4, .int x4)]) (st' := [.ref (37 * 1024)]) 1 rfl ?_
                      obtain ⟨⟨v37, P38, F39, A40, J41⟩, hv37, hD⟩ := Option.bind_eq_some_iff.mp hD
                      dsimp only at hD
                      refine k_runV rfl rfl rfl (c_get (r := 37) (o := 0) (K := 11) rfl (by decide)) rfl rfl (t_e_Reader_readMan (d := d + 18) ht hv37) ?_
                      refine k_runB (pc' := 165) (loc' := [(0, .ref (37 * 1024)), (4, .int x4)]) (st' := []) 1 rfl ?_
                      refine k_wk [0, 4] (loc' := [(0, .ref (37 * 1024)), (4, .int x4)]) rfl rfl ?_
                      exact t_e_Reader_readText_165 ht hK10  hD
                    | false =>
                      rw [c46_10_5, cond_false] at hD
                      cases c46_10_6 : decide (v10 = 6) with
                      | true =>
                        rw [c46_10_6, cond_true] at hD
                        refine k_tab (tgt := 134) rfl (by rw [of_decide_eq_true c46_10_6]; decide) ?_
                        refine k_runB (pc' := 135) (loc' := [(0, .ref (37 * 1024)), (4, .int x4)]) (st' := [.ref (37 * 1024)]) 1 rfl ?_
                        obtain ⟨⟨v42, P43, F44, A45, J46⟩, hv42, hD⟩ := Option.bind_eq_some_iff.mp hD
                        dsimp only at hD
                        refine k_runV rfl rfl rfl (c_get (r := 37) (o := 0) (K := 11) rfl (by decide)) rfl rfl (t_e_Reader_readLaw (d := d) ht hv42) ?_
                        refine k_runB (pc' := 165) (loc' := [(0, .ref (37 * 1024)), (4, .int x4)]) (st' := []) 1 rfl ?_
                        refine k_wk [0, 4] (loc' := [(0, .ref (37 * 1024)), (4, .int x4)]) rfl rfl ?_
                        exact t_e_Reader_readText_165 ht hK10  hD
                      | false =>
                        rw [c46_10_6, cond_false] at hD
                        cases c46_10_7 : decide (v10 = 7) with
                        | true =>
                          rw [c46_10_7, cond_true] at hD
                          refine k_tab (tgt := 141) rfl (by rw [of_decide_eq_true c46_10_7]; decide) ?_
                          refine k_runB (pc' := 142) (loc' := [(0, .ref (37 * 1024)), (4, .int x4)]) (st' := [.ref (37 * 1024)]) 1 rfl ?_
                          obtain ⟨⟨v47, P48, F49, A50, J51⟩, hv47, hD⟩ := Option.bind_eq_some_iff.mp hD
                          dsimp only at hD
                          refine k_runV rfl rfl rfl (c_get (r := 37) (o := 0) (K := 11) rfl (by decide)) rfl rfl (t_e_Reader_readNight (d := d + 19) ht hv47) ?_
                          refine k_runB (pc' := 165) (loc' := [(0, .ref (37 * 1024)), (4, .int x4)]) (st' := []) 1 rfl ?_
                          refine k_wk [0, 4] (loc' := [(0, .ref (37 * 1024)), (4, .int x4)]) rfl rfl ?_
                          exact t_e_Reader_readText_165 ht hK10  hD
                        | false =>
                          rw [c46_10_7, cond_false] at hD
                          refine k_tab (tgt := 148) rfl (by rw [if_pos (m_out (lo := 0) (hi := 7) [0, 1, 2, 3, 4, 5, 6, 7] (by decide) (by decide) (List.forall_mem_cons.mpr ⟨of_decide_eq_false c46_10_0, List.forall_mem_cons.mpr ⟨of_decide_eq_false c46_10_1, List.forall_mem_cons.mpr ⟨of_decide_eq_false c46_10_2, List.forall_mem_cons.mpr ⟨of_decide_eq_false c46_10_3, List.forall_mem_cons.mpr ⟨of_decide_eq_false c46_10_4, List.forall_mem_cons.mpr ⟨of_decide_eq_false c46_10_5, List.forall_mem_cons.mpr ⟨of_decide_eq_false c46_10_6, List.forall_mem_cons.mpr ⟨of_decide_eq_false c46_10_7, fun _ h => absurd h List.not_mem_nil⟩⟩⟩⟩⟩⟩⟩⟩))]; rfl) ?_
                          refine k_runB (pc' := 151) (loc' := [(0, .ref (37 * 1024)), (4, .int x4)]) (st' := [.ref (37 * 1024), .int 1, .ref (37 * 1024)]) 3 rfl ?_
                          refine k_gf 37 0 (K := 11) rfl rfl rfl rfl rfl ?_
                          refine k_gf 37 1 (K := 11) rfl rfl rfl rfl rfl ?_
                          refine k_runB (pc' := 158) (loc' := [(0, .ref (37 * 1024)), (4, .int x4)]) (st' := [.ref (37 * 1024), .ref (37 * 1024 + 3), .int 1, .ref (37 * 1024)]) 1 rfl ?_
                          refine k_gf 37 0 (K := 11) rfl rfl rfl rfl rfl ?_
                          obtain ⟨v52, hv52, hD⟩ := Option.bind_eq_some_iff.mp hD
                          refine k_ldI rfl (c_get (r := 37) (o := 3) (K := 11) rfl (by decide)) hv52 ?_
                          obtain ⟨⟨v53, P54, F55, A56, J57⟩, hv53, hD⟩ := Option.bind_eq_some_iff.mp hD
                          dsimp only at hD
                          refine k_runV rfl rfl rfl (c_get (r := 37) (o := 0) (K := 11) rfl (by decide)) rfl rfl (t_e_Reader_fail (d := d + 22) ht hv53) ?_
                          refine k_runB (pc' := 10) (loc' := [(0, .ref (37 * 1024)), (4, .int (x4 + 1))]) (st' := []) 2 rfl ?_
                          refine k_wk [0, 4] (loc' := [(0, .ref (37 * 1024)), (4, .int (x4 + 1))]) rfl rfl ?_
                          exact hK10 _ _ _ _ _ _  hD
/-- SleepWork$Reader.readText(LSleepWork$Tape;LSleepWork$House;LSleepWork$State;)I  -/
def e_Reader_readText (n : Nat) (P : Nat → Nat → Nat) (F : Nat → Nat → Int32) (A : Nat → Nat → Nat → Int32) (J : Nat → Nat → Nat → Int64) (r2 : Nat) (r3 : Nat) : Option (Int32 × (Nat → Nat → Nat) × (Nat → Nat → Int32) × (Nat → Nat → Nat → Int32) × (Nat → Nat → Nat → Int64)) :=
  (e_Reader_open n P F A J r2 r3).bind fun (_, P2, F3, A4, J5) =>
  e_Reader_readText_10 n P2 F3 A4 J5 0
set_option maxRecDepth 10000 in
theorem t_e_Reader_readText (ht : ∀ ci k, t.1 ci k = k_ty ci k) {n : Nat} {P : Nat → Nat → Nat} {F : Nat → Nat → Int32} {A : Nat → Nat → Nat → Int32} {J : Nat → Nat → Nat → Int64} {r2 : Nat} {r3 : Nat} (hr2 : c_kind r2 = 6) (hr3 : c_kind r3 = 2) {w : Int32 × (Nat → Nat → Nat) × (Nat → Nat → Int32) × (Nat → Nat → Nat → Int32) × (Nat → Nat → Nat → Int64)} : e_Reader_readText n P F A J r2 r3 = some w → k_run t lg (d + 23) 39 0 [(0, .ref (37 * 1024)), (1, .ref (1 * 1024)), (2, .ref (r2 * 1024)), (3, .ref (r3 * 1024))] [] (c_h c B P F A J) (some (.int w.1), c_h c B w.2.1 w.2.2.1 w.2.2.2.1 w.2.2.2.2) := by
  intro hD
  unfold e_Reader_readText at hD
  refine k_runB (pc' := 4) (loc' := [(0, .ref (37 * 1024)), (1, .ref (1 * 1024)), (2, .ref (r2 * 1024)), (3, .ref (r3 * 1024))]) (st' := [.ref (r3 * 1024), .ref (r2 * 1024), .ref (1 * 1024), .ref (37 * 1024)]) 4 rfl ?_
  obtain ⟨⟨v1, P2, F3, A4, J5⟩, hv1, hD⟩ := Option.bind_eq_some_iff.mp hD
  dsimp only at hD
  refine k_runV rfl rfl rfl (c_get (r := 37) (o := 0) (K := 11) rfl (by decide)) rfl rfl (t_e_Reader_open (d := d + 16) ht hr2 hr3 hv1) ?_
  refine k_runB (pc' := 10) (loc' := [(0, .ref (37 * 1024)), (1, .ref (1 * 1024)), (2, .ref (r2 * 1024)), (3, .ref (r3 * 1024)), (4, .int 0)]) (st' := []) 2 rfl ?_
  refine k_wk [0, 4] (loc' := [(0, .ref (37 * 1024)), (4, .int 0)]) rfl rfl ?_
  exact t_e_Reader_readText_10 ht   hD
/-- SleepWork$Reader.placeOfFault()I  -/
def e_Reader_placeOfFault (P : Nat → Nat → Nat) (F : Nat → Nat → Int32) (A : Nat → Nat → Nat → Int32) (J : Nat → Nat → Nat → Int64) : Option (Int32) :=
  cond (g_cnd .ne (F 37 10) 0)
  (some (F 37 11))
  (some ((-1)))
set_option maxRecDepth 10000 in
theorem t_e_Reader_placeOfFault {P : Nat → Nat → Nat} {F : Nat → Nat → Int32} {A : Nat → Nat → Nat → Int32} {J : Nat → Nat → Nat → Int64}   {w : Int32} : e_Reader_placeOfFault P F A J = some w → k_run t lg (d) 40 0 [(0, .ref (37 * 1024))] [] (c_h c B P F A J) (some (.int w), c_h c B P F A J) := by
  intro hD
  unfold e_Reader_placeOfFault at hD
  refine k_runB (pc' := 1) (loc' := [(0, .ref (37 * 1024))]) (st' := [.ref (37 * 1024)]) 1 rfl ?_
  refine k_gf 37 0 (K := 11) rfl rfl rfl rfl rfl ?_
  refine k_if rfl (fun c4_0 => ?_) (fun c4_0 => ?_)
  · rw [c4_0, cond_true] at hD
    refine k_runB (pc' := 12) (loc' := [(0, .ref (37 * 1024))]) (st' := [.ref (37 * 1024)]) 1 rfl ?_
    refine k_gf 37 0 (K := 11) rfl rfl rfl rfl rfl ?_
    cases hD
    exact k_iret rfl rfl
  · rw [c4_0, cond_false] at hD
    refine k_runB (pc' := 15) (loc' := [(0, .ref (37 * 1024))]) (st' := [.int ((-1))]) 2 rfl ?_
    cases hD
    exact k_iret rfl rfl
/-- SleepWork$Tape.hasSpace()Z  -/
def e_Tape_hasSpace (P : Nat → Nat → Nat) (F : Nat → Nat → Int32) (A : Nat → Nat → Nat → Int32) (J : Nat → Nat → Nat → Int64) : Option (Int32) :=
  cond (g_cnd .gt ((F 1 1) + 20) 2000)
  (some (0))
  (some (1))
set_option maxRecDepth 10000 in
theorem t_e_Tape_hasSpace {P : Nat → Nat → Nat} {F : Nat → Nat → Int32} {A : Nat → Nat → Nat → Int32} {J : Nat → Nat → Nat → Int64}   {w : Int32} : e_Tape_hasSpace P F A J = some w → k_run t lg (d) 87 0 [(0, .ref (1 * 1024))] [] (c_h c B P F A J) (some (.int w), c_h c B P F A J) := by
  intro hD
  unfold e_Tape_hasSpace at hD
  refine k_runB (pc' := 1) (loc' := [(0, .ref (1 * 1024))]) (st' := [.ref (1 * 1024)]) 1 rfl ?_
  refine k_gf 1 0 (K := 1) rfl rfl rfl rfl rfl ?_
  refine k_runB (pc' := 10) (loc' := [(0, .ref (1 * 1024))]) (st' := [.int 2000, .int ((F 1 1) + 20)]) 3 rfl ?_
  refine k_ic rfl (fun c10_0 => ?_) (fun c10_0 => ?_)
  · rw [c10_0, cond_true] at hD
    refine k_runB (pc' := 18) (loc' := [(0, .ref (1 * 1024))]) (st' := [.int 0]) 1 rfl ?_
    cases hD
    exact k_zret rfl rfl (Or.inl rfl)
  · rw [c10_0, cond_false] at hD
    refine k_runB (pc' := 18) (loc' := [(0, .ref (1 * 1024))]) (st' := [.int 1]) 2 rfl ?_
    cases hD
    exact k_zret rfl rfl (Or.inr rfl)
def e_Tape_addWord_3 : Nat → (Nat → Nat → Nat) → (Nat → Nat → Int32) → (Nat → Nat → Nat → Int32) → (Nat → Nat → Nat → Int64) → Int32 → Int32 → Option (Unit × (Nat → Nat → Nat) × (Nat → Nat → Int32) × (Nat → Nat → Nat → Int32) × (Nat → Nat → Nat → Int64))
  | 0, _, _, _, _, _, _ => none
  | n + 1, P, F, A, J, x1, x2 => cond (g_cnd .lt x2 0)
    (some ((), P, F, A, J))
    (cond (g_cnd .ge (F 1 1) 2000)
    (some ((), P, F, A, J))
    ((c_st A 1 1 2000 (F 1 1) (vp_nar .byte ((x1 >>> (x2 &&& 31)).toInt8.toInt32))).bind fun A3 =>
    (c_pf F 1 1 ((F 1 1) + 1)).bind fun F4 =>
    (e_Tape_addWord_3 n) P F4 A3 J x1 (x2 + (-8))))
set_option maxRecDepth 10000 in
theorem t_e_Tape_addWord_3 (ht : ∀ ci k, t.1 ci k = k_ty ci k) {n : Nat}  {P : Nat → Nat → Nat} {F : Nat → Nat → Int32} {A : Nat → Nat → Nat → Int32} {J : Nat → Nat → Nat → Int64} {x1 : Int32} {x2 : Int32}  {w : Unit × (Nat → Nat → Nat) × (Nat → Nat → Int32) × (Nat → Nat → Nat → Int32) × (Nat → Nat → Nat → Int64)} : e_Tape_addWord_3 n P F A J x1 x2 = some w → k_run t lg (d) 88 3 [(0, .ref (1 * 1024)), (1, .int x1), (2, .int x2)] [] (c_h c B P F A J) (none, c_h c B w.2.1 w.2.2.1 w.2.2.2.1 w.2.2.2.2) := by
  induction n generalizing P F A J x1 x2 w with
  | zero => intro hD; cases hD
  | succ n ih =>
    intro hD
    have hK3 : ∀ (P : Nat → Nat → Nat) (F : Nat → Nat → Int32) (A : Nat → Nat → Nat → Int32) (J : Nat → Nat → Nat → Int64) (x1 : Int32) (x2 : Int32) (w : Unit × (Nat → Nat → Nat) × (Nat → Nat → Int32) × (Nat → Nat → Nat → Int32) × (Nat → Nat → Nat → Int64)), e_Tape_addWord_3 n P F A J x1 x2 = some w → k_run t lg (d) 88 3 [(0, .ref (1 * 1024)), (1, .int x1), (2, .int x2)] [] (c_h c B P F A J) (none, c_h c B w.2.1 w.2.2.1 w.2.2.2.1 w.2.2.2.2) := fun _ _ _ _ _ _ _  h => ih  h
    unfold e_Tape_addWord_3 at hD
    refine k_runB (pc' := 4) (loc' := [(0, .ref (1 * 1024)), (1, .int x1), (2, .int x2)]) (st' := [.int x2]) 1 rfl ?_
    refine k_if rfl (fun c4_0 => ?_) (fun c4_0 => ?_)
    · rw [c4_0, cond_true] at hD
      cases hD
      exact k_vret rfl rfl
    · rw [c4_0, cond_false] at hD
      refine k_runB (pc' := 8) (loc' := [(0, .ref (1 * 1024)), (1, .int x1), (2, .int x2)]) (st' := [.ref (1 * 1024)]) 1 rfl ?_
      refine k_gf 1 0 (K := 1) rfl rfl rfl rfl rfl ?_
      refine k_runB (pc' := 14) (loc' := [(0, .ref (1 * 1024)), (1, .int x1), (2, .int x2)]) (st' := [.int 2000, .int (F 1 1)]) 1 rfl ?_
      refine k_ic rfl (fun c14_1 => ?_) (fun c14_1 => ?_)
      · rw [c14_1, cond_true] at hD
        cases hD
        exact k_vret rfl rfl
      · rw [c14_1, cond_false] at hD
        refine k_runB (pc' := 18) (loc' := [(0, .ref (1 * 1024)), (1, .int x1), (2, .int x2)]) (st' := [.ref (1 * 1024)]) 1 rfl ?_
        refine k_gf 1 0 (K := 1) rfl rfl rfl rfl rfl ?_
        refine k_runB (pc' := 22) (loc' := [(0, .ref (1 * 1024)), (1, .int x1), (2, .int x2)]) (st' := [.ref (1 * 1024), .ref (1 * 1024 + 1)]) 1 rfl ?_
        refine k_gf 1 0 (K := 1) rfl rfl rfl rfl rfl ?_
        refine k_runB (pc' := 29) (loc' := [(0, .ref (1 * 1024)), (1, .int x1), (2, .int x2)]) (st' := [.int ((x1 >>> (x2 &&& 31)).toInt8.toInt32), .int (F 1 1), .ref (1 * 1024 + 1)]) 4 rfl ?_
        obtain ⟨A3, hA3, hD⟩ := Option.bind_eq_some_iff.mp hD
        refine k_cstB 1 1 (K := 1) rfl rfl rfl rfl (fun _ => rfl) hA3 ?_
        refine k_runB (pc' := 32) (loc' := [(0, .ref (1 * 1024)), (1, .int x1), (2, .int x2)]) (st' := [.ref (1 * 1024), .ref (1 * 1024)]) 2 rfl ?_
        refine k_gf 1 0 (K := 1) rfl rfl rfl rfl rfl ?_
        refine k_runB (pc' := 37) (loc' := [(0, .ref (1 * 1024)), (1, .int x1), (2, .int x2)]) (st' := [.int ((F 1 1) + 1), .ref (1 * 1024)]) 2 rfl ?_
        obtain ⟨F4, hF4, hD⟩ := Option.bind_eq_some_iff.mp hD
        refine k_cpt 1 0 (K := 1) (key := 1) rfl rfl (ht 8 1) rfl rfl rfl hF4 ?_
        refine k_runB (pc' := 3) (loc' := [(0, .ref (1 * 1024)), (1, .int x1), (2, .int (x2 + (-8)))]) (st' := []) 2 rfl ?_
        refine k_wk [0, 1, 2] (loc' := [(0, .ref (1 * 1024)), (1, .int x1), (2, .int (x2 + (-8)))]) rfl rfl ?_
        exact hK3 _ _ _ _ _ _ _  hD
/-- SleepWork$Tape.addWord(I)V  -/
def e_Tape_addWord (n : Nat) (P : Nat → Nat → Nat) (F : Nat → Nat → Int32) (A : Nat → Nat → Nat → Int32) (J : Nat → Nat → Nat → Int64) (x1 : Int32) : Option (Unit × (Nat → Nat → Nat) × (Nat → Nat → Int32) × (Nat → Nat → Nat → Int32) × (Nat → Nat → Nat → Int64)) :=
  e_Tape_addWord_3 n P F A J x1 24
set_option maxRecDepth 10000 in
theorem t_e_Tape_addWord (ht : ∀ ci k, t.1 ci k = k_ty ci k) {n : Nat} {P : Nat → Nat → Nat} {F : Nat → Nat → Int32} {A : Nat → Nat → Nat → Int32} {J : Nat → Nat → Nat → Int64} {x1 : Int32}  {w : Unit × (Nat → Nat → Nat) × (Nat → Nat → Int32) × (Nat → Nat → Nat → Int32) × (Nat → Nat → Nat → Int64)} : e_Tape_addWord n P F A J x1 = some w → k_run t lg (d) 88 0 [(0, .ref (1 * 1024)), (1, .int x1)] [] (c_h c B P F A J) (none, c_h c B w.2.1 w.2.2.1 w.2.2.2.1 w.2.2.2.2) := by
  intro hD
  unfold e_Tape_addWord at hD
  refine k_runB (pc' := 3) (loc' := [(0, .ref (1 * 1024)), (1, .int x1), (2, .int 24)]) (st' := []) 2 rfl ?_
  refine k_wk [0, 1, 2] (loc' := [(0, .ref (1 * 1024)), (1, .int x1), (2, .int 24)]) rfl rfl ?_
  exact t_e_Tape_addWord_3 ht   hD
end MC
end Qz29
