/-! the class's methods as functions (printed by wip/dec2.py) -/
section MC
variable {t : gT} {lg : Nat → Nat} {d : Nat} {c : Nat × Nat} {B : Nat → List gE}
def e_Reader_readMan_92 (n : Nat) (P : Nat → Nat → Nat) (F : Nat → Nat → Int32) (A : Nat → Nat → Nat → Int32) (J : Nat → Nat → Nat → Int64) (x1 : Int32) (x2 : Int32) : Option (Unit × (Nat → Nat → Nat) × (Nat → Nat → Int32) × (Nat → Nat → Nat → Int32) × (Nat → Nat → Nat → Int64)) :=
    (e_Reader_take P F A J 59).bind fun (v38, P39, F40, A41, J42) =>
    cond (g_cnd .eq v38 0)
    (some ((), P39, F40, A41, J42))
    ((c_chk 6 (P39 37 5)).bind fun q44 =>
    (c_chk 6 (P39 37 5)).bind fun q45 =>
    (c_st A41 q44 12 6 (F40 q45 17) x1).bind fun A46 =>
    (c_chk 2 (P39 37 6)).bind fun q47 =>
    (c_chk 6 (P39 37 5)).bind fun q48 =>
    (c_st A46 q47 3 6 (F40 q48 17) x2).bind fun A49 =>
    (c_chk 6 (P39 37 5)).bind fun q50 =>
    (c_pf F40 q50 17 ((F40 q50 17) + 1)).bind fun F51 =>
    some ((), P39, F51, A49, J42))
set_option maxRecDepth 10000 in
theorem t_e_Reader_readMan_92 (ht : ∀ ci k, t.1 ci k = k_ty ci k) {n : Nat}  {P : Nat → Nat → Nat} {F : Nat → Nat → Int32} {A : Nat → Nat → Nat → Int32} {J : Nat → Nat → Nat → Int64} {x1 : Int32} {x2 : Int32}  {w : Unit × (Nat → Nat → Nat) × (Nat → Nat → Int32) × (Nat → Nat → Nat → Int32) × (Nat → Nat → Nat → Int64)} : e_Reader_readMan_92 n P F A J x1 x2 = some w → k_run t lg (d + 4) 58 92 [(0, .ref (37 * 1024)), (1, .int x1), (2, .int x2)] [] (c_h c B P F A J) (none, c_h c B w.2.1 w.2.2.1 w.2.2.2.1 w.2.2.2.2) := by
  intro hD
  unfold e_Reader_readMan_92 at hD
  refine k_runB (pc' := 95) (loc' := [(0, .ref (37 * 1024)), (1, .int x1), (2, .int x2)]) (st' := [.int 59, .ref (37 * 1024)]) 2 rfl ?_
  obtain ⟨⟨v38, P39, F40, A41, J42⟩, hv38, hD⟩ := Option.bind_eq_some_iff.mp hD
  dsimp only at hD
  refine k_runV rfl rfl rfl (c_get (r := 37) (o := 0) (K := 11) rfl (by decide)) rfl rfl (t_e_Reader_take (d := d + 2) ht hv38) ?_
  refine k_if rfl (fun c98_42 => ?_) (fun c98_42 => ?_)
  · rw [c98_42, cond_true] at hD
    cases hD
    exact k_vret rfl rfl
  · rw [c98_42, cond_false] at hD
    refine k_runB (pc' := 102) (loc' := [(0, .ref (37 * 1024)), (1, .int x1), (2, .int x2)]) (st' := [.ref (37 * 1024)]) 1 rfl ?_
    obtain ⟨q44, hq44, hD⟩ := Option.bind_eq_some_iff.mp hD
    refine k_gq 37 0 (K := 11) (K2 := 6) (key := 5) rfl rfl rfl rfl rfl hq44 (fun kq44 => ?_)
    refine k_gf q44 0 (K := 6) kq44 rfl rfl rfl rfl ?_
    refine k_runB (pc' := 109) (loc' := [(0, .ref (37 * 1024)), (1, .int x1), (2, .int x2)]) (st' := [.ref (37 * 1024), .ref (q44 * 1024 + 12)]) 1 rfl ?_
    obtain ⟨q45, hq45, hD⟩ := Option.bind_eq_some_iff.mp hD
    refine k_gq 37 0 (K := 11) (K2 := 6) (key := 5) rfl rfl rfl rfl rfl hq45 (fun kq45 => ?_)
    refine k_gf q45 0 (K := 6) kq45 rfl rfl rfl rfl ?_
    refine k_runB (pc' := 116) (loc' := [(0, .ref (37 * 1024)), (1, .int x1), (2, .int x2)]) (st' := [.int x1, .int (F40 q45 17), .ref (q44 * 1024 + 12)]) 1 rfl ?_
    obtain ⟨A46, hA46, hD⟩ := Option.bind_eq_some_iff.mp hD
    refine k_cstI q44 12 (K := 6) kq44 rfl rfl rfl (fun _ => rfl) hA46 ?_
    refine k_runB (pc' := 118) (loc' := [(0, .ref (37 * 1024)), (1, .int x1), (2, .int x2)]) (st' := [.ref (37 * 1024)]) 1 rfl ?_
    obtain ⟨q47, hq47, hD⟩ := Option.bind_eq_some_iff.mp hD
    refine k_gq 37 0 (K := 11) (K2 := 2) (key := 6) rfl rfl rfl rfl rfl hq47 (fun kq47 => ?_)
    refine k_gf q47 0 (K := 2) kq47 rfl rfl rfl rfl ?_
    refine k_runB (pc' := 125) (loc' := [(0, .ref (37 * 1024)), (1, .int x1), (2, .int x2)]) (st' := [.ref (37 * 1024), .ref (q47 * 1024 + 3)]) 1 rfl ?_
    obtain ⟨q48, hq48, hD⟩ := Option.bind_eq_some_iff.mp hD
    refine k_gq 37 0 (K := 11) (K2 := 6) (key := 5) rfl rfl rfl rfl rfl hq48 (fun kq48 => ?_)
    refine k_gf q48 0 (K := 6) kq48 rfl rfl rfl rfl ?_
    refine k_runB (pc' := 132) (loc' := [(0, .ref (37 * 1024)), (1, .int x1), (2, .int x2)]) (st' := [.int x2, .int (F40 q48 17), .ref (q47 * 1024 + 3)]) 1 rfl ?_
    obtain ⟨A49, hA49, hD⟩ := Option.bind_eq_some_iff.mp hD
    refine k_cstI q47 3 (K := 2) kq47 rfl rfl rfl (fun _ => rfl) hA49 ?_
    refine k_runB (pc' := 134) (loc' := [(0, .ref (37 * 1024)), (1, .int x1), (2, .int x2)]) (st' := [.ref (37 * 1024)]) 1 rfl ?_
    obtain ⟨q50, hq50, hD⟩ := Option.bind_eq_some_iff.mp hD
    refine k_gq 37 0 (K := 11) (K2 := 6) (key := 5) rfl rfl rfl rfl rfl hq50 (fun kq50 => ?_)
    refine k_runB (pc' := 138) (loc' := [(0, .ref (37 * 1024)), (1, .int x1), (2, .int x2)]) (st' := [.ref (q50 * 1024), .ref (q50 * 1024)]) 1 rfl ?_
    refine k_gf q50 0 (K := 6) kq50 rfl rfl rfl rfl ?_
    refine k_runB (pc' := 143) (loc' := [(0, .ref (37 * 1024)), (1, .int x1), (2, .int x2)]) (st' := [.int ((F40 q50 17) + 1), .ref (q50 * 1024)]) 2 rfl ?_
    obtain ⟨F51, hF51, hD⟩ := Option.bind_eq_some_iff.mp hD
    refine k_cpt q50 0 (K := 6) (key := 17) kq50 rfl (ht 1 17) rfl rfl rfl hF51 ?_
    cases hD
    exact k_vret rfl rfl
/-- SleepWork$Reader.readMan()V  -/
def e_Reader_readMan (n : Nat) (P : Nat → Nat → Nat) (F : Nat → Nat → Int32) (A : Nat → Nat → Nat → Int32) (J : Nat → Nat → Nat → Int64) : Option (Unit × (Nat → Nat → Nat) × (Nat → Nat → Int32) × (Nat → Nat → Nat → Int32) × (Nat → Nat → Nat → Int64)) :=
  (c_chk 6 (P 37 5)).bind fun q1 =>
  (e_Reader_takeFirst P F A J 5 (F q1 17) 6).bind fun (_, P3, F4, A5, J6) =>
  (c_chk 6 (P3 37 5)).bind fun q7 =>
  (e_Reader_takeNewName_v3 n P3 F4 A5 J6 (F4 q7 17)).bind fun (_, P9, F10, A11, J12) =>
  (c_chk 6 (P9 37 5)).bind fun q13 =>
  (e_Reader_takeKnownName n P9 F10 A11 J12 (F10 q13 13)).bind fun (v14, P15, F16, A17, J18) =>
  (e_Reader_isNext P15 F16 A17 J18 11).bind fun v19 =>
  cond (g_cnd .eq v19 0)
  (e_Reader_readMan_92 n P15 F16 A17 J18 v14 ((-1)))
  ((e_Reader_take P15 F16 A17 J18 11).bind fun (v21, P22, F23, A24, J25) =>
  cond (g_cnd .eq v21 0)
  (e_Reader_readMan_92 n P22 F23 A24 J25 v14 ((-1)))
  ((c_chk 6 (P22 37 5)).bind fun q27 =>
  (e_Reader_takeKnownName_v1 n P22 F23 A24 J25 (F23 q27 16)).bind fun (v28, P29, F30, A31, J32) =>
  (e_Reader_takeStepNumber P29 F30 A31 J32 v28).bind fun (v33, P34, F35, A36, J37) =>
  e_Reader_readMan_92 n P34 F35 A36 J37 v14 ((v28 * 6) + v33)))
set_option maxRecDepth 10000 in
theorem t_e_Reader_readMan (ht : ∀ ci k, t.1 ci k = k_ty ci k) {n : Nat} {P : Nat → Nat → Nat} {F : Nat → Nat → Int32} {A : Nat → Nat → Nat → Int32} {J : Nat → Nat → Nat → Int64}   {w : Unit × (Nat → Nat → Nat) × (Nat → Nat → Int32) × (Nat → Nat → Nat → Int32) × (Nat → Nat → Nat → Int64)} : e_Reader_readMan n P F A J = some w → k_run t lg (d + 4) 58 0 [(0, .ref (37 * 1024))] [] (c_h c B P F A J) (none, c_h c B w.2.1 w.2.2.1 w.2.2.2.1 w.2.2.2.2) := by
  intro hD
  unfold e_Reader_readMan at hD
  refine k_runB (pc' := 3) (loc' := [(0, .ref (37 * 1024))]) (st' := [.ref (37 * 1024), .int 5, .ref (37 * 1024)]) 3 rfl ?_
  obtain ⟨q1, hq1, hD⟩ := Option.bind_eq_some_iff.mp hD
  refine k_gq 37 0 (K := 11) (K2 := 6) (key := 5) rfl rfl rfl rfl rfl hq1 (fun kq1 => ?_)
  refine k_gf q1 0 (K := 6) kq1 rfl rfl rfl rfl ?_
  refine k_runB (pc' := 11) (loc' := [(0, .ref (37 * 1024))]) (st' := [.int 6, .int (F q1 17), .int 5, .ref (37 * 1024)]) 1 rfl ?_
  obtain ⟨⟨v2, P3, F4, A5, J6⟩, hv2, hD⟩ := Option.bind_eq_some_iff.mp hD
  dsimp only at hD
  refine k_runV rfl rfl rfl (c_get (r := 37) (o := 0) (K := 11) rfl (by decide)) rfl rfl (t_e_Reader_takeFirst (d := d + 1) ht hv2) ?_
  refine k_runB (pc' := 16) (loc' := [(0, .ref (37 * 1024))]) (st' := [.ref (37 * 1024), .ref (37 * 1024)]) 2 rfl ?_
  refine k_gf 37 0 (K := 11) rfl rfl rfl rfl rfl ?_
  refine k_runB (pc' := 20) (loc' := [(0, .ref (37 * 1024))]) (st' := [.ref (37 * 1024), .ref (37 * 1024 + 10), .ref (37 * 1024)]) 1 rfl ?_
  obtain ⟨q7, hq7, hD⟩ := Option.bind_eq_some_iff.mp hD
  refine k_gq 37 0 (K := 11) (K2 := 6) (key := 5) rfl rfl rfl rfl rfl hq7 (fun kq7 => ?_)
  refine k_gf q7 0 (K := 6) kq7 rfl rfl rfl rfl ?_
  obtain ⟨⟨v8, P9, F10, A11, J12⟩, hv8, hD⟩ := Option.bind_eq_some_iff.mp hD
  dsimp only at hD
  refine k_runV rfl rfl rfl (c_get (r := 37) (o := 0) (K := 11) rfl (by decide)) rfl rfl (t_e_Reader_takeNewName_v3 (d := d + 1) ht hv8) ?_
  refine k_runB (pc' := 31) (loc' := [(0, .ref (37 * 1024))]) (st' := [.ref (37 * 1024), .ref (37 * 1024)]) 2 rfl ?_
  refine k_gf 37 0 (K := 11) rfl rfl rfl rfl rfl ?_
  refine k_runB (pc' := 35) (loc' := [(0, .ref (37 * 1024))]) (st' := [.ref (37 * 1024), .ref (37 * 1024 + 7), .ref (37 * 1024)]) 1 rfl ?_
  obtain ⟨q13, hq13, hD⟩ := Option.bind_eq_some_iff.mp hD
  refine k_gq 37 0 (K := 11) (K2 := 6) (key := 5) rfl rfl rfl rfl rfl hq13 (fun kq13 => ?_)
  refine k_gf q13 0 (K := 6) kq13 rfl rfl rfl rfl ?_
  obtain ⟨⟨v14, P15, F16, A17, J18⟩, hv14, hD⟩ := Option.bind_eq_some_iff.mp hD
  dsimp only at hD
  refine k_runV rfl rfl rfl (c_get (r := 37) (o := 0) (K := 11) rfl (by decide)) rfl rfl (t_e_Reader_takeKnownName (d := d + 1) ht hv14) ?_
  refine k_runB (pc' := 50) (loc' := [(0, .ref (37 * 1024)), (1, .int v14), (2, .int ((-1)))]) (st' := [.int 11, .ref (37 * 1024)]) 5 rfl ?_
  obtain ⟨v19, hv19, hD⟩ := Option.bind_eq_some_iff.mp hD
  refine k_runV rfl rfl rfl (c_get (r := 37) (o := 0) (K := 11) rfl (by decide)) rfl rfl (t_e_Reader_isNext (d := d + 3) hv19) ?_
  refine k_if rfl (fun c53_19 => ?_) (fun c53_19 => ?_)
  · rw [c53_19, cond_true] at hD
    refine k_wk [0, 1, 2] (loc' := [(0, .ref (37 * 1024)), (1, .int v14), (2, .int ((-1)))]) rfl rfl ?_
    exact t_e_Reader_readMan_92 ht   hD
  · rw [c53_19, cond_false] at hD
    refine k_runB (pc' := 59) (loc' := [(0, .ref (37 * 1024)), (1, .int v14), (2, .int ((-1)))]) (st' := [.int 11, .ref (37 * 1024)]) 2 rfl ?_
    obtain ⟨⟨v21, P22, F23, A24, J25⟩, hv21, hD⟩ := Option.bind_eq_some_iff.mp hD
    dsimp only at hD
    refine k_runV rfl rfl rfl (c_get (r := 37) (o := 0) (K := 11) rfl (by decide)) rfl rfl (t_e_Reader_take (d := d + 2) ht hv21) ?_
    refine k_if rfl (fun c62_25 => ?_) (fun c62_25 => ?_)
    · rw [c62_25, cond_true] at hD
      refine k_wk [0, 1, 2] (loc' := [(0, .ref (37 * 1024)), (1, .int v14), (2, .int ((-1)))]) rfl rfl ?_
      exact t_e_Reader_readMan_92 ht   hD
    · rw [c62_25, cond_false] at hD
      refine k_runB (pc' := 67) (loc' := [(0, .ref (37 * 1024)), (1, .int v14), (2, .int ((-1)))]) (st' := [.ref (37 * 1024), .ref (37 * 1024)]) 2 rfl ?_
      refine k_gf 37 0 (K := 11) rfl rfl rfl rfl rfl ?_
      refine k_runB (pc' := 71) (loc' := [(0, .ref (37 * 1024)), (1, .int v14), (2, .int ((-1)))]) (st' := [.ref (37 * 1024), .ref (37 * 1024 + 9), .ref (37 * 1024)]) 1 rfl ?_
      obtain ⟨q27, hq27, hD⟩ := Option.bind_eq_some_iff.mp hD
      refine k_gq 37 0 (K := 11) (K2 := 6) (key := 5) rfl rfl rfl rfl rfl hq27 (fun kq27 => ?_)
      refine k_gf q27 0 (K := 6) kq27 rfl rfl rfl rfl ?_
      obtain ⟨⟨v28, P29, F30, A31, J32⟩, hv28, hD⟩ := Option.bind_eq_some_iff.mp hD
      dsimp only at hD
      refine k_runV rfl rfl rfl (c_get (r := 37) (o := 0) (K := 11) rfl (by decide)) rfl rfl (t_e_Reader_takeKnownName_v1 (d := d + 1) ht hv28) ?_
      refine k_runB (pc' := 87) (loc' := [(0, .ref (37 * 1024)), (1, .int v14), (2, .int ((-1))), (3, .int v28)]) (st' := [.int v28, .ref (37 * 1024), .int (v28 * 6)]) 6 rfl ?_
      obtain ⟨⟨v33, P34, F35, A36, J37⟩, hv33, hD⟩ := Option.bind_eq_some_iff.mp hD
      dsimp only at hD
      refine k_runV rfl rfl rfl (c_get (r := 37) (o := 0) (K := 11) rfl (by decide)) rfl rfl (t_e_Reader_takeStepNumber (d := d) ht hv33) ?_
      refine k_runB (pc' := 92) (loc' := [(0, .ref (37 * 1024)), (1, .int v14), (2, .int ((v28 * 6) + v33)), (3, .int v28)]) (st' := []) 2 rfl ?_
      refine k_wk [0, 1, 2] (loc' := [(0, .ref (37 * 1024)), (1, .int v14), (2, .int ((v28 * 6) + v33))]) rfl rfl ?_
      exact t_e_Reader_readMan_92 ht   hD
/-- SleepWork$Reader.takeKnownName([JI)I  -/
def e_Reader_takeKnownName_v3 (n : Nat) (P : Nat → Nat → Nat) (F : Nat → Nat → Int32) (A : Nat → Nat → Nat → Int32) (J : Nat → Nat → Nat → Int64) (x2 : Int32) : Option (Int32 × (Nat → Nat → Nat) × (Nat → Nat → Int32) × (Nat → Nat → Nat → Int32) × (Nat → Nat → Nat → Int64)) :=
  (e_Reader_take P F A J 100).bind fun (v1, P2, F3, A4, J5) =>
  cond (g_cnd .ne v1 0)
  ((m_ldJ (J5 37 5) 401 (F3 37 8)).bind fun v7 =>
  (e_Reader_find_v3 n P2 F3 A4 J5 v7 x2).bind fun v8 =>
  cond (g_cnd .ge v8 0)
  (some (v8, P2, F3, A4, J5))
  ((e_Reader_failLate P2 F3 A4 J5 4).bind fun (_, P11, F12, A13, J14) =>
  some (v8, P11, F12, A13, J14)))
  (some ((-1), P2, F3, A4, J5))
set_option maxRecDepth 10000 in
theorem t_e_Reader_takeKnownName_v3 (ht : ∀ ci k, t.1 ci k = k_ty ci k) {n : Nat} {P : Nat → Nat → Nat} {F : Nat → Nat → Int32} {A : Nat → Nat → Nat → Int32} {J : Nat → Nat → Nat → Int64} {x2 : Int32}  {w : Int32 × (Nat → Nat → Nat) × (Nat → Nat → Int32) × (Nat → Nat → Nat → Int32) × (Nat → Nat → Nat → Int64)} : e_Reader_takeKnownName_v3 n P F A J x2 = some w → k_run t lg (d + 2) 48 0 [(0, .ref (37 * 1024)), (1, .ref (37 * 1024 + 10)), (2, .int x2)] [] (c_h c B P F A J) (some (.int w.1), c_h c B w.2.1 w.2.2.1 w.2.2.2.1 w.2.2.2.2) := by
  intro hD
  unfold e_Reader_takeKnownName_v3 at hD
  refine k_runB (pc' := 3) (loc' := [(0, .ref (37 * 1024)), (1, .ref (37 * 1024 + 10)), (2, .int x2)]) (st' := [.int 100, .ref (37 * 1024)]) 2 rfl ?_
  obtain ⟨⟨v1, P2, F3, A4, J5⟩, hv1, hD⟩ := Option.bind_eq_some_iff.mp hD
  dsimp only at hD
  refine k_runV rfl rfl rfl (c_get (r := 37) (o := 0) (K := 11) rfl (by decide)) rfl rfl (t_e_Reader_take (d := d) ht hv1) ?_
  refine k_if rfl (fun c6_5 => ?_) (fun c6_5 => ?_)
  · rw [c6_5, cond_true] at hD
    refine k_runB (pc' := 12) (loc' := [(0, .ref (37 * 1024)), (1, .ref (37 * 1024 + 10)), (2, .int x2)]) (st' := [.ref (37 * 1024)]) 1 rfl ?_
    refine k_gf 37 0 (K := 11) rfl rfl rfl rfl rfl ?_
    refine k_gf 37 1 (K := 11) rfl rfl rfl rfl rfl ?_
    refine k_runB (pc' := 19) (loc' := [(0, .ref (37 * 1024)), (1, .ref (37 * 1024 + 10)), (2, .int x2)]) (st' := [.ref (37 * 1024), .ref (37 * 1024 + 5)]) 1 rfl ?_
    refine k_gf 37 0 (K := 11) rfl rfl rfl rfl rfl ?_
    obtain ⟨v7, hv7, hD⟩ := Option.bind_eq_some_iff.mp hD
    refine k_ldL rfl (c_get (r := 37) (o := 5) (K := 11) rfl (by decide)) hv7 ?_
    refine k_runB (pc' := 25) (loc' := [(0, .ref (37 * 1024)), (1, .ref (37 * 1024 + 10)), (2, .int x2)]) (st' := [.int x2, .ref (37 * 1024 + 10), .long (v7)]) 2 rfl ?_
    obtain ⟨v8, hv8, hD⟩ := Option.bind_eq_some_iff.mp hD
    refine k_runC rfl rfl rfl rfl (t_e_Reader_find_v3 (d := d + 1) hv8) ?_
    refine k_runB (pc' := 30) (loc' := [(0, .ref (37 * 1024)), (1, .ref (37 * 1024 + 10)), (2, .int x2), (3, .int v8)]) (st' := [.int v8]) 2 rfl ?_
    refine k_if rfl (fun c30_8 => ?_) (fun c30_8 => ?_)
    · rw [c30_8, cond_true] at hD
      refine k_runB (pc' := 39) (loc' := [(0, .ref (37 * 1024)), (1, .ref (37 * 1024 + 10)), (2, .int x2), (3, .int v8)]) (st' := [.int v8]) 1 rfl ?_
      cases hD
      exact k_iret rfl rfl
    · rw [c30_8, cond_false] at hD
      refine k_runB (pc' := 35) (loc' := [(0, .ref (37 * 1024)), (1, .ref (37 * 1024 + 10)), (2, .int x2), (3, .int v8)]) (st' := [.int 4, .ref (37 * 1024)]) 2 rfl ?_
      obtain ⟨⟨v10, P11, F12, A13, J14⟩, hv10, hD⟩ := Option.bind_eq_some_iff.mp hD
      dsimp only at hD
      refine k_runV rfl rfl rfl (c_get (r := 37) (o := 0) (K := 11) rfl (by decide)) rfl rfl (t_e_Reader_failLate (d := d + 1) ht hv10) ?_
      refine k_runB (pc' := 39) (loc' := [(0, .ref (37 * 1024)), (1, .ref (37 * 1024 + 10)), (2, .int x2), (3, .int v8)]) (st' := [.int v8]) 1 rfl ?_
      cases hD
      exact k_iret rfl rfl
  · rw [c6_5, cond_false] at hD
    refine k_runB (pc' := 10) (loc' := [(0, .ref (37 * 1024)), (1, .ref (37 * 1024 + 10)), (2, .int x2)]) (st' := [.int ((-1))]) 1 rfl ?_
    cases hD
    exact k_iret rfl rfl
def e_Reader_readUnit_97 (KS : (Nat → Nat → Nat) → (Nat → Nat → Int32) → (Nat → Nat → Nat → Int32) → (Nat → Nat → Nat → Int64) → Int32 → Option (Unit × (Nat → Nat → Nat) × (Nat → Nat → Int32) × (Nat → Nat → Nat → Int32) × (Nat → Nat → Nat → Int64))) (K58 : (Nat → Nat → Nat) → (Nat → Nat → Int32) → (Nat → Nat → Nat → Int32) → (Nat → Nat → Nat → Int64) → Int32 → Option (Unit × (Nat → Nat → Nat) × (Nat → Nat → Int32) × (Nat → Nat → Nat → Int32) × (Nat → Nat → Nat → Int64))) (n : Nat) (P : Nat → Nat → Nat) (F : Nat → Nat → Int32) (A : Nat → Nat → Nat → Int32) (J : Nat → Nat → Nat → Int64) (x2 : Int32) : Option (Unit × (Nat → Nat → Nat) × (Nat → Nat → Int32) × (Nat → Nat → Nat → Int32) × (Nat → Nat → Nat → Int64)) :=
    K58 P F A J (x2 + 1)
set_option maxRecDepth 10000 in
theorem t_e_Reader_readUnit_97 (ht : ∀ ci k, t.1 ci k = k_ty ci k) {n : Nat} {KS : (Nat → Nat → Nat) → (Nat → Nat → Int32) → (Nat → Nat → Nat → Int32) → (Nat → Nat → Nat → Int64) → Int32 → Option (Unit × (Nat → Nat → Nat) × (Nat → Nat → Int32) × (Nat → Nat → Nat → Int32) × (Nat → Nat → Nat → Int64))} (hKS : ∀ (P : Nat → Nat → Nat) (F : Nat → Nat → Int32) (A : Nat → Nat → Nat → Int32) (J : Nat → Nat → Nat → Int64) (x1 : Int32) (w : Unit × (Nat → Nat → Nat) × (Nat → Nat → Int32) × (Nat → Nat → Nat → Int32) × (Nat → Nat → Nat → Int64)), KS P F A J x1 = some w → k_run t lg (d + 4) 62 0 [(0, .ref (37 * 1024)), (1, .int x1)] [] (c_h c B P F A J) (none, c_h c B w.2.1 w.2.2.1 w.2.2.2.1 w.2.2.2.2)) {K58 : (Nat → Nat → Nat) → (Nat → Nat → Int32) → (Nat → Nat → Nat → Int32) → (Nat → Nat → Nat → Int64) → Int32 → Option (Unit × (Nat → Nat → Nat) × (Nat → Nat → Int32) × (Nat → Nat → Nat → Int32) × (Nat → Nat → Nat → Int64))} (hK58 : ∀ (P : Nat → Nat → Nat) (F : Nat → Nat → Int32) (A : Nat → Nat → Nat → Int32) (J : Nat → Nat → Nat → Int64) (x2 : Int32) (w : Unit × (Nat → Nat → Nat) × (Nat → Nat → Int32) × (Nat → Nat → Nat → Int32) × (Nat → Nat → Nat → Int64)), K58 P F A J x2 = some w → k_run t lg (d + 5) 65 58 [(0, .ref (37 * 1024)), (2, .int x2)] [] (c_h c B P F A J) (none, c_h c B w.2.1 w.2.2.1 w.2.2.2.1 w.2.2.2.2)) {P : Nat → Nat → Nat} {F : Nat → Nat → Int32} {A : Nat → Nat → Nat → Int32} {J : Nat → Nat → Nat → Int64} {x2 : Int32}  {w : Unit × (Nat → Nat → Nat) × (Nat → Nat → Int32) × (Nat → Nat → Nat → Int32) × (Nat → Nat → Nat → Int64)} : e_Reader_readUnit_97 KS K58 n P F A J x2 = some w → k_run t lg (d + 5) 65 97 [(0, .ref (37 * 1024)), (2, .int x2)] [] (c_h c B P F A J) (none, c_h c B w.2.1 w.2.2.1 w.2.2.2.1 w.2.2.2.2) := by
  intro hD
  unfold e_Reader_readUnit_97 at hD
  refine k_runB (pc' := 58) (loc' := [(0, .ref (37 * 1024)), (2, .int (x2 + 1))]) (st' := []) 2 rfl ?_
  refine k_wk [0, 2] (loc' := [(0, .ref (37 * 1024)), (2, .int (x2 + 1))]) rfl rfl ?_
  exact hK58 _ _ _ _ _ _  hD
def e_Reader_readUnit_58 (KS : (Nat → Nat → Nat) → (Nat → Nat → Int32) → (Nat → Nat → Nat → Int32) → (Nat → Nat → Nat → Int64) → Int32 → Option (Unit × (Nat → Nat → Nat) × (Nat → Nat → Int32) × (Nat → Nat → Nat → Int32) × (Nat → Nat → Nat → Int64))) : Nat → (Nat → Nat → Nat) → (Nat → Nat → Int32) → (Nat → Nat → Nat → Int32) → (Nat → Nat → Nat → Int64) → Int32 → Option (Unit × (Nat → Nat → Nat) × (Nat → Nat → Int32) × (Nat → Nat → Nat → Int32) × (Nat → Nat → Nat → Int64))
  | 0, _, _, _, _, _ => none
  | n + 1, P, F, A, J, x2 => cond (g_cnd .gt x2 20)
    ((e_Reader_take P F A J 101).bind fun (v26, P27, F28, A29, J30) =>
    cond (g_cnd .eq v26 0)
    (some ((), P27, F28, A29, J30))
    ((c_chk 6 (P27 37 5)).bind fun q32 =>
    (m_ld (A29 37 4) 401 (F28 37 8)).bind fun v33 =>
    (e_Laws_add P27 F28 A29 J30 q32 1 v33).bind fun (v34, P35, F36, A37, J38) =>
    some ((), P35, F36, A37, J38)))
    ((e_Reader_isNext P F A J x2).bind fun v39 =>
    cond (g_cnd .eq v39 0)
    (e_Reader_readUnit_97 KS (e_Reader_readUnit_58 KS n) n P F A J x2)
    ((e_Reader_take P F A J x2).bind fun (v41, P42, F43, A44, J45) =>
    cond (g_cnd .eq v41 0)
    (e_Reader_readUnit_97 KS (e_Reader_readUnit_58 KS n) n P42 F43 A44 J45 x2)
    ((c_chk 6 (P42 37 5)).bind fun q47 =>
    (e_Laws_add P42 F43 A44 J45 q47 2 (x2 - 15)).bind fun (v48, P49, F50, A51, J52) =>
    some ((), P49, F50, A51, J52))))
set_option maxRecDepth 10000 in
theorem t_e_Reader_readUnit_58 (ht : ∀ ci k, t.1 ci k = k_ty ci k) {n : Nat} {KS : (Nat → Nat → Nat) → (Nat → Nat → Int32) → (Nat → Nat → Nat → Int32) → (Nat → Nat → Nat → Int64) → Int32 → Option (Unit × (Nat → Nat → Nat) × (Nat → Nat → Int32) × (Nat → Nat → Nat → Int32) × (Nat → Nat → Nat → Int64))} (hKS : ∀ (P : Nat → Nat → Nat) (F : Nat → Nat → Int32) (A : Nat → Nat → Nat → Int32) (J : Nat → Nat → Nat → Int64) (x1 : Int32) (w : Unit × (Nat → Nat → Nat) × (Nat → Nat → Int32) × (Nat → Nat → Nat → Int32) × (Nat → Nat → Nat → Int64)), KS P F A J x1 = some w → k_run t lg (d + 4) 62 0 [(0, .ref (37 * 1024)), (1, .int x1)] [] (c_h c B P F A J) (none, c_h c B w.2.1 w.2.2.1 w.2.2.2.1 w.2.2.2.2))  {P : Nat → Nat → Nat} {F : Nat → Nat → Int32} {A : Nat → Nat → Nat → Int32} {J : Nat → Nat → Nat → Int64} {x2 : Int32}  {w : Unit × (Nat → Nat → Nat) × (Nat → Nat → Int32) × (Nat → Nat → Nat → Int32) × (Nat → Nat → Nat → Int64)} : e_Reader_readUnit_58 KS n P F A J x2 = some w → k_run t lg (d + 5) 65 58 [(0, .ref (37 * 1024)), (2, .int x2)] [] (c_h c B P F A J) (none, c_h c B w.2.1 w.2.2.1 w.2.2.2.1 w.2.2.2.2) := by
  induction n generalizing P F A J x2 w with
  | zero => intro hD; cases hD
  | succ n ih =>
    intro hD
    have hK58 : ∀ (P : Nat → Nat → Nat) (F : Nat → Nat → Int32) (A : Nat → Nat → Nat → Int32) (J : Nat → Nat → Nat → Int64) (x2 : Int32) (w : Unit × (Nat → Nat → Nat) × (Nat → Nat → Int32) × (Nat → Nat → Nat → Int32) × (Nat → Nat → Nat → Int64)), e_Reader_readUnit_58 KS n P F A J x2 = some w → k_run t lg (d + 5) 65 58 [(0, .ref (37 * 1024)), (2, .int x2)] [] (c_h c B P F A J) (none, c_h c B w.2.1 w.2.2.1 w.2.2.2.1 w.2.2.2.2) := fun _ _ _ _ _ _  h => ih  h
    unfold e_Reader_readUnit_58 at hD
    refine k_runB (pc' := 61) (loc' := [(0, .ref (37 * 1024)), (2, .int x2)]) (st' := [.int 20, .int x2]) 2 rfl ?_
    refine k_ic rfl (fun c61_24 => ?_) (fun c61_24 => ?_)
    · rw [c61_24, cond_true] at hD
      refine k_runB (pc' := 106) (loc' := [(0, .ref (37 * 1024)), (2, .int x2)]) (st' := [.int 101, .ref (37 * 1024)]) 2 rfl ?_
      obtain ⟨⟨v26, P27, F28, A29, J30⟩, hv26, hD⟩ := Option.bind_eq_some_iff.mp hD
      dsimp only at hD
      refine k_runV rfl rfl rfl (c_get (r := 37) (o := 0) (K := 11) rfl (by decide)) rfl rfl (t_e_Reader_take (d := d + 3) ht hv26) ?_
      refine k_if rfl (fun c109_30 => ?_) (fun c109_30 => ?_)
      · rw [c109_30, cond_true] at hD
        cases hD
        exact k_vret rfl rfl
      · rw [c109_30, cond_false] at hD
        refine k_runB (pc' := 113) (loc' := [(0, .ref (37 * 1024)), (2, .int x2)]) (st' := [.ref (37 * 1024)]) 1 rfl ?_
        obtain ⟨q32, hq32, hD⟩ := Option.bind_eq_some_iff.mp hD
        refine k_gq 37 0 (K := 11) (K2 := 6) (key := 5) rfl rfl rfl rfl rfl hq32 (fun kq32 => ?_)
        refine k_gf q32 0 (K := 6) kq32 rfl rfl rfl rfl ?_
        refine k_runB (pc' := 121) (loc' := [(0, .ref (37 * 1024)), (2, .int x2)]) (st' := [.ref (37 * 1024), .int 1, .ref (q32 * 1024 + 13)]) 2 rfl ?_
        refine k_gf 37 0 (K := 11) rfl rfl rfl rfl rfl ?_
        refine k_gf 37 1 (K := 11) rfl rfl rfl rfl rfl ?_
        refine k_runB (pc' := 128) (loc' := [(0, .ref (37 * 1024)), (2, .int x2)]) (st' := [.ref (37 * 1024), .ref (37 * 1024 + 4), .int 1, .ref (q32 * 1024 + 13)]) 1 rfl ?_
        refine k_gf 37 0 (K := 11) rfl rfl rfl rfl rfl ?_
        obtain ⟨v33, hv33, hD⟩ := Option.bind_eq_some_iff.mp hD
        refine k_ldI rfl (c_get (r := 37) (o := 4) (K := 11) rfl (by decide)) hv33 ?_
        obtain ⟨⟨v34, P35, F36, A37, J38⟩, hv34, hD⟩ := Option.bind_eq_some_iff.mp hD
        dsimp only at hD
        refine k_runV rfl rfl rfl (c_get (r := q32) (o := 13) (K := 6) kq32 (by decide)) rfl rfl (t_e_Laws_add (d := d + 4) ht kq32 hv34) ?_
        refine k_runB (pc' := 136) (loc' := [(0, .ref (37 * 1024)), (2, .int x2)]) (st' := []) 1 rfl ?_
        cases hD
        exact k_vret rfl rfl
    · rw [c61_24, cond_false] at hD
      refine k_runB (pc' := 66) (loc' := [(0, .ref (37 * 1024)), (2, .int x2)]) (st' := [.int x2, .ref (37 * 1024)]) 2 rfl ?_
      obtain ⟨v39, hv39, hD⟩ := Option.bind_eq_some_iff.mp hD
      refine k_runV rfl rfl rfl (c_get (r := 37) (o := 0) (K := 11) rfl (by decide)) rfl rfl (t_e_Reader_isNext (d := d + 4) hv39) ?_
      refine k_if rfl (fun c69_39 => ?_) (fun c69_39 => ?_)
      · rw [c69_39, cond_true] at hD
        refine k_wk [0, 2] (loc' := [(0, .ref (37 * 1024)), (2, .int x2)]) rfl rfl ?_
        exact t_e_Reader_readUnit_97 ht hKS hK58  hD
      · rw [c69_39, cond_false] at hD
        refine k_runB (pc' := 74) (loc' := [(0, .ref (37 * 1024)), (2, .int x2)]) (st' := [.int x2, .ref (37 * 1024)]) 2 rfl ?_
        obtain ⟨⟨v41, P42, F43, A44, J45⟩, hv41, hD⟩ := Option.bind_eq_some_iff.mp hD
        dsimp only at hD
        refine k_runV rfl rfl rfl (c_get (r := 37) (o := 0) (K := 11) rfl (by decide)) rfl rfl (t_e_Reader_take (d := d + 3) ht hv41) ?_
        refine k_if rfl (fun c77_45 => ?_) (fun c77_45 => ?_)
        · rw [c77_45, cond_true] at hD
          refine k_wk [0, 2] (loc' := [(0, .ref (37 * 1024)), (2, .int x2)]) rfl rfl ?_
          exact t_e_Reader_readUnit_97 ht hKS hK58  hD
        · rw [c77_45, cond_false] at hD
          refine k_runB (pc' := 81) (loc' := [(0, .ref (37 * 1024)), (2, .int x2)]) (st' := [.ref (37 * 1024)]) 1 rfl ?_
          obtain ⟨q47, hq47, hD⟩ := Option.bind_eq_some_iff.mp hD
          refine k_gq 37 0 (K := 11) (K2 := 6) (key := 5) rfl rfl rfl rfl rfl hq47 (fun kq47 => ?_)
          refine k_gf q47 0 (K := 6) kq47 rfl rfl rfl rfl ?_
          refine k_runB (pc' := 92) (loc' := [(0, .ref (37 * 1024)), (2, .int x2)]) (st' := [.int (x2 - 15), .int 2, .ref (q47 * 1024 + 13)]) 4 rfl ?_
          obtain ⟨⟨v48, P49, F50, A51, J52⟩, hv48, hD⟩ := Option.bind_eq_some_iff.mp hD
          dsimp only at hD
          refine k_runV rfl rfl rfl (c_get (r := q47) (o := 13) (K := 6) kq47 (by decide)) rfl rfl (t_e_Laws_add (d := d + 4) ht kq47 hv48) ?_
          refine k_runB (pc' := 96) (loc' := [(0, .ref (37 * 1024)), (2, .int x2)]) (st' := []) 1 rfl ?_
          cases hD
          exact k_vret rfl rfl
/-- SleepWork$Reader.readUnit(I)V  -/
def e_Reader_readUnit (KS : (Nat → Nat → Nat) → (Nat → Nat → Int32) → (Nat → Nat → Nat → Int32) → (Nat → Nat → Nat → Int64) → Int32 → Option (Unit × (Nat → Nat → Nat) × (Nat → Nat → Int32) × (Nat → Nat → Nat → Int32) × (Nat → Nat → Nat → Int64))) (n : Nat) (P : Nat → Nat → Nat) (F : Nat → Nat → Int32) (A : Nat → Nat → Nat → Int32) (J : Nat → Nat → Nat → Int64) (x1 : Int32) : Option (Unit × (Nat → Nat → Nat) × (Nat → Nat → Int32) × (Nat → Nat → Nat → Int32) × (Nat → Nat → Nat → Int64)) :=
  (e_Reader_isNext P F A J 40).bind fun v1 =>
  cond (g_cnd .eq v1 0)
  (e_Reader_readUnit_58 KS n P F A J 15)
  (cond (g_cnd .lt x1 6)
  ((e_Reader_take P F A J 40).bind fun (v4, P5, F6, A7, J8) =>
  (KS P5 F6 A7 J8 (x1 + 1)).bind fun (_, P10, F11, A12, J13) =>
  (e_Reader_take P10 F11 A12 J13 41).bind fun (v14, P15, F16, A17, J18) =>
  some ((), P15, F16, A17, J18))
  ((m_ld (A 37 3) 401 (F 37 7)).bind fun v19 =>
  (e_Reader_fail P F A J 2 v19).bind fun (_, P21, F22, A23, J24) =>
  some ((), P21, F22, A23, J24)))
set_option maxRecDepth 10000 in
theorem t_e_Reader_readUnit (ht : ∀ ci k, t.1 ci k = k_ty ci k) {n : Nat} {KS : (Nat → Nat → Nat) → (Nat → Nat → Int32) → (Nat → Nat → Nat → Int32) → (Nat → Nat → Nat → Int64) → Int32 → Option (Unit × (Nat → Nat → Nat) × (Nat → Nat → Int32) × (Nat → Nat → Nat → Int32) × (Nat → Nat → Nat → Int64))} (hKS : ∀ (P : Nat → Nat → Nat) (F : Nat → Nat → Int32) (A : Nat → Nat → Nat → Int32) (J : Nat → Nat → Nat → Int64) (x1 : Int32) (w : Unit × (Nat → Nat → Nat) × (Nat → Nat → Int32) × (Nat → Nat → Nat → Int32) × (Nat → Nat → Nat → Int64)), KS P F A J x1 = some w → k_run t lg (d + 4) 62 0 [(0, .ref (37 * 1024)), (1, .int x1)] [] (c_h c B P F A J) (none, c_h c B w.2.1 w.2.2.1 w.2.2.2.1 w.2.2.2.2)) {P : Nat → Nat → Nat} {F : Nat → Nat → Int32} {A : Nat → Nat → Nat → Int32} {J : Nat → Nat → Nat → Int64} {x1 : Int32}  {w : Unit × (Nat → Nat → Nat) × (Nat → Nat → Int32) × (Nat → Nat → Nat → Int32) × (Nat → Nat → Nat → Int64)} : e_Reader_readUnit KS n P F A J x1 = some w → k_run t lg (d + 5) 65 0 [(0, .ref (37 * 1024)), (1, .int x1)] [] (c_h c B P F A J) (none, c_h c B w.2.1 w.2.2.1 w.2.2.2.1 w.2.2.2.2) := by
  intro hD
  unfold e_Reader_readUnit at hD
  refine k_runB (pc' := 3) (loc' := [(0, .ref (37 * 1024)), (1, .int x1)]) (st' := [.int 40, .ref (37 * 1024)]) 2 rfl ?_
  obtain ⟨v1, hv1, hD⟩ := Option.bind_eq_some_iff.mp hD
  refine k_runV rfl rfl rfl (c_get (r := 37) (o := 0) (K := 11) rfl (by decide)) rfl rfl (t_e_Reader_isNext (d := d + 4) hv1) ?_
  refine k_if rfl (fun c6_1 => ?_) (fun c6_1 => ?_)
  · rw [c6_1, cond_true] at hD
    refine k_runB (pc' := 58) (loc' := [(0, .ref (37 * 1024)), (1, .int x1), (2, .int 15)]) (st' := []) 2 rfl ?_
    refine k_wk [0, 2] (loc' := [(0, .ref (37 * 1024)), (2, .int 15)]) rfl rfl ?_
    exact t_e_Reader_readUnit_58 ht hKS   hD
  · rw [c6_1, cond_false] at hD
    refine k_runB (pc' := 12) (loc' := [(0, .ref (37 * 1024)), (1, .int x1)]) (st' := [.int 6, .int x1]) 2 rfl ?_
    refine k_ic rfl (fun c12_2 => ?_) (fun c12_2 => ?_)
    · rw [c12_2, cond_true] at hD
      refine k_runB (pc' := 36) (loc' := [(0, .ref (37 * 1024)), (1, .int x1)]) (st' := [.int 40, .ref (37 * 1024)]) 2 rfl ?_
      obtain ⟨⟨v4, P5, F6, A7, J8⟩, hv4, hD⟩ := Option.bind_eq_some_iff.mp hD
      dsimp only at hD
      refine k_runV rfl rfl rfl (c_get (r := 37) (o := 0) (K := 11) rfl (by decide)) rfl rfl (t_e_Reader_take (d := d + 3) ht hv4) ?_
      refine k_runB (pc' := 44) (loc' := [(0, .ref (37 * 1024)), (1, .int x1)]) (st' := [.int (x1 + 1), .ref (37 * 1024)]) 5 rfl ?_
      obtain ⟨⟨v9, P10, F11, A12, J13⟩, hv9, hD⟩ := Option.bind_eq_some_iff.mp hD
      dsimp only at hD
      refine k_runV rfl rfl rfl (c_get (r := 37) (o := 0) (K := 11) rfl (by decide)) rfl rfl (hKS _ _ _ _ _ _ hv9) ?_
      refine k_runB (pc' := 50) (loc' := [(0, .ref (37 * 1024)), (1, .int x1)]) (st' := [.int 41, .ref (37 * 1024)]) 2 rfl ?_
      obtain ⟨⟨v14, P15, F16, A17, J18⟩, hv14, hD⟩ := Option.bind_eq_some_iff.mp hD
      dsimp only at hD
      refine k_runV rfl rfl rfl (c_get (r := 37) (o := 0) (K := 11) rfl (by decide)) rfl rfl (t_e_Reader_take (d := d + 3) ht hv14) ?_
      refine k_runB (pc' := 54) (loc' := [(0, .ref (37 * 1024)), (1, .int x1)]) (st' := []) 1 rfl ?_
      cases hD
      exact k_vret rfl rfl
    · rw [c12_2, cond_false] at hD
      refine k_runB (pc' := 18) (loc' := [(0, .ref (37 * 1024)), (1, .int x1)]) (st' := [.ref (37 * 1024), .int 2, .ref (37 * 1024)]) 3 rfl ?_
      refine k_gf 37 0 (K := 11) rfl rfl rfl rfl rfl ?_
      refine k_gf 37 1 (K := 11) rfl rfl rfl rfl rfl ?_
      refine k_runB (pc' := 25) (loc' := [(0, .ref (37 * 1024)), (1, .int x1)]) (st' := [.ref (37 * 1024), .ref (37 * 1024 + 3), .int 2, .ref (37 * 1024)]) 1 rfl ?_
      refine k_gf 37 0 (K := 11) rfl rfl rfl rfl rfl ?_
      obtain ⟨v19, hv19, hD⟩ := Option.bind_eq_some_iff.mp hD
      refine k_ldI rfl (c_get (r := 37) (o := 3) (K := 11) rfl (by decide)) hv19 ?_
      obtain ⟨⟨v20, P21, F22, A23, J24⟩, hv20, hD⟩ := Option.bind_eq_some_iff.mp hD
      dsimp only at hD
      refine k_runV rfl rfl rfl (c_get (r := 37) (o := 0) (K := 11) rfl (by decide)) rfl rfl (t_e_Reader_fail (d := d + 4) ht hv20) ?_
      cases hD
      exact k_vret rfl rfl
/-- SleepWork$Reader.addSign(I)V  -/
def e_Reader_addSign (P : Nat → Nat → Nat) (F : Nat → Nat → Int32) (A : Nat → Nat → Nat → Int32) (J : Nat → Nat → Nat → Int64) (x1 : Int32) : Option (Unit × (Nat → Nat → Nat) × (Nat → Nat → Int32) × (Nat → Nat → Nat → Int32) × (Nat → Nat → Nat → Int64)) :=
  cond (g_cnd .eq x1 0)
  (some ((), P, F, A, J))
  ((c_chk 6 (P 37 5)).bind fun q2 =>
  (e_Laws_add P F A J q2 x1 0).bind fun (v3, P4, F5, A6, J7) =>
  some ((), P4, F5, A6, J7))
set_option maxRecDepth 10000 in
theorem t_e_Reader_addSign (ht : ∀ ci k, t.1 ci k = k_ty ci k) {P : Nat → Nat → Nat} {F : Nat → Nat → Int32} {A : Nat → Nat → Nat → Int32} {J : Nat → Nat → Nat → Int64} {x1 : Int32}  {w : Unit × (Nat → Nat → Nat) × (Nat → Nat → Int32) × (Nat → Nat → Nat → Int32) × (Nat → Nat → Nat → Int64)} : e_Reader_addSign P F A J x1 = some w → k_run t lg (d + 1) 63 0 [(0, .ref (37 * 1024)), (1, .int x1)] [] (c_h c B P F A J) (none, c_h c B w.2.1 w.2.2.1 w.2.2.2.1 w.2.2.2.2) := by
  intro hD
  unfold e_Reader_addSign at hD
  refine k_runB (pc' := 1) (loc' := [(0, .ref (37 * 1024)), (1, .int x1)]) (st' := [.int x1]) 1 rfl ?_
  refine k_if rfl (fun c1_0 => ?_) (fun c1_0 => ?_)
  · rw [c1_0, cond_true] at hD
    cases hD
    exact k_vret rfl rfl
  · rw [c1_0, cond_false] at hD
    refine k_runB (pc' := 5) (loc' := [(0, .ref (37 * 1024)), (1, .int x1)]) (st' := [.ref (37 * 1024)]) 1 rfl ?_
    obtain ⟨q2, hq2, hD⟩ := Option.bind_eq_some_iff.mp hD
    refine k_gq 37 0 (K := 11) (K2 := 6) (key := 5) rfl rfl rfl rfl rfl hq2 (fun kq2 => ?_)
    refine k_gf q2 0 (K := 6) kq2 rfl rfl rfl rfl ?_
    refine k_runB (pc' := 13) (loc' := [(0, .ref (37 * 1024)), (1, .int x1)]) (st' := [.int 0, .int x1, .ref (q2 * 1024 + 13)]) 2 rfl ?_
    obtain ⟨⟨v3, P4, F5, A6, J7⟩, hv3, hD⟩ := Option.bind_eq_some_iff.mp hD
    dsimp only at hD
    refine k_runV rfl rfl rfl (c_get (r := q2) (o := 13) (K := 6) kq2 (by decide)) rfl rfl (t_e_Laws_add (d := d) ht kq2 hv3) ?_
    refine k_runB (pc' := 17) (loc' := [(0, .ref (37 * 1024)), (1, .int x1)]) (st' := []) 1 rfl ?_
    cases hD
    exact k_vret rfl rfl
def e_Reader_takeEither_18 (P : Nat → Nat → Nat) (F : Nat → Nat → Int32) (A : Nat → Nat → Nat → Int32) (J : Nat → Nat → Nat → Int64) (x2 : Int32) : Option (Int32 × (Nat → Nat → Nat) × (Nat → Nat → Int32) × (Nat → Nat → Nat → Int32) × (Nat → Nat → Nat → Int64)) :=
    (e_Reader_isNext P F A J x2).bind fun v9 =>
    cond (g_cnd .eq v9 0)
    (some (0, P, F, A, J))
    ((e_Reader_take P F A J x2).bind fun (v11, P12, F13, A14, J15) =>
    cond (g_cnd .eq v11 0)
    (some (0, P12, F13, A14, J15))
    (some (x2, P12, F13, A14, J15)))
set_option maxRecDepth 10000 in
theorem t_e_Reader_takeEither_18 (ht : ∀ ci k, t.1 ci k = k_ty ci k)  {P : Nat → Nat → Nat} {F : Nat → Nat → Int32} {A : Nat → Nat → Nat → Int32} {J : Nat → Nat → Nat → Int64} {x2 : Int32}  {w : Int32 × (Nat → Nat → Nat) × (Nat → Nat → Int32) × (Nat → Nat → Nat → Int32) × (Nat → Nat → Nat → Int64)} : e_Reader_takeEither_18 P F A J x2 = some w → k_run t lg (d + 2) 64 18 [(0, .ref (37 * 1024)), (2, .int x2)] [] (c_h c B P F A J) (some (.int w.1), c_h c B w.2.1 w.2.2.1 w.2.2.2.1 w.2.2.2.2) := by
  intro hD
  unfold e_Reader_takeEither_18 at hD
  refine k_runB (pc' := 20) (loc' := [(0, .ref (37 * 1024)), (2, .int x2)]) (st' := [.int x2, .ref (37 * 1024)]) 2 rfl ?_
  obtain ⟨v9, hv9, hD⟩ := Option.bind_eq_some_iff.mp hD
  refine k_runV rfl rfl rfl (c_get (r := 37) (o := 0) (K := 11) rfl (by decide)) rfl rfl (t_e_Reader_isNext (d := d + 1) hv9) ?_
  refine k_if rfl (fun c23_9 => ?_) (fun c23_9 => ?_)
  · rw [c23_9, cond_true] at hD
    refine k_runB (pc' := 39) (loc' := [(0, .ref (37 * 1024)), (2, .int x2)]) (st' := [.int 0]) 1 rfl ?_
    cases hD
    exact k_iret rfl rfl
  · rw [c23_9, cond_false] at hD
    refine k_runB (pc' := 28) (loc' := [(0, .ref (37 * 1024)), (2, .int x2)]) (st' := [.int x2, .ref (37 * 1024)]) 2 rfl ?_
    obtain ⟨⟨v11, P12, F13, A14, J15⟩, hv11, hD⟩ := Option.bind_eq_some_iff.mp hD
    dsimp only at hD
    refine k_runV rfl rfl rfl (c_get (r := 37) (o := 0) (K := 11) rfl (by decide)) rfl rfl (t_e_Reader_take (d := d) ht hv11) ?_
    refine k_if rfl (fun c31_15 => ?_) (fun c31_15 => ?_)
    · rw [c31_15, cond_true] at hD
      refine k_runB (pc' := 39) (loc' := [(0, .ref (37 * 1024)), (2, .int x2)]) (st' := [.int 0]) 1 rfl ?_
      cases hD
      exact k_iret rfl rfl
    · rw [c31_15, cond_false] at hD
      refine k_runB (pc' := 39) (loc' := [(0, .ref (37 * 1024)), (2, .int x2)]) (st' := [.int x2]) 2 rfl ?_
      cases hD
      exact k_iret rfl rfl
/-- SleepWork$Reader.takeEither(II)I  -/
def e_Reader_takeEither (P : Nat → Nat → Nat) (F : Nat → Nat → Int32) (A : Nat → Nat → Nat → Int32) (J : Nat → Nat → Nat → Int64) (x1 : Int32) (x2 : Int32) : Option (Int32 × (Nat → Nat → Nat) × (Nat → Nat → Int32) × (Nat → Nat → Nat → Int32) × (Nat → Nat → Nat → Int64)) :=
  (e_Reader_isNext P F A J x1).bind fun v1 =>
  cond (g_cnd .eq v1 0)
  (e_Reader_takeEither_18 P F A J x2)
  ((e_Reader_take P F A J x1).bind fun (v3, P4, F5, A6, J7) =>
  cond (g_cnd .eq v3 0)
  (e_Reader_takeEither_18 P4 F5 A6 J7 x2)
  (some (x1, P4, F5, A6, J7)))
set_option maxRecDepth 10000 in
theorem t_e_Reader_takeEither (ht : ∀ ci k, t.1 ci k = k_ty ci k) {P : Nat → Nat → Nat} {F : Nat → Nat → Int32} {A : Nat → Nat → Nat → Int32} {J : Nat → Nat → Nat → Int64} {x1 : Int32} {x2 : Int32}  {w : Int32 × (Nat → Nat → Nat) × (Nat → Nat → Int32) × (Nat → Nat → Nat → Int32) × (Nat → Nat → Nat → Int64)} : e_Reader_takeEither P F A J x1 x2 = some w → k_run t lg (d + 2) 64 0 [(0, .ref (37 * 1024)), (1, .int x1), (2, .int x2)] [] (c_h c B P F A J) (some (.int w.1), c_h c B w.2.1 w.2.2.1 w.2.2.2.1 w.2.2.2.2) := by
  intro hD
  unfold e_Reader_takeEither at hD
  refine k_runB (pc' := 2) (loc' := [(0, .ref (37 * 1024)), (1, .int x1), (2, .int x2)]) (st' := [.int x1, .ref (37 * 1024)]) 2 rfl ?_
  obtain ⟨v1, hv1, hD⟩ := Option.bind_eq_some_iff.mp hD
  refine k_runV rfl rfl rfl (c_get (r := 37) (o := 0) (K := 11) rfl (by decide)) rfl rfl (t_e_Reader_isNext (d := d + 1) hv1) ?_
  refine k_if rfl (fun c5_1 => ?_) (fun c5_1 => ?_)
  · rw [c5_1, cond_true] at hD
    refine k_wk [0, 2] (loc' := [(0, .ref (37 * 1024)), (2, .int x2)]) rfl rfl ?_
    exact t_e_Reader_takeEither_18 ht   hD
  · rw [c5_1, cond_false] at hD
    refine k_runB (pc' := 10) (loc' := [(0, .ref (37 * 1024)), (1, .int x1), (2, .int x2)]) (st' := [.int x1, .ref (37 * 1024)]) 2 rfl ?_
    obtain ⟨⟨v3, P4, F5, A6, J7⟩, hv3, hD⟩ := Option.bind_eq_some_iff.mp hD
    dsimp only at hD
    refine k_runV rfl rfl rfl (c_get (r := 37) (o := 0) (K := 11) rfl (by decide)) rfl rfl (t_e_Reader_take (d := d) ht hv3) ?_
    refine k_if rfl (fun c13_7 => ?_) (fun c13_7 => ?_)
    · rw [c13_7, cond_true] at hD
      refine k_wk [0, 2] (loc' := [(0, .ref (37 * 1024)), (2, .int x2)]) rfl rfl ?_
      exact t_e_Reader_takeEither_18 ht   hD
    · rw [c13_7, cond_false] at hD
      refine k_runB (pc' := 17) (loc' := [(0, .ref (37 * 1024)), (1, .int x1), (2, .int x2)]) (st' := [.int x1]) 1 rfl ?_
      cases hD
      exact k_iret rfl rfl
def e_Reader_readSum_71 (KS : (Nat → Nat → Nat) → (Nat → Nat → Int32) → (Nat → Nat → Nat → Int32) → (Nat → Nat → Nat → Int64) → Int32 → Option (Unit × (Nat → Nat → Nat) × (Nat → Nat → Int32) × (Nat → Nat → Nat → Int32) × (Nat → Nat → Nat → Int64))) (K10 : (Nat → Nat → Nat) → (Nat → Nat → Int32) → (Nat → Nat → Nat → Int32) → (Nat → Nat → Nat → Int64) → Int32 → Int32 → Int32 → Int32 → Int32 → Option (Unit × (Nat → Nat → Nat) × (Nat → Nat → Int32) × (Nat → Nat → Nat → Int32) × (Nat → Nat → Nat → Int64))) (n : Nat) (P : Nat → Nat → Nat) (F : Nat → Nat → Int32) (A : Nat → Nat → Nat → Int32) (J : Nat → Nat → Nat → Int64) (x1 : Int32) (x2 : Int32) (x3 : Int32) (x4 : Int32) (x5 : Int32) : Option (Unit × (Nat → Nat → Nat) × (Nat → Nat → Int32) × (Nat → Nat → Nat → Int32) × (Nat → Nat → Nat → Int64)) :=
    K10 P F A J x1 x2 x3 x4 (x5 + 1)
set_option maxRecDepth 10000 in
theorem t_e_Reader_readSum_71 (ht : ∀ ci k, t.1 ci k = k_ty ci k) {n : Nat} {KS : (Nat → Nat → Nat) → (Nat → Nat → Int32) → (Nat → Nat → Nat → Int32) → (Nat → Nat → Nat → Int64) → Int32 → Option (Unit × (Nat → Nat → Nat) × (Nat → Nat → Int32) × (Nat → Nat → Nat → Int32) × (Nat → Nat → Nat → Int64))} (hKS : ∀ (P : Nat → Nat → Nat) (F : Nat → Nat → Int32) (A : Nat → Nat → Nat → Int32) (J : Nat → Nat → Nat → Int64) (x1 : Int32) (w : Unit × (Nat → Nat → Nat) × (Nat → Nat → Int32) × (Nat → Nat → Nat → Int32) × (Nat → Nat → Nat → Int64)), KS P F A J x1 = some w → k_run t lg (d + 4) 62 0 [(0, .ref (37 * 1024)), (1, .int x1)] [] (c_h c B P F A J) (none, c_h c B w.2.1 w.2.2.1 w.2.2.2.1 w.2.2.2.2)) {K10 : (Nat → Nat → Nat) → (Nat → Nat → Int32) → (Nat → Nat → Nat → Int32) → (Nat → Nat → Nat → Int64) → Int32 → Int32 → Int32 → Int32 → Int32 → Option (Unit × (Nat → Nat → Nat) × (Nat → Nat → Int32) × (Nat → Nat → Nat → Int32) × (Nat → Nat → Nat → Int64))} (hK10 : ∀ (P : Nat → Nat → Nat) (F : Nat → Nat → Int32) (A : Nat → Nat → Nat → Int32) (J : Nat → Nat → Nat → Int64) (x1 : Int32) (x2 : Int32) (x3 : Int32) (x4 : Int32) (x5 : Int32) (w : Unit × (Nat → Nat → Nat) × (Nat → Nat → Int32) × (Nat → Nat → Nat → Int32) × (Nat → Nat → Nat → Int64)), K10 P F A J x1 x2 x3 x4 x5 = some w → k_run t lg (d + 6) 62 10 [(0, .ref (37 * 1024)), (1, .int x1), (2, .int x2), (3, .int x3), (4, .int x4), (5, .int x5)] [] (c_h c B P F A J) (none, c_h c B w.2.1 w.2.2.1 w.2.2.2.1 w.2.2.2.2)) {P : Nat → Nat → Nat} {F : Nat → Nat → Int32} {A : Nat → Nat → Nat → Int32} {J : Nat → Nat → Nat → Int64} {x1 : Int32} {x2 : Int32} {x3 : Int32} {x4 : Int32} {x5 : Int32}  {w : Unit × (Nat → Nat → Nat) × (Nat → Nat → Int32) × (Nat → Nat → Nat → Int32) × (Nat → Nat → Nat → Int64)} : e_Reader_readSum_71 KS K10 n P F A J x1 x2 x3 x4 x5 = some w → k_run t lg (d + 6) 62 71 [(0, .ref (37 * 1024)), (1, .int x1), (2, .int x2), (3, .int x3), (4, .int x4), (5, .int x5)] [] (c_h c B P F A J) (none, c_h c B w.2.1 w.2.2.1 w.2.2.2.1 w.2.2.2.2) := by
  intro hD
  unfold e_Reader_readSum_71 at hD
  refine k_runB (pc' := 10) (loc' := [(0, .ref (37 * 1024)), (1, .int x1), (2, .int x2), (3, .int x3), (4, .int x4), (5, .int (x5 + 1))]) (st' := []) 2 rfl ?_
  refine k_wk [0, 1, 2, 3, 4, 5] (loc' := [(0, .ref (37 * 1024)), (1, .int x1), (2, .int x2), (3, .int x3), (4, .int x4), (5, .int (x5 + 1))]) rfl rfl ?_
  exact hK10 _ _ _ _ _ _ _ _ _ _  hD
def e_Reader_readSum_69 (KS : (Nat → Nat → Nat) → (Nat → Nat → Int32) → (Nat → Nat → Nat → Int32) → (Nat → Nat → Nat → Int64) → Int32 → Option (Unit × (Nat → Nat → Nat) × (Nat → Nat → Int32) × (Nat → Nat → Nat → Int32) × (Nat → Nat → Nat → Int64))) (K10 : (Nat → Nat → Nat) → (Nat → Nat → Int32) → (Nat → Nat → Nat → Int32) → (Nat → Nat → Nat → Int64) → Int32 → Int32 → Int32 → Int32 → Int32 → Option (Unit × (Nat → Nat → Nat) × (Nat → Nat → Int32) × (Nat → Nat → Nat → Int32) × (Nat → Nat → Nat → Int64))) (n : Nat) (P : Nat → Nat → Nat) (F : Nat → Nat → Int32) (A : Nat → Nat → Nat → Int32) (J : Nat → Nat → Nat → Int64) (x1 : Int32) (x2 : Int32) (x3 : Int32) (x5 : Int32) (s0 : Int32) : Option (Unit × (Nat → Nat → Nat) × (Nat → Nat → Int32) × (Nat → Nat → Nat → Int32) × (Nat → Nat → Nat → Int64)) :=
    e_Reader_readSum_71 KS K10 n P F A J x1 x2 x3 s0 x5
set_option maxRecDepth 10000 in
theorem t_e_Reader_readSum_69 (ht : ∀ ci k, t.1 ci k = k_ty ci k) {n : Nat} {KS : (Nat → Nat → Nat) → (Nat → Nat → Int32) → (Nat → Nat → Nat → Int32) → (Nat → Nat → Nat → Int64) → Int32 → Option (Unit × (Nat → Nat → Nat) × (Nat → Nat → Int32) × (Nat → Nat → Nat → Int32) × (Nat → Nat → Nat → Int64))} (hKS : ∀ (P : Nat → Nat → Nat) (F : Nat → Nat → Int32) (A : Nat → Nat → Nat → Int32) (J : Nat → Nat → Nat → Int64) (x1 : Int32) (w : Unit × (Nat → Nat → Nat) × (Nat → Nat → Int32) × (Nat → Nat → Nat → Int32) × (Nat → Nat → Nat → Int64)), KS P F A J x1 = some w → k_run t lg (d + 4) 62 0 [(0, .ref (37 * 1024)), (1, .int x1)] [] (c_h c B P F A J) (none, c_h c B w.2.1 w.2.2.1 w.2.2.2.1 w.2.2.2.2)) {K10 : (Nat → Nat → Nat) → (Nat → Nat → Int32) → (Nat → Nat → Nat → Int32) → (Nat → Nat → Nat → Int64) → Int32 → Int32 → Int32 → Int32 → Int32 → Option (Unit × (Nat → Nat → Nat) × (Nat → Nat → Int32) × (Nat → Nat → Nat → Int32) × (Nat → Nat → Nat → Int64))} (hK10 : ∀ (P : Nat → Nat → Nat) (F : Nat → Nat → Int32) (A : Nat → Nat → Nat → Int32) (J : Nat → Nat → Nat → Int64) (x1 : Int32) (x2 : Int32) (x3 : Int32) (x4 : Int32) (x5 : Int32) (w : Unit × (Nat → Nat → Nat) × (Nat → Nat → Int32) × (Nat → Nat → Nat → Int32) × (Nat → Nat → Nat → Int64)), K10 P F A J x1 x2 x3 x4 x5 = some w → k_run t lg (d + 6) 62 10 [(0, .ref (37 * 1024)), (1, .int x1), (2, .int x2), (3, .int x3), (4, .int x4), (5, .int x5)] [] (c_h c B P F A J) (none, c_h c B w.2.1 w.2.2.1 w.2.2.2.1 w.2.2.2.2)) {P : Nat → Nat → Nat} {F : Nat → Nat → Int32} {A : Nat → Nat → Nat → Int32} {J : Nat → Nat → Nat → Int64} {x1 : Int32} {x2 : Int32} {x3 : Int32} {x5 : Int32} {s0 : Int32}  {w : Unit × (Nat → Nat → Nat) × (Nat → Nat → Int32) × (Nat → Nat → Nat → Int32) × (Nat → Nat → Nat → Int64)} : e_Reader_readSum_69 KS K10 n P F A J x1 x2 x3 x5 s0 = some w → k_run t lg (d + 6) 62 69 [(0, .ref (37 * 1024)), (1, .int x1), (2, .int x2), (3, .int x3), (5, .int x5)] [.int s0] (c_h c B P F A J) (none, c_h c B w.2.1 w.2.2.1 w.2.2.2.1 w.2.2.2.2) := by
  intro hD
  unfold e_Reader_readSum_69 at hD
  refine k_runB (pc' := 71) (loc' := [(0, .ref (37 * 1024)), (1, .int x1), (2, .int x2), (3, .int x3), (4, .int s0), (5, .int x5)]) (st' := []) 1 rfl ?_
  refine k_wk [0, 1, 2, 3, 4, 5] (loc' := [(0, .ref (37 * 1024)), (1, .int x1), (2, .int x2), (3, .int x3), (4, .int s0), (5, .int x5)]) rfl rfl ?_
  exact t_e_Reader_readSum_71 ht hKS hK10  hD
def e_Reader_readSum_10 (KS : (Nat → Nat → Nat) → (Nat → Nat → Int32) → (Nat → Nat → Nat → Int32) → (Nat → Nat → Nat → Int64) → Int32 → Option (Unit × (Nat → Nat → Nat) × (Nat → Nat → Int32) × (Nat → Nat → Nat → Int32) × (Nat → Nat → Nat → Int64))) : Nat → (Nat → Nat → Nat) → (Nat → Nat → Int32) → (Nat → Nat → Nat → Int32) → (Nat → Nat → Nat → Int64) → Int32 → Int32 → Int32 → Int32 → Int32 → Option (Unit × (Nat → Nat → Nat) × (Nat → Nat → Int32) × (Nat → Nat → Nat → Int32) × (Nat → Nat → Nat → Int64))
  | 0, _, _, _, _, _, _, _, _, _ => none
  | n + 1, P, F, A, J, x1, x2, x3, x4, x5 => cond (g_cnd .gt x5 400)
    (some ((), P, F, A, J))
    (cond (g_cnd .eq x4 0)
    (some ((), P, F, A, J))
    ((e_Reader_readUnit KS n P F A J x1).bind fun (_, P4, F5, A6, J7) =>
    (e_Reader_addSign P4 F5 A6 J7 x3).bind fun (_, P9, F10, A11, J12) =>
    (e_Reader_takeEither P9 F10 A11 J12 42 47).bind fun (v13, P14, F15, A16, J17) =>
    cond (g_cnd .ne v13 0)
    (e_Reader_readSum_71 KS (e_Reader_readSum_10 KS n) n P14 F15 A16 J17 x1 x2 v13 x4 x5)
    ((e_Reader_addSign P14 F15 A16 J17 x2).bind fun (_, P20, F21, A22, J23) =>
    (e_Reader_takeEither P20 F21 A22 J23 43 45).bind fun (v24, P25, F26, A27, J28) =>
    cond (g_cnd .eq v24 0)
    (e_Reader_readSum_69 KS (e_Reader_readSum_10 KS n) n P25 F26 A27 J28 x1 v24 v13 x5 0)
    (e_Reader_readSum_69 KS (e_Reader_readSum_10 KS n) n P25 F26 A27 J28 x1 v24 v13 x5 1))))
set_option maxRecDepth 10000 in
theorem t_e_Reader_readSum_10 (ht : ∀ ci k, t.1 ci k = k_ty ci k) {n : Nat} {KS : (Nat → Nat → Nat) → (Nat → Nat → Int32) → (Nat → Nat → Nat → Int32) → (Nat → Nat → Nat → Int64) → Int32 → Option (Unit × (Nat → Nat → Nat) × (Nat → Nat → Int32) × (Nat → Nat → Nat → Int32) × (Nat → Nat → Nat → Int64))} (hKS : ∀ (P : Nat → Nat → Nat) (F : Nat → Nat → Int32) (A : Nat → Nat → Nat → Int32) (J : Nat → Nat → Nat → Int64) (x1 : Int32) (w : Unit × (Nat → Nat → Nat) × (Nat → Nat → Int32) × (Nat → Nat → Nat → Int32) × (Nat → Nat → Nat → Int64)), KS P F A J x1 = some w → k_run t lg (d + 4) 62 0 [(0, .ref (37 * 1024)), (1, .int x1)] [] (c_h c B P F A J) (none, c_h c B w.2.1 w.2.2.1 w.2.2.2.1 w.2.2.2.2))  {P : Nat → Nat → Nat} {F : Nat → Nat → Int32} {A : Nat → Nat → Nat → Int32} {J : Nat → Nat → Nat → Int64} {x1 : Int32} {x2 : Int32} {x3 : Int32} {x4 : Int32} {x5 : Int32}  {w : Unit × (Nat → Nat → Nat) × (Nat → Nat → Int32) × (Nat → Nat → Nat → Int32) × (Nat → Nat → Nat → Int64)} : e_Reader_readSum_10 KS n P F A J x1 x2 x3 x4 x5 = some w → k_run t lg (d + 6) 62 10 [(0, .ref (37 * 1024)), (1, .int x1), (2, .int x2), (3, .int x3), (4, .int x4), (5, .int x5)] [] (c_h c B P F A J) (none, c_h c B w.2.1 w.2.2.1 w.2.2.2.1 w.2.2.2.2) := by
  induction n generalizing P F A J x1 x2 x3 x4 x5 w with
  | zero => intro hD; cases hD
  | succ n ih =>
    intro hD
    have hK10 : ∀ (P : Nat → Nat → Nat) (F : Nat → Nat → Int32) (A : Nat → Nat → Nat → Int32) (J : Nat → Nat → Nat → Int64) (x1 : Int32) (x2 : Int32) (x3 : Int32) (x4 : Int32) (x5 : Int32) (w : Unit × (Nat → Nat → Nat) × (Nat → Nat → Int32) × (Nat → Nat → Nat → Int32) × (Nat → Nat → Nat → Int64)), e_Reader_readSum_10 KS n P F A J x1 x2 x3 x4 x5 = some w → k_run t lg (d + 6) 62 10 [(0, .ref (37 * 1024)), (1, .int x1), (2, .int x2), (3, .int x3), (4, .int x4), (5, .int x5)] [] (c_h c B P F A J) (none, c_h c B w.2.1 w.2.2.1 w.2.2.2.1 w.2.2.2.2) := fun _ _ _ _ _ _ _ _ _ _  h => ih  h
    unfold e_Reader_readSum_10 at hD
    refine k_runB (pc' := 15) (loc' := [(0, .ref (37 * 1024)), (1, .int x1), (2, .int x2), (3, .int x3), (4, .int x4), (5, .int x5)]) (st' := [.int 400, .int x5]) 2 rfl ?_
    refine k_ic rfl (fun c15_0 => ?_) (fun c15_0 => ?_)
    · rw [c15_0, cond_true] at hD
      cases hD
      exact k_vret rfl rfl
    · rw [c15_0, cond_false] at hD
      refine k_runB (pc' := 20) (loc' := [(0, .ref (37 * 1024)), (1, .int x1), (2, .int x2), (3, .int x3), (4, .int x4), (5, .int x5)]) (st' := [.int x4]) 1 rfl ?_
      refine k_if rfl (fun c20_1 => ?_) (fun c20_1 => ?_)
      · rw [c20_1, cond_true] at hD
        cases hD
        exact k_vret rfl rfl
      · rw [c20_1, cond_false] at hD
        refine k_runB (pc' := 25) (loc' := [(0, .ref (37 * 1024)), (1, .int x1), (2, .int x2), (3, .int x3), (4, .int x4), (5, .int x5)]) (st' := [.int x1, .ref (37 * 1024)]) 2 rfl ?_
        obtain ⟨⟨v3, P4, F5, A6, J7⟩, hv3, hD⟩ := Option.bind_eq_some_iff.mp hD
        dsimp only at hD
        refine k_runV rfl rfl rfl (c_get (r := 37) (o := 0) (K := 11) rfl (by decide)) rfl rfl (t_e_Reader_readUnit (d := d) ht hKS hv3) ?_
        refine k_runB (pc' := 30) (loc' := [(0, .ref (37 * 1024)), (1, .int x1), (2, .int x2), (3, .int x3), (4, .int x4), (5, .int x5)]) (st' := [.int x3, .ref (37 * 1024)]) 2 rfl ?_
        obtain ⟨⟨v8, P9, F10, A11, J12⟩, hv8, hD⟩ := Option.bind_eq_some_iff.mp hD
        dsimp only at hD
        refine k_runV rfl rfl rfl (c_get (r := 37) (o := 0) (K := 11) rfl (by decide)) rfl rfl (t_e_Reader_addSign (d := d + 4) ht hv8) ?_
        refine k_runB (pc' := 38) (loc' := [(0, .ref (37 * 1024)), (1, .int x1), (2, .int x2), (3, .int x3), (4, .int x4), (5, .int x5)]) (st' := [.int 47, .int 42, .ref (37 * 1024)]) 3 rfl ?_
        obtain ⟨⟨v13, P14, F15, A16, J17⟩, hv13, hD⟩ := Option.bind_eq_some_iff.mp hD
        dsimp only at hD
        refine k_runV rfl rfl rfl (c_get (r := 37) (o := 0) (K := 11) rfl (by decide)) rfl rfl (t_e_Reader_takeEither (d := d + 3) ht hv13) ?_
        refine k_runB (pc' := 43) (loc' := [(0, .ref (37 * 1024)), (1, .int x1), (2, .int x2), (3, .int v13), (4, .int x4), (5, .int x5)]) (st' := [.int v13]) 2 rfl ?_
        refine k_if rfl (fun c43_17 => ?_) (fun c43_17 => ?_)
        · rw [c43_17, cond_true] at hD
          refine k_wk [0, 1, 2, 3, 4, 5] (loc' := [(0, .ref (37 * 1024)), (1, .int x1), (2, .int x2), (3, .int v13), (4, .int x4), (5, .int x5)]) rfl rfl ?_
          exact t_e_Reader_readSum_71 ht hKS hK10  hD
        · rw [c43_17, cond_false] at hD
          refine k_runB (pc' := 48) (loc' := [(0, .ref (37 * 1024)), (1, .int x1), (2, .int x2), (3, .int v13), (4, .int x4), (5, .int x5)]) (st' := [.int x2, .ref (37 * 1024)]) 2 rfl ?_
          obtain ⟨⟨v19, P20, F21, A22, J23⟩, hv19, hD⟩ := Option.bind_eq_some_iff.mp hD
          dsimp only at hD
          refine k_runV rfl rfl rfl (c_get (r := 37) (o := 0) (K := 11) rfl (by decide)) rfl rfl (t_e_Reader_addSign (d := d + 4) ht hv19) ?_
          refine k_runB (pc' := 56) (loc' := [(0, .ref (37 * 1024)), (1, .int x1), (2, .int x2), (3, .int v13), (4, .int x4), (5, .int x5)]) (st' := [.int 45, .int 43, .ref (37 * 1024)]) 3 rfl ?_
          obtain ⟨⟨v24, P25, F26, A27, J28⟩, hv24, hD⟩ := Option.bind_eq_some_iff.mp hD
          dsimp only at hD
          refine k_runV rfl rfl rfl (c_get (r := 37) (o := 0) (K := 11) rfl (by decide)) rfl rfl (t_e_Reader_takeEither (d := d + 3) ht hv24) ?_
          refine k_runB (pc' := 61) (loc' := [(0, .ref (37 * 1024)), (1, .int x1), (2, .int v24), (3, .int v13), (4, .int x4), (5, .int x5)]) (st' := [.int v24]) 2 rfl ?_
          refine k_if rfl (fun c61_28 => ?_) (fun c61_28 => ?_)
          · rw [c61_28, cond_true] at hD
            refine k_runB (pc' := 69) (loc' := [(0, .ref (37 * 1024)), (1, .int x1), (2, .int v24), (3, .int v13), (4, .int x4), (5, .int x5)]) (st' := [.int 0]) 1 rfl ?_
            refine k_wk [0, 1, 2, 3, 5] (loc' := [(0, .ref (37 * 1024)), (1, .int x1), (2, .int v24), (3, .int v13), (5, .int x5)]) rfl rfl ?_
            exact t_e_Reader_readSum_69 ht hKS hK10  hD
          · rw [c61_28, cond_false] at hD
            refine k_runB (pc' := 69) (loc' := [(0, .ref (37 * 1024)), (1, .int x1), (2, .int v24), (3, .int v13), (4, .int x4), (5, .int x5)]) (st' := [.int 1]) 2 rfl ?_
            refine k_wk [0, 1, 2, 3, 5] (loc' := [(0, .ref (37 * 1024)), (1, .int x1), (2, .int v24), (3, .int v13), (5, .int x5)]) rfl rfl ?_
            exact t_e_Reader_readSum_69 ht hKS hK10  hD
/-- SleepWork$Reader.readSum(I)V  -/
def e_Reader_readSumB (KS : (Nat → Nat → Nat) → (Nat → Nat → Int32) → (Nat → Nat → Nat → Int32) → (Nat → Nat → Nat → Int64) → Int32 → Option (Unit × (Nat → Nat → Nat) × (Nat → Nat → Int32) × (Nat → Nat → Nat → Int32) × (Nat → Nat → Nat → Int64))) (n : Nat) (P : Nat → Nat → Nat) (F : Nat → Nat → Int32) (A : Nat → Nat → Nat → Int32) (J : Nat → Nat → Nat → Int64) (x1 : Int32) : Option (Unit × (Nat → Nat → Nat) × (Nat → Nat → Int32) × (Nat → Nat → Nat → Int32) × (Nat → Nat → Nat → Int64)) :=
  e_Reader_readSum_10 KS n P F A J x1 0 0 1 0
set_option maxRecDepth 10000 in
theorem t_e_Reader_readSumB (ht : ∀ ci k, t.1 ci k = k_ty ci k) {n : Nat} {KS : (Nat → Nat → Nat) → (Nat → Nat → Int32) → (Nat → Nat → Nat → Int32) → (Nat → Nat → Nat → Int64) → Int32 → Option (Unit × (Nat → Nat → Nat) × (Nat → Nat → Int32) × (Nat → Nat → Nat → Int32) × (Nat → Nat → Nat → Int64))} (hKS : ∀ (P : Nat → Nat → Nat) (F : Nat → Nat → Int32) (A : Nat → Nat → Nat → Int32) (J : Nat → Nat → Nat → Int64) (x1 : Int32) (w : Unit × (Nat → Nat → Nat) × (Nat → Nat → Int32) × (Nat → Nat → Nat → Int32) × (Nat → Nat → Nat → Int64)), KS P F A J x1 = some w → k_run t lg (d + 4) 62 0 [(0, .ref (37 * 1024)), (1, .int x1)] [] (c_h c B P F A J) (none, c_h c B w.2.1 w.2.2.1 w.2.2.2.1 w.2.2.2.2)) {P : Nat → Nat → Nat} {F : Nat → Nat → Int32} {A : Nat → Nat → Nat → Int32} {J : Nat → Nat → Nat → Int64} {x1 : Int32}  {w : Unit × (Nat → Nat → Nat) × (Nat → Nat → Int32) × (Nat → Nat → Nat → Int32) × (Nat → Nat → Nat → Int64)} : e_Reader_readSumB KS n P F A J x1 = some w → k_run t lg (d + 6) 62 0 [(0, .ref (37 * 1024)), (1, .int x1)] [] (c_h c B P F A J) (none, c_h c B w.2.1 w.2.2.1 w.2.2.2.1 w.2.2.2.2) := by
  intro hD
  unfold e_Reader_readSumB at hD
  refine k_runB (pc' := 10) (loc' := [(0, .ref (37 * 1024)), (1, .int x1), (2, .int 0), (3, .int 0), (4, .int 1), (5, .int 0)]) (st' := []) 8 rfl ?_
  refine k_wk [0, 1, 2, 3, 4, 5] (loc' := [(0, .ref (37 * 1024)), (1, .int x1), (2, .int 0), (3, .int 0), (4, .int 1), (5, .int 0)]) rfl rfl ?_
  exact t_e_Reader_readSum_10 ht hKS   hD
def e_Reader_readSum : Nat → Nat → (Nat → Nat → Nat) → (Nat → Nat → Int32) → (Nat → Nat → Nat → Int32) → (Nat → Nat → Nat → Int64) → Int32 → Option (Unit × (Nat → Nat → Nat) × (Nat → Nat → Int32) × (Nat → Nat → Nat → Int32) × (Nat → Nat → Nat → Int64))
  | 0, _, _, _, _, _, _ => none
  | m + 1, n, P, F, A, J, x1 => e_Reader_readSumB (e_Reader_readSum m n) n P F A J x1
set_option maxRecDepth 10000 in
theorem t_e_Reader_readSum (ht : ∀ ci k, t.1 ci k = k_ty ci k) {m n : Nat} {P : Nat → Nat → Nat} {F : Nat → Nat → Int32} {A : Nat → Nat → Nat → Int32} {J : Nat → Nat → Nat → Int64} {x1 : Int32} {w : Unit × (Nat → Nat → Nat) × (Nat → Nat → Int32) × (Nat → Nat → Nat → Int32) × (Nat → Nat → Nat → Int64)} : e_Reader_readSum m n P F A J x1 = some w → k_run t lg (d + 2 * m + 4) 62 0 [(0, .ref (37 * 1024)), (1, .int x1)] [] (c_h c B P F A J) (none, c_h c B w.2.1 w.2.2.1 w.2.2.2.1 w.2.2.2.2) := by
  induction m generalizing P F A J x1 w with
  | zero => intro hD; cases hD
  | succ m ih =>
    intro hD
    exact t_e_Reader_readSumB (d := d + 2 * m) ht (fun _ _ _ _ _ _ h => ih h) hD
end MC
