/-! the class's methods as functions (printed by wip/dec2.py) -/
section MC
variable {t : gT} {lg : Nat → Nat} {d : Nat} {c : Nat × Nat} {B : Nat → List gE}
/-- SleepWork$Sleep.lieDown(II)V  -/
def e_Sleep_lieDown (P : Nat → Nat → Nat) (F : Nat → Nat → Int32) (A : Nat → Nat → Nat → Int32) (J : Nat → Nat → Nat → Int64) (x1 : Int32) (x2 : Int32) : Option (Unit × (Nat → Nat → Nat) × (Nat → Nat → Int32) × (Nat → Nat → Nat → Int32) × (Nat → Nat → Nat → Int64)) :=
  (c_chk 2 (P 36 9)).bind fun q1 =>
  (c_st A q1 7 6 x1 x2).bind fun A2 =>
  (c_st A2 36 3 6 x1 1000000).bind fun A3 =>
  some ((), P, F, A3, J)
set_option maxRecDepth 10000 in
theorem t_e_Sleep_lieDown {P : Nat → Nat → Nat} {F : Nat → Nat → Int32} {A : Nat → Nat → Nat → Int32} {J : Nat → Nat → Nat → Int64} {x1 : Int32} {x2 : Int32}  {w : Unit × (Nat → Nat → Nat) × (Nat → Nat → Int32) × (Nat → Nat → Nat → Int32) × (Nat → Nat → Nat → Int64)} : e_Sleep_lieDown P F A J x1 x2 = some w → k_run t lg (d) 80 0 [(0, .ref (36 * 1024)), (1, .int x1), (2, .int x2)] [] (c_h c B P F A J) (none, c_h c B w.2.1 w.2.2.1 w.2.2.2.1 w.2.2.2.2) := by
  intro hD
  unfold e_Sleep_lieDown at hD
  refine k_runB (pc' := 1) (loc' := [(0, .ref (36 * 1024)), (1, .int x1), (2, .int x2)]) (st' := [.ref (36 * 1024)]) 1 rfl ?_
  obtain ⟨q1, hq1, hD⟩ := Option.bind_eq_some_iff.mp hD
  refine k_gq 36 0 (K := 10) (K2 := 2) (key := 9) rfl rfl rfl rfl rfl hq1 (fun kq1 => ?_)
  refine k_gf q1 0 (K := 2) kq1 rfl rfl rfl rfl ?_
  refine k_runB (pc' := 9) (loc' := [(0, .ref (36 * 1024)), (1, .int x1), (2, .int x2)]) (st' := [.int x2, .int x1, .ref (q1 * 1024 + 7)]) 2 rfl ?_
  obtain ⟨A2, hA2, hD⟩ := Option.bind_eq_some_iff.mp hD
  refine k_cstI q1 7 (K := 2) kq1 rfl rfl rfl (fun _ => rfl) hA2 ?_
  refine k_runB (pc' := 11) (loc' := [(0, .ref (36 * 1024)), (1, .int x1), (2, .int x2)]) (st' := [.ref (36 * 1024)]) 1 rfl ?_
  refine k_gf 36 0 (K := 10) rfl rfl rfl rfl rfl ?_
  refine k_runB (pc' := 17) (loc' := [(0, .ref (36 * 1024)), (1, .int x1), (2, .int x2)]) (st' := [.int 1000000, .int x1, .ref (36 * 1024 + 3)]) 2 rfl ?_
  obtain ⟨A3, hA3, hD⟩ := Option.bind_eq_some_iff.mp hD
  refine k_cstI 36 3 (K := 10) rfl rfl rfl rfl (fun _ => rfl) hA3 ?_
  cases hD
  exact k_vret rfl rfl
def e_Sleep_begin_168 (n : Nat) (P : Nat → Nat → Nat) (F : Nat → Nat → Int32) (A : Nat → Nat → Nat → Int32) (J : Nat → Nat → Nat → Int64) (x1 : Int32) (x2 : Int32) (x3 : Int32) (x5 : Int32) : Option (Unit × (Nat → Nat → Nat) × (Nat → Nat → Int32) × (Nat → Nat → Nat → Int32) × (Nat → Nat → Nat → Int64)) :=
    (c_chk 2 (P 36 9)).bind fun q31 =>
    (m_ld (A q31 2) 6 x3).bind fun v32 =>
    (c_st A q31 2 6 x3 (v32 - 1)).bind fun A33 =>
    (c_st A33 36 4 6 x1 x5).bind fun A34 =>
    (c_chk 6 (P 36 8)).bind fun q35 =>
    (m_ld (A34 q35 6) 36 ((x3 * 6) + x5)).bind fun v36 =>
    (c_st A34 36 3 6 x1 (x2 + v36)).bind fun A37 =>
    some ((), P, F, A37, J)
set_option maxRecDepth 10000 in
theorem t_e_Sleep_begin_168 {n : Nat}  {P : Nat → Nat → Nat} {F : Nat → Nat → Int32} {A : Nat → Nat → Nat → Int32} {J : Nat → Nat → Nat → Int64} {x1 : Int32} {x2 : Int32} {x3 : Int32} {x5 : Int32}  {w : Unit × (Nat → Nat → Nat) × (Nat → Nat → Int32) × (Nat → Nat → Nat → Int32) × (Nat → Nat → Nat → Int64)} : e_Sleep_begin_168 n P F A J x1 x2 x3 x5 = some w → k_run t lg (d + 3) 79 168 [(0, .ref (36 * 1024)), (1, .int x1), (2, .int x2), (3, .int x3), (5, .int x5)] [] (c_h c B P F A J) (none, c_h c B w.2.1 w.2.2.1 w.2.2.2.1 w.2.2.2.2) := by
  intro hD
  unfold e_Sleep_begin_168 at hD
  refine k_runB (pc' := 169) (loc' := [(0, .ref (36 * 1024)), (1, .int x1), (2, .int x2), (3, .int x3), (5, .int x5)]) (st' := [.ref (36 * 1024)]) 1 rfl ?_
  obtain ⟨q31, hq31, hD⟩ := Option.bind_eq_some_iff.mp hD
  refine k_gq 36 0 (K := 10) (K2 := 2) (key := 9) rfl rfl rfl rfl rfl hq31 (fun kq31 => ?_)
  refine k_gf q31 0 (K := 2) kq31 rfl rfl rfl rfl ?_
  refine k_runB (pc' := 177) (loc' := [(0, .ref (36 * 1024)), (1, .int x1), (2, .int x2), (3, .int x3), (5, .int x5)]) (st' := [.int x3, .ref (q31 * 1024 + 2), .int x3, .ref (q31 * 1024 + 2)]) 2 rfl ?_
  obtain ⟨v32, hv32, hD⟩ := Option.bind_eq_some_iff.mp hD
  refine k_ldI rfl (c_get (r := q31) (o := 2) (K := 2) kq31 (by decide)) hv32 ?_
  refine k_runB (pc' := 180) (loc' := [(0, .ref (36 * 1024)), (1, .int x1), (2, .int x2), (3, .int x3), (5, .int x5)]) (st' := [.int (v32 - 1), .int x3, .ref (q31 * 1024 + 2)]) 2 rfl ?_
  obtain ⟨A33, hA33, hD⟩ := Option.bind_eq_some_iff.mp hD
  refine k_cstI q31 2 (K := 2) kq31 rfl rfl rfl (fun _ => rfl) hA33 ?_
  refine k_runB (pc' := 182) (loc' := [(0, .ref (36 * 1024)), (1, .int x1), (2, .int x2), (3, .int x3), (5, .int x5)]) (st' := [.ref (36 * 1024)]) 1 rfl ?_
  refine k_gf 36 0 (K := 10) rfl rfl rfl rfl rfl ?_
  refine k_runB (pc' := 188) (loc' := [(0, .ref (36 * 1024)), (1, .int x1), (2, .int x2), (3, .int x3), (5, .int x5)]) (st' := [.int x5, .int x1, .ref (36 * 1024 + 4)]) 2 rfl ?_
  obtain ⟨A34, hA34, hD⟩ := Option.bind_eq_some_iff.mp hD
  refine k_cstI 36 4 (K := 10) rfl rfl rfl rfl (fun _ => rfl) hA34 ?_
  refine k_runB (pc' := 190) (loc' := [(0, .ref (36 * 1024)), (1, .int x1), (2, .int x2), (3, .int x3), (5, .int x5)]) (st' := [.ref (36 * 1024)]) 1 rfl ?_
  refine k_gf 36 0 (K := 10) rfl rfl rfl rfl rfl ?_
  refine k_runB (pc' := 196) (loc' := [(0, .ref (36 * 1024)), (1, .int x1), (2, .int x2), (3, .int x3), (5, .int x5)]) (st' := [.ref (36 * 1024), .int x2, .int x1, .ref (36 * 1024 + 3)]) 3 rfl ?_
  obtain ⟨q35, hq35, hD⟩ := Option.bind_eq_some_iff.mp hD
  refine k_gq 36 0 (K := 10) (K2 := 6) (key := 8) rfl rfl rfl rfl rfl hq35 (fun kq35 => ?_)
  refine k_gf q35 0 (K := 6) kq35 rfl rfl rfl rfl ?_
  refine k_runB (pc' := 209) (loc' := [(0, .ref (36 * 1024)), (1, .int x1), (2, .int x2), (3, .int x3), (5, .int x5)]) (st' := [.int ((x3 * 6) + x5), .ref (q35 * 1024 + 6), .int x2, .int x1, .ref (36 * 1024 + 3)]) 5 rfl ?_
  obtain ⟨v36, hv36, hD⟩ := Option.bind_eq_some_iff.mp hD
  refine k_ldI rfl (c_get (r := q35) (o := 6) (K := 6) kq35 (by decide)) hv36 ?_
  refine k_runB (pc' := 211) (loc' := [(0, .ref (36 * 1024)), (1, .int x1), (2, .int x2), (3, .int x3), (5, .int x5)]) (st' := [.int (x2 + v36), .int x1, .ref (36 * 1024 + 3)]) 1 rfl ?_
  obtain ⟨A37, hA37, hD⟩ := Option.bind_eq_some_iff.mp hD
  refine k_cstI 36 3 (K := 10) rfl rfl rfl rfl (fun _ => rfl) hA37 ?_
  cases hD
  exact k_vret rfl rfl
def e_Sleep_begin_140 (n : Nat) (P : Nat → Nat → Nat) (F : Nat → Nat → Int32) (A : Nat → Nat → Nat → Int32) (J : Nat → Nat → Nat → Int64) (x1 : Int32) (x2 : Int32) (x3 : Int32) (x5 : Int32) (x6 : Int32) : Option (Unit × (Nat → Nat → Nat) × (Nat → Nat → Int32) × (Nat → Nat → Nat → Int32) × (Nat → Nat → Nat → Int64)) :=
    (m_ld (A 36 8) 6 x6).bind fun v38 =>
    cond (g_cnd .eq v38 0)
    ((c_st A 36 8 6 x6 1).bind fun A40 =>
    (c_chk 2 (P 36 9)).bind fun q41 =>
    (m_ld (A40 q41 2) 6 x3).bind fun v42 =>
    (c_st A40 q41 2 6 x3 (v42 - 1)).bind fun A43 =>
    (c_st A43 36 4 6 x1 x5).bind fun A44 =>
    (c_chk 6 (P 36 8)).bind fun q45 =>
    (m_ld (A44 q45 6) 36 ((x3 * 6) + x5)).bind fun v46 =>
    (c_st A44 36 3 6 x1 (x2 + v46)).bind fun A47 =>
    some ((), P, F, A47, J))
    ((c_st A 36 3 6 x1 (x2 + 1)).bind fun A48 =>
    some ((), P, F, A48, J))
set_option maxRecDepth 10000 in
theorem t_e_Sleep_begin_140 {n : Nat}  {P : Nat → Nat → Nat} {F : Nat → Nat → Int32} {A : Nat → Nat → Nat → Int32} {J : Nat → Nat → Nat → Int64} {x1 : Int32} {x2 : Int32} {x3 : Int32} {x5 : Int32} {x6 : Int32}  {w : Unit × (Nat → Nat → Nat) × (Nat → Nat → Int32) × (Nat → Nat → Nat → Int32) × (Nat → Nat → Nat → Int64)} : e_Sleep_begin_140 n P F A J x1 x2 x3 x5 x6 = some w → k_run t lg (d + 3) 79 140 [(0, .ref (36 * 1024)), (1, .int x1), (2, .int x2), (3, .int x3), (5, .int x5), (6, .int x6)] [] (c_h c B P F A J) (none, c_h c B w.2.1 w.2.2.1 w.2.2.2.1 w.2.2.2.2) := by
  intro hD
  unfold e_Sleep_begin_140 at hD
  refine k_runB (pc' := 141) (loc' := [(0, .ref (36 * 1024)), (1, .int x1), (2, .int x2), (3, .int x3), (5, .int x5), (6, .int x6)]) (st' := [.ref (36 * 1024)]) 1 rfl ?_
  refine k_gf 36 0 (K := 10) rfl rfl rfl rfl rfl ?_
  refine k_runB (pc' := 146) (loc' := [(0, .ref (36 * 1024)), (1, .int x1), (2, .int x2), (3, .int x3), (5, .int x5), (6, .int x6)]) (st' := [.int x6, .ref (36 * 1024 + 8)]) 1 rfl ?_
  obtain ⟨v38, hv38, hD⟩ := Option.bind_eq_some_iff.mp hD
  refine k_ldI rfl (c_get (r := 36) (o := 8) (K := 10) rfl (by decide)) hv38 ?_
  refine k_if rfl (fun c147_38 => ?_) (fun c147_38 => ?_)
  · rw [c147_38, cond_true] at hD
    refine k_runB (pc' := 161) (loc' := [(0, .ref (36 * 1024)), (1, .int x1), (2, .int x2), (3, .int x3), (5, .int x5), (6, .int x6)]) (st' := [.ref (36 * 1024)]) 1 rfl ?_
    refine k_gf 36 0 (K := 10) rfl rfl rfl rfl rfl ?_
    refine k_runB (pc' := 167) (loc' := [(0, .ref (36 * 1024)), (1, .int x1), (2, .int x2), (3, .int x3), (5, .int x5), (6, .int x6)]) (st' := [.int 1, .int x6, .ref (36 * 1024 + 8)]) 2 rfl ?_
    obtain ⟨A40, hA40, hD⟩ := Option.bind_eq_some_iff.mp hD
    refine k_cstI 36 8 (K := 10) rfl rfl rfl rfl (fun _ => rfl) hA40 ?_
    refine k_runB (pc' := 169) (loc' := [(0, .ref (36 * 1024)), (1, .int x1), (2, .int x2), (3, .int x3), (5, .int x5), (6, .int x6)]) (st' := [.ref (36 * 1024)]) 1 rfl ?_
    obtain ⟨q41, hq41, hD⟩ := Option.bind_eq_some_iff.mp hD
    refine k_gq 36 0 (K := 10) (K2 := 2) (key := 9) rfl rfl rfl rfl rfl hq41 (fun kq41 => ?_)
    refine k_gf q41 0 (K := 2) kq41 rfl rfl rfl rfl ?_
    refine k_runB (pc' := 177) (loc' := [(0, .ref (36 * 1024)), (1, .int x1), (2, .int x2), (3, .int x3), (5, .int x5), (6, .int x6)]) (st' := [.int x3, .ref (q41 * 1024 + 2), .int x3, .ref (q41 * 1024 + 2)]) 2 rfl ?_
    obtain ⟨v42, hv42, hD⟩ := Option.bind_eq_some_iff.mp hD
    refine k_ldI rfl (c_get (r := q41) (o := 2) (K := 2) kq41 (by decide)) hv42 ?_
    refine k_runB (pc' := 180) (loc' := [(0, .ref (36 * 1024)), (1, .int x1), (2, .int x2), (3, .int x3), (5, .int x5), (6, .int x6)]) (st' := [.int (v42 - 1), .int x3, .ref (q41 * 1024 + 2)]) 2 rfl ?_
    obtain ⟨A43, hA43, hD⟩ := Option.bind_eq_some_iff.mp hD
    refine k_cstI q41 2 (K := 2) kq41 rfl rfl rfl (fun _ => rfl) hA43 ?_
    refine k_runB (pc' := 182) (loc' := [(0, .ref (36 * 1024)), (1, .int x1), (2, .int x2), (3, .int x3), (5, .int x5), (6, .int x6)]) (st' := [.ref (36 * 1024)]) 1 rfl ?_
    refine k_gf 36 0 (K := 10) rfl rfl rfl rfl rfl ?_
    refine k_runB (pc' := 188) (loc' := [(0, .ref (36 * 1024)), (1, .int x1), (2, .int x2), (3, .int x3), (5, .int x5), (6, .int x6)]) (st' := [.int x5, .int x1, .ref (36 * 1024 + 4)]) 2 rfl ?_
    obtain ⟨A44, hA44, hD⟩ := Option.bind_eq_some_iff.mp hD
    refine k_cstI 36 4 (K := 10) rfl rfl rfl rfl (fun _ => rfl) hA44 ?_
    refine k_runB (pc' := 190) (loc' := [(0, .ref (36 * 1024)), (1, .int x1), (2, .int x2), (3, .int x3), (5, .int x5), (6, .int x6)]) (st' := [.ref (36 * 1024)]) 1 rfl ?_
    refine k_gf 36 0 (K := 10) rfl rfl rfl rfl rfl ?_
    refine k_runB (pc' := 196) (loc' := [(0, .ref (36 * 1024)), (1, .int x1), (2, .int x2), (3, .int x3), (5, .int x5), (6, .int x6)]) (st' := [.ref (36 * 1024), .int x2, .int x1, .ref (36 * 1024 + 3)]) 3 rfl ?_
    obtain ⟨q45, hq45, hD⟩ := Option.bind_eq_some_iff.mp hD
    refine k_gq 36 0 (K := 10) (K2 := 6) (key := 8) rfl rfl rfl rfl rfl hq45 (fun kq45 => ?_)
    refine k_gf q45 0 (K := 6) kq45 rfl rfl rfl rfl ?_
    refine k_runB (pc' := 209) (loc' := [(0, .ref (36 * 1024)), (1, .int x1), (2, .int x2), (3, .int x3), (5, .int x5), (6, .int x6)]) (st' := [.int ((x3 * 6) + x5), .ref (q45 * 1024 + 6), .int x2, .int x1, .ref (36 * 1024 + 3)]) 5 rfl ?_
    obtain ⟨v46, hv46, hD⟩ := Option.bind_eq_some_iff.mp hD
    refine k_ldI rfl (c_get (r := q45) (o := 6) (K := 6) kq45 (by decide)) hv46 ?_
    refine k_runB (pc' := 211) (loc' := [(0, .ref (36 * 1024)), (1, .int x1), (2, .int x2), (3, .int x3), (5, .int x5), (6, .int x6)]) (st' := [.int (x2 + v46), .int x1, .ref (36 * 1024 + 3)]) 1 rfl ?_
    obtain ⟨A47, hA47, hD⟩ := Option.bind_eq_some_iff.mp hD
    refine k_cstI 36 3 (K := 10) rfl rfl rfl rfl (fun _ => rfl) hA47 ?_
    cases hD
    exact k_vret rfl rfl
  · rw [c147_38, cond_false] at hD
    refine k_runB (pc' := 151) (loc' := [(0, .ref (36 * 1024)), (1, .int x1), (2, .int x2), (3, .int x3), (5, .int x5), (6, .int x6)]) (st' := [.ref (36 * 1024)]) 1 rfl ?_
    refine k_gf 36 0 (K := 10) rfl rfl rfl rfl rfl ?_
    refine k_runB (pc' := 158) (loc' := [(0, .ref (36 * 1024)), (1, .int x1), (2, .int x2), (3, .int x3), (5, .int x5), (6, .int x6)]) (st' := [.int (x2 + 1), .int x1, .ref (36 * 1024 + 3)]) 4 rfl ?_
    obtain ⟨A48, hA48, hD⟩ := Option.bind_eq_some_iff.mp hD
    refine k_cstI 36 3 (K := 10) rfl rfl rfl rfl (fun _ => rfl) hA48 ?_
    cases hD
    exact k_vret rfl rfl
def e_Sleep_begin_59 (n : Nat) (P : Nat → Nat → Nat) (F : Nat → Nat → Int32) (A : Nat → Nat → Nat → Int32) (J : Nat → Nat → Nat → Int64) (x1 : Int32) (x2 : Int32) (s1 : Int32) (s2 : Int32) : Option (Unit × (Nat → Nat → Nat) × (Nat → Nat → Int32) × (Nat → Nat → Nat → Int32) × (Nat → Nat → Nat → Int64)) :=
    (c_st A 36 7 6 s1 s2).bind fun A49 =>
    (e_Sleep_lieDown P F A49 J x1 x2).bind fun (_, P51, F52, A53, J54) =>
    some ((), P51, F52, A53, J54)
set_option maxRecDepth 10000 in
theorem t_e_Sleep_begin_59 {n : Nat}  {P : Nat → Nat → Nat} {F : Nat → Nat → Int32} {A : Nat → Nat → Nat → Int32} {J : Nat → Nat → Nat → Int64} {x1 : Int32} {x2 : Int32} {s1 : Int32} {s2 : Int32}  {w : Unit × (Nat → Nat → Nat) × (Nat → Nat → Int32) × (Nat → Nat → Nat → Int32) × (Nat → Nat → Nat → Int64)} : e_Sleep_begin_59 n P F A J x1 x2 s1 s2 = some w → k_run t lg (d + 3) 79 59 [(0, .ref (36 * 1024)), (1, .int x1), (2, .int x2)] [.int s2, .int s1, .ref (36 * 1024 + 7)] (c_h c B P F A J) (none, c_h c B w.2.1 w.2.2.1 w.2.2.2.1 w.2.2.2.2) := by
  intro hD
  unfold e_Sleep_begin_59 at hD
  obtain ⟨A49, hA49, hD⟩ := Option.bind_eq_some_iff.mp hD
  refine k_cstI 36 7 (K := 10) rfl rfl rfl rfl (fun _ => rfl) hA49 ?_
  refine k_runB (pc' := 63) (loc' := [(0, .ref (36 * 1024)), (1, .int x1), (2, .int x2)]) (st' := [.int x2, .int x1, .ref (36 * 1024)]) 3 rfl ?_
  obtain ⟨⟨v50, P51, F52, A53, J54⟩, hv50, hD⟩ := Option.bind_eq_some_iff.mp hD
  dsimp only at hD
  refine k_runV rfl rfl rfl (c_get (r := 36) (o := 0) (K := 10) rfl (by decide)) rfl rfl (t_e_Sleep_lieDown (d := d + 2) hv50) ?_
  cases hD
  exact k_vret rfl rfl
def e_Sleep_begin_44 (n : Nat) (P : Nat → Nat → Nat) (F : Nat → Nat → Int32) (A : Nat → Nat → Nat → Int32) (J : Nat → Nat → Nat → Int64) (x1 : Int32) (x2 : Int32) (x4 : Int32) : Option (Unit × (Nat → Nat → Nat) × (Nat → Nat → Int32) × (Nat → Nat → Nat → Int32) × (Nat → Nat → Nat → Int64)) :=
    cond (g_cnd .eq x4 0)
    (e_Sleep_begin_59 n P F A J x1 x2 x1 0)
    (e_Sleep_begin_59 n P F A J x1 x2 x1 1)
set_option maxRecDepth 10000 in
theorem t_e_Sleep_begin_44 {n : Nat}  {P : Nat → Nat → Nat} {F : Nat → Nat → Int32} {A : Nat → Nat → Nat → Int32} {J : Nat → Nat → Nat → Int64} {x1 : Int32} {x2 : Int32} {x4 : Int32}  {w : Unit × (Nat → Nat → Nat) × (Nat → Nat → Int32) × (Nat → Nat → Nat → Int32) × (Nat → Nat → Nat → Int64)} : e_Sleep_begin_44 n P F A J x1 x2 x4 = some w → k_run t lg (d + 3) 79 44 [(0, .ref (36 * 1024)), (1, .int x1), (2, .int x2), (4, .int x4)] [] (c_h c B P F A J) (none, c_h c B w.2.1 w.2.2.1 w.2.2.2.1 w.2.2.2.2) := by
  intro hD
  unfold e_Sleep_begin_44 at hD
  refine k_runB (pc' := 45) (loc' := [(0, .ref (36 * 1024)), (1, .int x1), (2, .int x2), (4, .int x4)]) (st' := [.ref (36 * 1024)]) 1 rfl ?_
  refine k_gf 36 0 (K := 10) rfl rfl rfl rfl rfl ?_
  refine k_runB (pc' := 51) (loc' := [(0, .ref (36 * 1024)), (1, .int x1), (2, .int x2), (4, .int x4)]) (st' := [.int x4, .int x1, .ref (36 * 1024 + 7)]) 2 rfl ?_
  refine k_if rfl (fun c51_29 => ?_) (fun c51_29 => ?_)
  · rw [c51_29, cond_true] at hD
    refine k_runB (pc' := 59) (loc' := [(0, .ref (36 * 1024)), (1, .int x1), (2, .int x2), (4, .int x4)]) (st' := [.int 0, .int x1, .ref (36 * 1024 + 7)]) 1 rfl ?_
    refine k_wk [0, 1, 2] (loc' := [(0, .ref (36 * 1024)), (1, .int x1), (2, .int x2)]) rfl rfl ?_
    exact t_e_Sleep_begin_59   hD
  · rw [c51_29, cond_false] at hD
    refine k_runB (pc' := 59) (loc' := [(0, .ref (36 * 1024)), (1, .int x1), (2, .int x2), (4, .int x4)]) (st' := [.int 1, .int x1, .ref (36 * 1024 + 7)]) 2 rfl ?_
    refine k_wk [0, 1, 2] (loc' := [(0, .ref (36 * 1024)), (1, .int x1), (2, .int x2)]) rfl rfl ?_
    exact t_e_Sleep_begin_59   hD
/-- SleepWork$Sleep.begin(II)V  -/
def e_Sleep_begin (n : Nat) (P : Nat → Nat → Nat) (F : Nat → Nat → Int32) (A : Nat → Nat → Nat → Int32) (J : Nat → Nat → Nat → Int64) (x1 : Int32) (x2 : Int32) : Option (Unit × (Nat → Nat → Nat) × (Nat → Nat → Int32) × (Nat → Nat → Nat → Int32) × (Nat → Nat → Nat → Int64)) :=
  (c_chk 2 (P 36 9)).bind fun q1 =>
  (m_ld (A q1 3) 6 x1).bind fun v2 =>
  (m_div v2 6).bind fun v3 =>
  (c_chk 6 (P 36 8)).bind fun q4 =>
  (c_chk 2 (P 36 9)).bind fun q5 =>
  (e_House_isEnded n P F A J q4 q5 v3).bind fun v6 =>
  cond (g_cnd .ne v6 0)
  (e_Sleep_begin_44 n P F A J x1 x2 v6)
  ((c_chk 2 (P 36 9)).bind fun q8 =>
  (m_ld (A q8 2) 6 v3).bind fun v9 =>
  cond (g_cnd .gt v9 0)
  ((e_Sleep_chosenStep n P F A J x1 v3 x2).bind fun (v11, P12, F13, A14, J15) =>
  (c_chk 6 (P12 36 8)).bind fun q16 =>
  (m_ld (A14 q16 10) 36 ((v3 * 6) + v11)).bind fun v17 =>
  cond (g_cnd .lt v17 0)
  (e_Sleep_begin_168 n P12 F13 A14 J15 x1 x2 v3 v11)
  ((c_chk 2 (P12 36 9)).bind fun q19 =>
  (m_ld (A14 q19 4) 6 v17).bind fun v20 =>
  cond (g_cnd .eq v20 (100 + x1))
  (e_Sleep_begin_140 n P12 F13 A14 J15 x1 x2 v3 v11 v17)
  ((c_chk 6 (P12 36 8)).bind fun q22 =>
  (m_ld (A14 q22 4) 6 v3).bind fun v23 =>
  cond (g_cnd .eq v20 v23)
  (e_Sleep_begin_140 n P12 F13 A14 J15 x1 x2 v3 v11 v17)
  ((e_Sleep_lieDown P12 F13 A14 J15 x1 x2).bind fun (_, P26, F27, A28, J29) =>
  some ((), P26, F27, A28, J29)))))
  (e_Sleep_begin_44 n P F A J x1 x2 v6))
set_option maxRecDepth 10000 in
theorem t_e_Sleep_begin {n : Nat} {P : Nat → Nat → Nat} {F : Nat → Nat → Int32} {A : Nat → Nat → Nat → Int32} {J : Nat → Nat → Nat → Int64} {x1 : Int32} {x2 : Int32}  {w : Unit × (Nat → Nat → Nat) × (Nat → Nat → Int32) × (Nat → Nat → Nat → Int32) × (Nat → Nat → Nat → Int64)} : e_Sleep_begin n P F A J x1 x2 = some w → k_run t lg (d + 3) 79 0 [(0, .ref (36 * 1024)), (1, .int x1), (2, .int x2)] [] (c_h c B P F A J) (none, c_h c B w.2.1 w.2.2.1 w.2.2.2.1 w.2.2.2.2) := by
  intro hD
  unfold e_Sleep_begin at hD
  refine k_runB (pc' := 1) (loc' := [(0, .ref (36 * 1024)), (1, .int x1), (2, .int x2)]) (st' := [.ref (36 * 1024)]) 1 rfl ?_
  obtain ⟨q1, hq1, hD⟩ := Option.bind_eq_some_iff.mp hD
  refine k_gq 36 0 (K := 10) (K2 := 2) (key := 9) rfl rfl rfl rfl rfl hq1 (fun kq1 => ?_)
  refine k_gf q1 0 (K := 2) kq1 rfl rfl rfl rfl ?_
  refine k_runB (pc' := 8) (loc' := [(0, .ref (36 * 1024)), (1, .int x1), (2, .int x2)]) (st' := [.int x1, .ref (q1 * 1024 + 3)]) 1 rfl ?_
  obtain ⟨v2, hv2, hD⟩ := Option.bind_eq_some_iff.mp hD
  refine k_ldI rfl (c_get (r := q1) (o := 3) (K := 2) kq1 (by decide)) hv2 ?_
  refine k_runB (pc' := 11) (loc' := [(0, .ref (36 * 1024)), (1, .int x1), (2, .int x2)]) (st' := [.int 6, .int v2]) 1 rfl ?_
  obtain ⟨v3, hv3, hD⟩ := Option.bind_eq_some_iff.mp hD
  refine k_dvI rfl hv3 ?_
  refine k_runB (pc' := 14) (loc' := [(0, .ref (36 * 1024)), (1, .int x1), (2, .int x2), (3, .int v3)]) (st' := [.ref (36 * 1024)]) 2 rfl ?_
  obtain ⟨q4, hq4, hD⟩ := Option.bind_eq_some_iff.mp hD
  refine k_gq 36 0 (K := 10) (K2 := 6) (key := 8) rfl rfl rfl rfl rfl hq4 (fun kq4 => ?_)
  refine k_runB (pc' := 18) (loc' := [(0, .ref (36 * 1024)), (1, .int x1), (2, .int x2), (3, .int v3)]) (st' := [.ref (36 * 1024), .ref (q4 * 1024)]) 1 rfl ?_
  obtain ⟨q5, hq5, hD⟩ := Option.bind_eq_some_iff.mp hD
  refine k_gq 36 0 (K := 10) (K2 := 2) (key := 9) rfl rfl rfl rfl rfl hq5 (fun kq5 => ?_)
  refine k_runB (pc' := 22) (loc' := [(0, .ref (36 * 1024)), (1, .int x1), (2, .int x2), (3, .int v3)]) (st' := [.int v3, .ref (q5 * 1024), .ref (q4 * 1024)]) 1 rfl ?_
  obtain ⟨v6, hv6, hD⟩ := Option.bind_eq_some_iff.mp hD
  refine k_runV rfl rfl rfl (c_get (r := q4) (o := 0) (K := 6) kq4 (by decide)) rfl rfl (t_e_House_isEnded (d := d + 2) kq4 kq5 hv6) ?_
  refine k_runB (pc' := 29) (loc' := [(0, .ref (36 * 1024)), (1, .int x1), (2, .int x2), (3, .int v3), (4, .int v6)]) (st' := [.int v6]) 2 rfl ?_
  refine k_if rfl (fun c29_6 => ?_) (fun c29_6 => ?_)
  · rw [c29_6, cond_true] at hD
    refine k_wk [0, 1, 2, 4] (loc' := [(0, .ref (36 * 1024)), (1, .int x1), (2, .int x2), (4, .int v6)]) rfl rfl ?_
    exact t_e_Sleep_begin_44   hD
  · rw [c29_6, cond_false] at hD
    refine k_runB (pc' := 33) (loc' := [(0, .ref (36 * 1024)), (1, .int x1), (2, .int x2), (3, .int v3), (4, .int v6)]) (st' := [.ref (36 * 1024)]) 1 rfl ?_
    obtain ⟨q8, hq8, hD⟩ := Option.bind_eq_some_iff.mp hD
    refine k_gq 36 0 (K := 10) (K2 := 2) (key := 9) rfl rfl rfl rfl rfl hq8 (fun kq8 => ?_)
    refine k_gf q8 0 (K := 2) kq8 rfl rfl rfl rfl ?_
    refine k_runB (pc' := 40) (loc' := [(0, .ref (36 * 1024)), (1, .int x1), (2, .int x2), (3, .int v3), (4, .int v6)]) (st' := [.int v3, .ref (q8 * 1024 + 2)]) 1 rfl ?_
    obtain ⟨v9, hv9, hD⟩ := Option.bind_eq_some_iff.mp hD
    refine k_ldI rfl (c_get (r := q8) (o := 2) (K := 2) kq8 (by decide)) hv9 ?_
    refine k_if rfl (fun c41_9 => ?_) (fun c41_9 => ?_)
    · rw [c41_9, cond_true] at hD
      refine k_runB (pc' := 71) (loc' := [(0, .ref (36 * 1024)), (1, .int x1), (2, .int x2), (3, .int v3), (4, .int v6)]) (st' := [.int x2, .int v3, .int x1, .ref (36 * 1024)]) 4 rfl ?_
      obtain ⟨⟨v11, P12, F13, A14, J15⟩, hv11, hD⟩ := Option.bind_eq_some_iff.mp hD
      dsimp only at hD
      refine k_runV rfl rfl rfl (c_get (r := 36) (o := 0) (K := 10) rfl (by decide)) rfl rfl (t_e_Sleep_chosenStep (d := d) hv11) ?_
      refine k_runB (pc' := 77) (loc' := [(0, .ref (36 * 1024)), (1, .int x1), (2, .int x2), (3, .int v3), (4, .int v6), (5, .int v11)]) (st' := [.ref (36 * 1024)]) 2 rfl ?_
      obtain ⟨q16, hq16, hD⟩ := Option.bind_eq_some_iff.mp hD
      refine k_gq 36 0 (K := 10) (K2 := 6) (key := 8) rfl rfl rfl rfl rfl hq16 (fun kq16 => ?_)
      refine k_gf q16 0 (K := 6) kq16 rfl rfl rfl rfl ?_
      refine k_runB (pc' := 90) (loc' := [(0, .ref (36 * 1024)), (1, .int x1), (2, .int x2), (3, .int v3), (4, .int v6), (5, .int v11)]) (st' := [.int ((v3 * 6) + v11), .ref (q16 * 1024 + 10)]) 5 rfl ?_
      obtain ⟨v17, hv17, hD⟩ := Option.bind_eq_some_iff.mp hD
      refine k_ldI rfl (c_get (r := q16) (o := 10) (K := 6) kq16 (by decide)) hv17 ?_
      refine k_runB (pc' := 95) (loc' := [(0, .ref (36 * 1024)), (1, .int x1), (2, .int x2), (3, .int v3), (4, .int v6), (5, .int v11), (6, .int v17)]) (st' := [.int v17]) 2 rfl ?_
      refine k_if rfl (fun c95_17 => ?_) (fun c95_17 => ?_)
      · rw [c95_17, cond_true] at hD
        refine k_wk [0, 1, 2, 3, 5] (loc' := [(0, .ref (36 * 1024)), (1, .int x1), (2, .int x2), (3, .int v3), (5, .int v11)]) rfl rfl ?_
        exact t_e_Sleep_begin_168   hD
      · rw [c95_17, cond_false] at hD
        refine k_runB (pc' := 99) (loc' := [(0, .ref (36 * 1024)), (1, .int x1), (2, .int x2), (3, .int v3), (4, .int v6), (5, .int v11), (6, .int v17)]) (st' := [.ref (36 * 1024)]) 1 rfl ?_
        obtain ⟨q19, hq19, hD⟩ := Option.bind_eq_some_iff.mp hD
        refine k_gq 36 0 (K := 10) (K2 := 2) (key := 9) rfl rfl rfl rfl rfl hq19 (fun kq19 => ?_)
        refine k_gf q19 0 (K := 2) kq19 rfl rfl rfl rfl ?_
        refine k_runB (pc' := 107) (loc' := [(0, .ref (36 * 1024)), (1, .int x1), (2, .int x2), (3, .int v3), (4, .int v6), (5, .int v11), (6, .int v17)]) (st' := [.int v17, .ref (q19 * 1024 + 4)]) 1 rfl ?_
        obtain ⟨v20, hv20, hD⟩ := Option.bind_eq_some_iff.mp hD
        refine k_ldI rfl (c_get (r := q19) (o := 4) (K := 2) kq19 (by decide)) hv20 ?_
        refine k_runB (pc' := 116) (loc' := [(0, .ref (36 * 1024)), (1, .int x1), (2, .int x2), (3, .int v3), (4, .int v6), (5, .int v11), (6, .int v17), (7, .int v20)]) (st' := [.int (100 + x1), .int v20]) 5 rfl ?_
        refine k_ic rfl (fun c116_20 => ?_) (fun c116_20 => ?_)
        · rw [c116_20, cond_true] at hD
          refine k_wk [0, 1, 2, 3, 5, 6] (loc' := [(0, .ref (36 * 1024)), (1, .int x1), (2, .int x2), (3, .int v3), (5, .int v11), (6, .int v17)]) rfl rfl ?_
          exact t_e_Sleep_begin_140   hD
        · rw [c116_20, cond_false] at hD
          refine k_runB (pc' := 122) (loc' := [(0, .ref (36 * 1024)), (1, .int x1), (2, .int x2), (3, .int v3), (4, .int v6), (5, .int v11), (6, .int v17), (7, .int v20)]) (st' := [.ref (36 * 1024), .int v20]) 2 rfl ?_
          obtain ⟨q22, hq22, hD⟩ := Option.bind_eq_some_iff.mp hD
          refine k_gq 36 0 (K := 10) (K2 := 6) (key := 8) rfl rfl rfl rfl rfl hq22 (fun kq22 => ?_)
          refine k_gf q22 0 (K := 6) kq22 rfl rfl rfl rfl ?_
          refine k_runB (pc' := 129) (loc' := [(0, .ref (36 * 1024)), (1, .int x1), (2, .int x2), (3, .int v3), (4, .int v6), (5, .int v11), (6, .int v17), (7, .int v20)]) (st' := [.int v3, .ref (q22 * 1024 + 4), .int v20]) 1 rfl ?_
          obtain ⟨v23, hv23, hD⟩ := Option.bind_eq_some_iff.mp hD
          refine k_ldI rfl (c_get (r := q22) (o := 4) (K := 6) kq22 (by decide)) hv23 ?_
          refine k_ic rfl (fun c130_23 => ?_) (fun c130_23 => ?_)
          · rw [c130_23, cond_true] at hD
            refine k_wk [0, 1, 2, 3, 5, 6] (loc' := [(0, .ref (36 * 1024)), (1, .int x1), (2, .int x2), (3, .int v3), (5, .int v11), (6, .int v17)]) rfl rfl ?_
            exact t_e_Sleep_begin_140   hD
          · rw [c130_23, cond_false] at hD
            refine k_runB (pc' := 136) (loc' := [(0, .ref (36 * 1024)), (1, .int x1), (2, .int x2), (3, .int v3), (4, .int v6), (5, .int v11), (6, .int v17), (7, .int v20)]) (st' := [.int x2, .int x1, .ref (36 * 1024)]) 3 rfl ?_
            obtain ⟨⟨v25, P26, F27, A28, J29⟩, hv25, hD⟩ := Option.bind_eq_some_iff.mp hD
            dsimp only at hD
            refine k_runV rfl rfl rfl (c_get (r := 36) (o := 0) (K := 10) rfl (by decide)) rfl rfl (t_e_Sleep_lieDown (d := d + 2) hv25) ?_
            cases hD
            exact k_vret rfl rfl
    · rw [c41_9, cond_false] at hD
      refine k_wk [0, 1, 2, 4] (loc' := [(0, .ref (36 * 1024)), (1, .int x1), (2, .int x2), (4, .int v6)]) rfl rfl ?_
      exact t_e_Sleep_begin_44   hD
def e_Sleep_goTill_119 (n : Nat) (P : Nat → Nat → Nat) (F : Nat → Nat → Int32) (A : Nat → Nat → Nat → Int32) (J : Nat → Nat → Nat → Int64) : Option (Unit × (Nat → Nat → Nat) × (Nat → Nat → Int32) × (Nat → Nat → Nat → Int32) × (Nat → Nat → Nat → Int64)) :=
    (e_Sleep_wakeUp n P F A J).bind fun (_, P22, F23, A24, J25) =>
    some ((), P22, F23, A24, J25)
set_option maxRecDepth 10000 in
theorem t_e_Sleep_goTill_119 (ht : ∀ ci k, t.1 ci k = k_ty ci k) {n : Nat}  {P : Nat → Nat → Nat} {F : Nat → Nat → Int32} {A : Nat → Nat → Nat → Int32} {J : Nat → Nat → Nat → Int64}   {w : Unit × (Nat → Nat → Nat) × (Nat → Nat → Int32) × (Nat → Nat → Nat → Int32) × (Nat → Nat → Nat → Int64)} : e_Sleep_goTill_119 n P F A J = some w → k_run t lg (d + 4) 75 119 [(0, .ref (36 * 1024))] [] (c_h c B P F A J) (none, c_h c B w.2.1 w.2.2.1 w.2.2.2.1 w.2.2.2.2) := by
  intro hD
  unfold e_Sleep_goTill_119 at hD
  refine k_runB (pc' := 120) (loc' := [(0, .ref (36 * 1024))]) (st' := [.ref (36 * 1024)]) 1 rfl ?_
  obtain ⟨⟨v21, P22, F23, A24, J25⟩, hv21, hD⟩ := Option.bind_eq_some_iff.mp hD
  dsimp only at hD
  refine k_runV rfl rfl rfl (c_get (r := 36) (o := 0) (K := 10) rfl (by decide)) rfl rfl (t_e_Sleep_wakeUp (d := d + 3) hv21) ?_
  cases hD
  exact k_vret rfl rfl
def e_Sleep_goTill_111 (K31 : (Nat → Nat → Nat) → (Nat → Nat → Int32) → (Nat → Nat → Nat → Int32) → (Nat → Nat → Nat → Int64) → Int32 → Int32 → Int32 → Option (Unit × (Nat → Nat → Nat) × (Nat → Nat → Int32) × (Nat → Nat → Nat → Int32) × (Nat → Nat → Nat → Int64))) (n : Nat) (P : Nat → Nat → Nat) (F : Nat → Nat → Int32) (A : Nat → Nat → Nat → Int32) (J : Nat → Nat → Nat → Int64) (x1 : Int32) (x5 : Int32) (s0 : Int32) : Option (Unit × (Nat → Nat → Nat) × (Nat → Nat → Int32) × (Nat → Nat → Nat → Int32) × (Nat → Nat → Nat → Int64)) :=
    K31 P F A J x1 s0 (x5 + 1)
set_option maxRecDepth 10000 in
theorem t_e_Sleep_goTill_111 (ht : ∀ ci k, t.1 ci k = k_ty ci k) {n : Nat} {K31 : (Nat → Nat → Nat) → (Nat → Nat → Int32) → (Nat → Nat → Nat → Int32) → (Nat → Nat → Nat → Int64) → Int32 → Int32 → Int32 → Option (Unit × (Nat → Nat → Nat) × (Nat → Nat → Int32) × (Nat → Nat → Nat → Int32) × (Nat → Nat → Nat → Int64))} (hK31 : ∀ (P : Nat → Nat → Nat) (F : Nat → Nat → Int32) (A : Nat → Nat → Nat → Int32) (J : Nat → Nat → Nat → Int64) (x1 : Int32) (x4 : Int32) (x5 : Int32) (w : Unit × (Nat → Nat → Nat) × (Nat → Nat → Int32) × (Nat → Nat → Nat → Int32) × (Nat → Nat → Nat → Int64)), K31 P F A J x1 x4 x5 = some w → k_run t lg (d + 4) 75 31 [(0, .ref (36 * 1024)), (1, .int x1), (4, .int x4), (5, .int x5)] [] (c_h c B P F A J) (none, c_h c B w.2.1 w.2.2.1 w.2.2.2.1 w.2.2.2.2)) {P : Nat → Nat → Nat} {F : Nat → Nat → Int32} {A : Nat → Nat → Nat → Int32} {J : Nat → Nat → Nat → Int64} {x1 : Int32} {x5 : Int32} {s0 : Int32}  {w : Unit × (Nat → Nat → Nat) × (Nat → Nat → Int32) × (Nat → Nat → Nat → Int32) × (Nat → Nat → Nat → Int64)} : e_Sleep_goTill_111 K31 n P F A J x1 x5 s0 = some w → k_run t lg (d + 4) 75 111 [(0, .ref (36 * 1024)), (1, .int x1), (5, .int x5)] [.int s0] (c_h c B P F A J) (none, c_h c B w.2.1 w.2.2.1 w.2.2.2.1 w.2.2.2.2) := by
  intro hD
  unfold e_Sleep_goTill_111 at hD
  refine k_runB (pc' := 31) (loc' := [(0, .ref (36 * 1024)), (1, .int x1), (4, .int s0), (5, .int (x5 + 1))]) (st' := []) 3 rfl ?_
  refine k_wk [0, 1, 4, 5] (loc' := [(0, .ref (36 * 1024)), (1, .int x1), (4, .int s0), (5, .int (x5 + 1))]) rfl rfl ?_
  exact hK31 _ _ _ _ _ _ _ _  hD
def e_Sleep_goTill_96 (K31 : (Nat → Nat → Nat) → (Nat → Nat → Int32) → (Nat → Nat → Nat → Int32) → (Nat → Nat → Nat → Int64) → Int32 → Int32 → Int32 → Option (Unit × (Nat → Nat → Nat) × (Nat → Nat → Int32) × (Nat → Nat → Nat → Int32) × (Nat → Nat → Nat → Int64))) (n : Nat) (P : Nat → Nat → Nat) (F : Nat → Nat → Int32) (A : Nat → Nat → Nat → Int32) (J : Nat → Nat → Nat → Int64) (x1 : Int32) (x4 : Int32) (x5 : Int32) : Option (Unit × (Nat → Nat → Nat) × (Nat → Nat → Int32) × (Nat → Nat → Nat → Int32) × (Nat → Nat → Nat → Int64)) :=
    cond (g_cnd .ge x4 x1)
    (e_Sleep_goTill_111 K31 n P F A J x1 x5 1000000)
    ((e_Sleep_nextMinute n P F A J).bind fun (v37, P38, F39, A40, J41) =>
    e_Sleep_goTill_111 K31 n P38 F39 A40 J41 x1 x5 v37)
set_option maxRecDepth 10000 in
theorem t_e_Sleep_goTill_96 (ht : ∀ ci k, t.1 ci k = k_ty ci k) {n : Nat} {K31 : (Nat → Nat → Nat) → (Nat → Nat → Int32) → (Nat → Nat → Nat → Int32) → (Nat → Nat → Nat → Int64) → Int32 → Int32 → Int32 → Option (Unit × (Nat → Nat → Nat) × (Nat → Nat → Int32) × (Nat → Nat → Nat → Int32) × (Nat → Nat → Nat → Int64))} (hK31 : ∀ (P : Nat → Nat → Nat) (F : Nat → Nat → Int32) (A : Nat → Nat → Nat → Int32) (J : Nat → Nat → Nat → Int64) (x1 : Int32) (x4 : Int32) (x5 : Int32) (w : Unit × (Nat → Nat → Nat) × (Nat → Nat → Int32) × (Nat → Nat → Nat → Int32) × (Nat → Nat → Nat → Int64)), K31 P F A J x1 x4 x5 = some w → k_run t lg (d + 4) 75 31 [(0, .ref (36 * 1024)), (1, .int x1), (4, .int x4), (5, .int x5)] [] (c_h c B P F A J) (none, c_h c B w.2.1 w.2.2.1 w.2.2.2.1 w.2.2.2.2)) {P : Nat → Nat → Nat} {F : Nat → Nat → Int32} {A : Nat → Nat → Nat → Int32} {J : Nat → Nat → Nat → Int64} {x1 : Int32} {x4 : Int32} {x5 : Int32}  {w : Unit × (Nat → Nat → Nat) × (Nat → Nat → Int32) × (Nat → Nat → Nat → Int32) × (Nat → Nat → Nat → Int64)} : e_Sleep_goTill_96 K31 n P F A J x1 x4 x5 = some w → k_run t lg (d + 4) 75 96 [(0, .ref (36 * 1024)), (1, .int x1), (4, .int x4), (5, .int x5)] [] (c_h c B P F A J) (none, c_h c B w.2.1 w.2.2.1 w.2.2.2.1 w.2.2.2.2) := by
  intro hD
  unfold e_Sleep_goTill_96 at hD
  refine k_runB (pc' := 99) (loc' := [(0, .ref (36 * 1024)), (1, .int x1), (4, .int x4), (5, .int x5)]) (st' := [.int x1, .int x4]) 2 rfl ?_
  refine k_ic rfl (fun c99_35 => ?_) (fun c99_35 => ?_)
  · rw [c99_35, cond_true] at hD
    refine k_runB (pc' := 111) (loc' := [(0, .ref (36 * 1024)), (1, .int x1), (4, .int x4), (5, .int x5)]) (st' := [.int 1000000]) 1 rfl ?_
    refine k_wk [0, 1, 5] (loc' := [(0, .ref (36 * 1024)), (1, .int x1), (5, .int x5)]) rfl rfl ?_
    exact t_e_Sleep_goTill_111 ht hK31  hD
  · rw [c99_35, cond_false] at hD
    refine k_runB (pc' := 103) (loc' := [(0, .ref (36 * 1024)), (1, .int x1), (4, .int x4), (5, .int x5)]) (st' := [.ref (36 * 1024)]) 1 rfl ?_
    obtain ⟨⟨v37, P38, F39, A40, J41⟩, hv37, hD⟩ := Option.bind_eq_some_iff.mp hD
    dsimp only at hD
    refine k_runV rfl rfl rfl (c_get (r := 36) (o := 0) (K := 10) rfl (by decide)) rfl rfl (t_e_Sleep_nextMinute (d := d + 3) hv37) ?_
    refine k_runB (pc' := 111) (loc' := [(0, .ref (36 * 1024)), (1, .int x1), (4, .int x4), (5, .int x5)]) (st' := [.int v37]) 1 rfl ?_
    refine k_wk [0, 1, 5] (loc' := [(0, .ref (36 * 1024)), (1, .int x1), (5, .int x5)]) rfl rfl ?_
    exact t_e_Sleep_goTill_111 ht hK31  hD
def e_Sleep_goTill_90 (K31 : (Nat → Nat → Nat) → (Nat → Nat → Int32) → (Nat → Nat → Nat → Int32) → (Nat → Nat → Nat → Int64) → Int32 → Int32 → Int32 → Option (Unit × (Nat → Nat → Nat) × (Nat → Nat → Int32) × (Nat → Nat → Nat → Int32) × (Nat → Nat → Nat → Int64))) (K52 : (Nat → Nat → Nat) → (Nat → Nat → Int32) → (Nat → Nat → Nat → Int32) → (Nat → Nat → Nat → Int64) → Int32 → Int32 → Int32 → Int32 → Option (Unit × (Nat → Nat → Nat) × (Nat → Nat → Int32) × (Nat → Nat → Nat → Int32) × (Nat → Nat → Nat → Int64))) (n : Nat) (P : Nat → Nat → Nat) (F : Nat → Nat → Int32) (A : Nat → Nat → Nat → Int32) (J : Nat → Nat → Nat → Int64) (x1 : Int32) (x4 : Int32) (x5 : Int32) (x6 : Int32) : Option (Unit × (Nat → Nat → Nat) × (Nat → Nat → Int32) × (Nat → Nat → Nat → Int32) × (Nat → Nat → Nat → Int64)) :=
    K52 P F A J x1 x4 x5 (x6 + 1)
set_option maxRecDepth 10000 in
theorem t_e_Sleep_goTill_90 (ht : ∀ ci k, t.1 ci k = k_ty ci k) {n : Nat} {K31 : (Nat → Nat → Nat) → (Nat → Nat → Int32) → (Nat → Nat → Nat → Int32) → (Nat → Nat → Nat → Int64) → Int32 → Int32 → Int32 → Option (Unit × (Nat → Nat → Nat) × (Nat → Nat → Int32) × (Nat → Nat → Nat → Int32) × (Nat → Nat → Nat → Int64))} {K52 : (Nat → Nat → Nat) → (Nat → Nat → Int32) → (Nat → Nat → Nat → Int32) → (Nat → Nat → Nat → Int64) → Int32 → Int32 → Int32 → Int32 → Option (Unit × (Nat → Nat → Nat) × (Nat → Nat → Int32) × (Nat → Nat → Nat → Int32) × (Nat → Nat → Nat → Int64))} (hK31 : ∀ (P : Nat → Nat → Nat) (F : Nat → Nat → Int32) (A : Nat → Nat → Nat → Int32) (J : Nat → Nat → Nat → Int64) (x1 : Int32) (x4 : Int32) (x5 : Int32) (w : Unit × (Nat → Nat → Nat) × (Nat → Nat → Int32) × (Nat → Nat → Nat → Int32) × (Nat → Nat → Nat → Int64)), K31 P F A J x1 x4 x5 = some w → k_run t lg (d + 4) 75 31 [(0, .ref (36 * 1024)), (1, .int x1), (4, .int x4), (5, .int x5)] [] (c_h c B P F A J) (none, c_h c B w.2.1 w.2.2.1 w.2.2.2.1 w.2.2.2.2)) (hK52 : ∀ (P : Nat → Nat → Nat) (F : Nat → Nat → Int32) (A : Nat → Nat → Nat → Int32) (J : Nat → Nat → Nat → Int64) (x1 : Int32) (x4 : Int32) (x5 : Int32) (x6 : Int32) (w : Unit × (Nat → Nat → Nat) × (Nat → Nat → Int32) × (Nat → Nat → Nat → Int32) × (Nat → Nat → Nat → Int64)), K52 P F A J x1 x4 x5 x6 = some w → k_run t lg (d + 4) 75 52 [(0, .ref (36 * 1024)), (1, .int x1), (4, .int x4), (5, .int x5), (6, .int x6)] [] (c_h c B P F A J) (none, c_h c B w.2.1 w.2.2.1 w.2.2.2.1 w.2.2.2.2)) {P : Nat → Nat → Nat} {F : Nat → Nat → Int32} {A : Nat → Nat → Nat → Int32} {J : Nat → Nat → Nat → Int64} {x1 : Int32} {x4 : Int32} {x5 : Int32} {x6 : Int32}  {w : Unit × (Nat → Nat → Nat) × (Nat → Nat → Int32) × (Nat → Nat → Nat → Int32) × (Nat → Nat → Nat → Int64)} : e_Sleep_goTill_90 K31 K52 n P F A J x1 x4 x5 x6 = some w → k_run t lg (d + 4) 75 90 [(0, .ref (36 * 1024)), (1, .int x1), (4, .int x4), (5, .int x5), (6, .int x6)] [] (c_h c B P F A J) (none, c_h c B w.2.1 w.2.2.1 w.2.2.2.1 w.2.2.2.2) := by
  intro hD
  unfold e_Sleep_goTill_90 at hD
  refine k_runB (pc' := 52) (loc' := [(0, .ref (36 * 1024)), (1, .int x1), (4, .int x4), (5, .int x5), (6, .int (x6 + 1))]) (st' := []) 2 rfl ?_
  refine k_wk [0, 1, 4, 5, 6] (loc' := [(0, .ref (36 * 1024)), (1, .int x1), (4, .int x4), (5, .int x5), (6, .int (x6 + 1))]) rfl rfl ?_
  exact hK52 _ _ _ _ _ _ _ _ _  hD
def e_Sleep_goTill_52 (K31 : (Nat → Nat → Nat) → (Nat → Nat → Int32) → (Nat → Nat → Nat → Int32) → (Nat → Nat → Nat → Int64) → Int32 → Int32 → Int32 → Option (Unit × (Nat → Nat → Nat) × (Nat → Nat → Int32) × (Nat → Nat → Nat → Int32) × (Nat → Nat → Nat → Int64))) : Nat → (Nat → Nat → Nat) → (Nat → Nat → Int32) → (Nat → Nat → Nat → Int32) → (Nat → Nat → Nat → Int64) → Int32 → Int32 → Int32 → Int32 → Option (Unit × (Nat → Nat → Nat) × (Nat → Nat → Int32) × (Nat → Nat → Nat → Int32) × (Nat → Nat → Nat → Int64))
  | 0, _, _, _, _, _, _, _, _ => none
  | n + 1, P, F, A, J, x1, x4, x5, x6 => (c_chk 6 (P 36 8)).bind fun q26 =>
    cond (g_cnd .ge x6 (F q26 17))
    (e_Sleep_goTill_96 K31 n P F A J x1 x4 x5)
    (cond (g_cnd .ge x4 x1)
    (e_Sleep_goTill_96 K31 n P F A J x1 x4 x5)
    ((m_ld (A 36 3) 6 x6).bind fun v29 =>
    cond (g_cnd .ne v29 x4)
    (e_Sleep_goTill_90 K31 (e_Sleep_goTill_52 K31 n) n P F A J x1 x4 x5 x6)
    ((e_Sleep_begin n P F A J x6 x4).bind fun (_, P32, F33, A34, J35) =>
    (e_Sleep_goTill_52 K31 n) P32 F33 A34 J35 x1 x4 x5 (x6 + 1))))
set_option maxRecDepth 10000 in
theorem t_e_Sleep_goTill_52 (ht : ∀ ci k, t.1 ci k = k_ty ci k) {n : Nat} {K31 : (Nat → Nat → Nat) → (Nat → Nat → Int32) → (Nat → Nat → Nat → Int32) → (Nat → Nat → Nat → Int64) → Int32 → Int32 → Int32 → Option (Unit × (Nat → Nat → Nat) × (Nat → Nat → Int32) × (Nat → Nat → Nat → Int32) × (Nat → Nat → Nat → Int64))} (hK31 : ∀ (P : Nat → Nat → Nat) (F : Nat → Nat → Int32) (A : Nat → Nat → Nat → Int32) (J : Nat → Nat → Nat → Int64) (x1 : Int32) (x4 : Int32) (x5 : Int32) (w : Unit × (Nat → Nat → Nat) × (Nat → Nat → Int32) × (Nat → Nat → Nat → Int32) × (Nat → Nat → Nat → Int64)), K31 P F A J x1 x4 x5 = some w → k_run t lg (d + 4) 75 31 [(0, .ref (36 * 1024)), (1, .int x1), (4, .int x4), (5, .int x5)] [] (c_h c B P F A J) (none, c_h c B w.2.1 w.2.2.1 w.2.2.2.1 w.2.2.2.2)) {P : Nat → Nat → Nat} {F : Nat → Nat → Int32} {A : Nat → Nat → Nat → Int32} {J : Nat → Nat → Nat → Int64} {x1 : Int32} {x4 : Int32} {x5 : Int32} {x6 : Int32}  {w : Unit × (Nat → Nat → Nat) × (Nat → Nat → Int32) × (Nat → Nat → Nat → Int32) × (Nat → Nat → Nat → Int64)} : e_Sleep_goTill_52 K31 n P F A J x1 x4 x5 x6 = some w → k_run t lg (d + 4) 75 52 [(0, .ref (36 * 1024)), (1, .int x1), (4, .int x4), (5, .int x5), (6, .int x6)] [] (c_h c B P F A J) (none, c_h c B w.2.1 w.2.2.1 w.2.2.2.1 w.2.2.2.2) := by
  induction n generalizing P F A J x1 x4 x5 x6 w with
  | zero => intro hD; cases hD
  | succ n ih =>
    intro hD
    have hK52 : ∀ (P : Nat → Nat → Nat) (F : Nat → Nat → Int32) (A : Nat → Nat → Nat → Int32) (J : Nat → Nat → Nat → Int64) (x1 : Int32) (x4 : Int32) (x5 : Int32) (x6 : Int32) (w : Unit × (Nat → Nat → Nat) × (Nat → Nat → Int32) × (Nat → Nat → Nat → Int32) × (Nat → Nat → Nat → Int64)), e_Sleep_goTill_52 K31 n P F A J x1 x4 x5 x6 = some w → k_run t lg (d + 4) 75 52 [(0, .ref (36 * 1024)), (1, .int x1), (4, .int x4), (5, .int x5), (6, .int x6)] [] (c_h c B P F A J) (none, c_h c B w.2.1 w.2.2.1 w.2.2.2.1 w.2.2.2.2) := fun _ _ _ _ _ _ _ _ _  h => ih  h
    unfold e_Sleep_goTill_52 at hD
    refine k_runB (pc' := 55) (loc' := [(0, .ref (36 * 1024)), (1, .int x1), (4, .int x4), (5, .int x5), (6, .int x6)]) (st' := [.ref (36 * 1024), .int x6]) 2 rfl ?_
    obtain ⟨q26, hq26, hD⟩ := Option.bind_eq_some_iff.mp hD
    refine k_gq 36 0 (K := 10) (K2 := 6) (key := 8) rfl rfl rfl rfl rfl hq26 (fun kq26 => ?_)
    refine k_gf q26 0 (K := 6) kq26 rfl rfl rfl rfl ?_
    refine k_ic rfl (fun c61_26 => ?_) (fun c61_26 => ?_)
    · rw [c61_26, cond_true] at hD
      refine k_wk [0, 1, 4, 5] (loc' := [(0, .ref (36 * 1024)), (1, .int x1), (4, .int x4), (5, .int x5)]) rfl rfl ?_
      exact t_e_Sleep_goTill_96 ht hK31  hD
    · rw [c61_26, cond_false] at hD
      refine k_runB (pc' := 67) (loc' := [(0, .ref (36 * 1024)), (1, .int x1), (4, .int x4), (5, .int x5), (6, .int x6)]) (st' := [.int x1, .int x4]) 2 rfl ?_
      refine k_ic rfl (fun c67_27 => ?_) (fun c67_27 => ?_)
      · rw [c67_27, cond_true] at hD
        refine k_wk [0, 1, 4, 5] (loc' := [(0, .ref (36 * 1024)), (1, .int x1), (4, .int x4), (5, .int x5)]) rfl rfl ?_
        exact t_e_Sleep_goTill_96 ht hK31  hD
      · rw [c67_27, cond_false] at hD
        refine k_runB (pc' := 71) (loc' := [(0, .ref (36 * 1024)), (1, .int x1), (4, .int x4), (5, .int x5), (6, .int x6)]) (st' := [.ref (36 * 1024)]) 1 rfl ?_
        refine k_gf 36 0 (K := 10) rfl rfl rfl rfl rfl ?_
        refine k_runB (pc' := 76) (loc' := [(0, .ref (36 * 1024)), (1, .int x1), (4, .int x4), (5, .int x5), (6, .int x6)]) (st' := [.int x6, .ref (36 * 1024 + 3)]) 1 rfl ?_
        obtain ⟨v29, hv29, hD⟩ := Option.bind_eq_some_iff.mp hD
        refine k_ldI rfl (c_get (r := 36) (o := 3) (K := 10) rfl (by decide)) hv29 ?_
        refine k_runB (pc' := 79) (loc' := [(0, .ref (36 * 1024)), (1, .int x1), (4, .int x4), (5, .int x5), (6, .int x6)]) (st' := [.int x4, .int v29]) 1 rfl ?_
        refine k_ic rfl (fun c79_29 => ?_) (fun c79_29 => ?_)
        · rw [c79_29, cond_true] at hD
          refine k_wk [0, 1, 4, 5, 6] (loc' := [(0, .ref (36 * 1024)), (1, .int x1), (4, .int x4), (5, .int x5), (6, .int x6)]) rfl rfl ?_
          exact t_e_Sleep_goTill_90 ht hK31 hK52  hD
        · rw [c79_29, cond_false] at hD
          refine k_runB (pc' := 87) (loc' := [(0, .ref (36 * 1024)), (1, .int x1), (4, .int x4), (5, .int x5), (6, .int x6)]) (st' := [.int x4, .int x6, .ref (36 * 1024)]) 3 rfl ?_
          obtain ⟨⟨v31, P32, F33, A34, J35⟩, hv31, hD⟩ := Option.bind_eq_some_iff.mp hD
          dsimp only at hD
          refine k_runV rfl rfl rfl (c_get (r := 36) (o := 0) (K := 10) rfl (by decide)) rfl rfl (t_e_Sleep_begin (d := d) hv31) ?_
          refine k_runB (pc' := 52) (loc' := [(0, .ref (36 * 1024)), (1, .int x1), (4, .int x4), (5, .int x5), (6, .int (x6 + 1))]) (st' := []) 2 rfl ?_
          refine k_wk [0, 1, 4, 5, 6] (loc' := [(0, .ref (36 * 1024)), (1, .int x1), (4, .int x4), (5, .int x5), (6, .int (x6 + 1))]) rfl rfl ?_
          exact hK52 _ _ _ _ _ _ _ _ _  hD
def e_Sleep_goTill_31 : Nat → (Nat → Nat → Nat) → (Nat → Nat → Int32) → (Nat → Nat → Nat → Int32) → (Nat → Nat → Nat → Int64) → Int32 → Int32 → Int32 → Option (Unit × (Nat → Nat → Nat) × (Nat → Nat → Int32) × (Nat → Nat → Nat → Int32) × (Nat → Nat → Nat → Int64))
  | 0, _, _, _, _, _, _, _ => none
  | n + 1, P, F, A, J, x1, x4, x5 => cond (g_cnd .gt x5 x1)
    (e_Sleep_goTill_119 n P F A J)
    (cond (g_cnd .gt x4 x1)
    (e_Sleep_goTill_119 n P F A J)
    ((e_Sleep_finishAll n P F A J x4).bind fun (_, P17, F18, A19, J20) =>
    e_Sleep_goTill_52 (e_Sleep_goTill_31 n) n P17 F18 A19 J20 x1 x4 x5 0))
set_option maxRecDepth 10000 in
theorem t_e_Sleep_goTill_31 (ht : ∀ ci k, t.1 ci k = k_ty ci k) {n : Nat}  {P : Nat → Nat → Nat} {F : Nat → Nat → Int32} {A : Nat → Nat → Nat → Int32} {J : Nat → Nat → Nat → Int64} {x1 : Int32} {x4 : Int32} {x5 : Int32}  {w : Unit × (Nat → Nat → Nat) × (Nat → Nat → Int32) × (Nat → Nat → Nat → Int32) × (Nat → Nat → Nat → Int64)} : e_Sleep_goTill_31 n P F A J x1 x4 x5 = some w → k_run t lg (d + 4) 75 31 [(0, .ref (36 * 1024)), (1, .int x1), (4, .int x4), (5, .int x5)] [] (c_h c B P F A J) (none, c_h c B w.2.1 w.2.2.1 w.2.2.2.1 w.2.2.2.2) := by
  induction n generalizing P F A J x1 x4 x5 w with
  | zero => intro hD; cases hD
  | succ n ih =>
    intro hD
    have hK31 : ∀ (P : Nat → Nat → Nat) (F : Nat → Nat → Int32) (A : Nat → Nat → Nat → Int32) (J : Nat → Nat → Nat → Int64) (x1 : Int32) (x4 : Int32) (x5 : Int32) (w : Unit × (Nat → Nat → Nat) × (Nat → Nat → Int32) × (Nat → Nat → Nat → Int32) × (Nat → Nat → Nat → Int64)), e_Sleep_goTill_31 n P F A J x1 x4 x5 = some w → k_run t lg (d + 4) 75 31 [(0, .ref (36 * 1024)), (1, .int x1), (4, .int x4), (5, .int x5)] [] (c_h c B P F A J) (none, c_h c B w.2.1 w.2.2.1 w.2.2.2.1 w.2.2.2.2) := fun _ _ _ _ _ _ _ _  h => ih  h
    unfold e_Sleep_goTill_31 at hD
    refine k_runB (pc' := 34) (loc' := [(0, .ref (36 * 1024)), (1, .int x1), (4, .int x4), (5, .int x5)]) (st' := [.int x1, .int x5]) 2 rfl ?_
    refine k_ic rfl (fun c34_13 => ?_) (fun c34_13 => ?_)
    · rw [c34_13, cond_true] at hD
      refine k_wk [0] (loc' := [(0, .ref (36 * 1024))]) rfl rfl ?_
      exact t_e_Sleep_goTill_119 ht   hD
    · rw [c34_13, cond_false] at hD
      refine k_runB (pc' := 40) (loc' := [(0, .ref (36 * 1024)), (1, .int x1), (4, .int x4), (5, .int x5)]) (st' := [.int x1, .int x4]) 2 rfl ?_
      refine k_ic rfl (fun c40_14 => ?_) (fun c40_14 => ?_)
      · rw [c40_14, cond_true] at hD
        refine k_wk [0] (loc' := [(0, .ref (36 * 1024))]) rfl rfl ?_
        exact t_e_Sleep_goTill_119 ht   hD
      · rw [c40_14, cond_false] at hD
        refine k_runB (pc' := 46) (loc' := [(0, .ref (36 * 1024)), (1, .int x1), (4, .int x4), (5, .int x5)]) (st' := [.int x4, .ref (36 * 1024)]) 2 rfl ?_
        obtain ⟨⟨v16, P17, F18, A19, J20⟩, hv16, hD⟩ := Option.bind_eq_some_iff.mp hD
        dsimp only at hD
        refine k_runV rfl rfl rfl (c_get (r := 36) (o := 0) (K := 10) rfl (by decide)) rfl rfl (t_e_Sleep_finishAll (d := d + 2) hv16) ?_
        refine k_runB (pc' := 52) (loc' := [(0, .ref (36 * 1024)), (1, .int x1), (4, .int x4), (5, .int x5), (6, .int 0)]) (st' := []) 2 rfl ?_
        refine k_wk [0, 1, 4, 5, 6] (loc' := [(0, .ref (36 * 1024)), (1, .int x1), (4, .int x4), (5, .int x5), (6, .int 0)]) rfl rfl ?_
        exact t_e_Sleep_goTill_52 ht hK31  hD
/-- SleepWork$Sleep.goTill(ILSleepWork$House;LSleepWork$State;)V  -/
def e_Sleep_goTill (n : Nat) (P : Nat → Nat → Nat) (F : Nat → Nat → Int32) (A : Nat → Nat → Nat → Int32) (J : Nat → Nat → Nat → Int64) (x1 : Int32) (r2 : Nat) (r3 : Nat) : Option (Unit × (Nat → Nat → Nat) × (Nat → Nat → Int32) × (Nat → Nat → Nat → Int32) × (Nat → Nat → Nat → Int64)) :=
  (c_pp P 36 8 r2).bind fun P1 =>
  (c_pp P1 36 9 r3).bind fun P2 =>
  (c_fi A 36 8 6 0).bind fun A3 =>
  (e_Sleep_getUp n P2 F A3 J).bind fun (_, P5, F6, A7, J8) =>
  (e_Sleep_nextMinute n P5 F6 A7 J8).bind fun (v9, P10, F11, A12, J13) =>
  e_Sleep_goTill_31 n P10 F11 A12 J13 x1 v9 0
set_option maxRecDepth 10000 in
theorem t_e_Sleep_goTill (ht : ∀ ci k, t.1 ci k = k_ty ci k) {n : Nat} {P : Nat → Nat → Nat} {F : Nat → Nat → Int32} {A : Nat → Nat → Nat → Int32} {J : Nat → Nat → Nat → Int64} {x1 : Int32} {r2 : Nat} {r3 : Nat} (hr2 : c_kind r2 = 6) (hr3 : c_kind r3 = 2) {w : Unit × (Nat → Nat → Nat) × (Nat → Nat → Int32) × (Nat → Nat → Nat → Int32) × (Nat → Nat → Nat → Int64)} : e_Sleep_goTill n P F A J x1 r2 r3 = some w → k_run t lg (d + 4) 75 0 [(0, .ref (36 * 1024)), (1, .int x1), (2, .ref (r2 * 1024)), (3, .ref (r3 * 1024))] [] (c_h c B P F A J) (none, c_h c B w.2.1 w.2.2.1 w.2.2.2.1 w.2.2.2.2) := by
  intro hD
  unfold e_Sleep_goTill at hD
  refine k_runB (pc' := 2) (loc' := [(0, .ref (36 * 1024)), (1, .int x1), (2, .ref (r2 * 1024)), (3, .ref (r3 * 1024))]) (st' := [.ref (r2 * 1024), .ref (36 * 1024)]) 2 rfl ?_
  obtain ⟨P1, hP1, hD⟩ := Option.bind_eq_some_iff.mp hD
  refine k_cpp 36 0 (K := 10) (key := 8) (C := "SleepWork$House") (q := r2) rfl rfl (ht 6 8) rfl rfl rfl hP1 ?_
  refine k_runB (pc' := 7) (loc' := [(0, .ref (36 * 1024)), (1, .int x1), (2, .ref (r2 * 1024)), (3, .ref (r3 * 1024))]) (st' := [.ref (r3 * 1024), .ref (36 * 1024)]) 2 rfl ?_
  obtain ⟨P2, hP2, hD⟩ := Option.bind_eq_some_iff.mp hD
  refine k_cpp 36 0 (K := 10) (key := 9) (C := "SleepWork$State") (q := r3) rfl rfl (ht 6 9) rfl rfl rfl hP2 ?_
  refine k_runB (pc' := 11) (loc' := [(0, .ref (36 * 1024)), (1, .int x1), (2, .ref (r2 * 1024)), (3, .ref (r3 * 1024))]) (st' := [.ref (36 * 1024)]) 1 rfl ?_
  refine k_gf 36 0 (K := 10) rfl rfl rfl rfl rfl ?_
  refine k_runB (pc' := 15) (loc' := [(0, .ref (36 * 1024)), (1, .int x1), (2, .ref (r2 * 1024)), (3, .ref (r3 * 1024))]) (st' := [.int 0, .ref (36 * 1024 + 8)]) 1 rfl ?_
  obtain ⟨A3, hA3, hD⟩ := Option.bind_eq_some_iff.mp hD
  refine k_runC rfl rfl rfl rfl (t_fillI 36 8 (K := 10) (n := 6) rfl (fun _ => rfl) (fun _ _ => rfl) (by decide) hA3) ?_
  refine k_runB (pc' := 19) (loc' := [(0, .ref (36 * 1024)), (1, .int x1), (2, .ref (r2 * 1024)), (3, .ref (r3 * 1024))]) (st' := [.ref (36 * 1024)]) 1 rfl ?_
  obtain ⟨⟨v4, P5, F6, A7, J8⟩, hv4, hD⟩ := Option.bind_eq_some_iff.mp hD
  dsimp only at hD
  refine k_runV rfl rfl rfl (c_get (r := 36) (o := 0) (K := 10) rfl (by decide)) rfl rfl (t_e_Sleep_getUp (d := d) ht hv4) ?_
  refine k_runB (pc' := 23) (loc' := [(0, .ref (36 * 1024)), (1, .int x1), (2, .ref (r2 * 1024)), (3, .ref (r3 * 1024))]) (st' := [.ref (36 * 1024)]) 1 rfl ?_
  obtain ⟨⟨v9, P10, F11, A12, J13⟩, hv9, hD⟩ := Option.bind_eq_some_iff.mp hD
  dsimp only at hD
  refine k_runV rfl rfl rfl (c_get (r := 36) (o := 0) (K := 10) rfl (by decide)) rfl rfl (t_e_Sleep_nextMinute (d := d + 3) hv9) ?_
  refine k_runB (pc' := 31) (loc' := [(0, .ref (36 * 1024)), (1, .int x1), (2, .ref (r2 * 1024)), (3, .ref (r3 * 1024)), (4, .int v9), (5, .int 0)]) (st' := []) 3 rfl ?_
  refine k_wk [0, 1, 4, 5] (loc' := [(0, .ref (36 * 1024)), (1, .int x1), (4, .int v9), (5, .int 0)]) rfl rfl ?_
  exact t_e_Sleep_goTill_31 ht   hD
/-- SleepWork$Evening.goBy()V  -/
def e_Evening_goBy (n : Nat) (P : Nat → Nat → Nat) (F : Nat → Nat → Int32) (A : Nat → Nat → Nat → Int32) (J : Nat → Nat → Nat → Int64) : Option (Unit × (Nat → Nat → Nat) × (Nat → Nat → Int32) × (Nat → Nat → Nat → Int32) × (Nat → Nat → Nat → Int64)) :=
  (c_chk 6 (P 32 4)).bind fun q1 =>
  (c_chk 6 (P 32 4)).bind fun q2 =>
  (e_Sleep_goTill n P F A J (F q1 18) q2 2).bind fun (_, P4, F5, A6, J7) =>
  (c_pf F5 2 8 ((F5 2 8) + 1)).bind fun F8 =>
  (e_Evening_setStale P4 F8 A6 J7).bind fun (_, P10, F11, A12, J13) =>
  some ((), P10, F11, A12, J13)
set_option maxRecDepth 10000 in
theorem t_e_Evening_goBy (ht : ∀ ci k, t.1 ci k = k_ty ci k) {n : Nat} {P : Nat → Nat → Nat} {F : Nat → Nat → Int32} {A : Nat → Nat → Nat → Int32} {J : Nat → Nat → Nat → Int64}   {w : Unit × (Nat → Nat → Nat) × (Nat → Nat → Int32) × (Nat → Nat → Nat → Int32) × (Nat → Nat → Nat → Int64)} : e_Evening_goBy n P F A J = some w → k_run t lg (d + 5) 4 0 [(0, .ref (32 * 1024))] [] (c_h c B P F A J) (none, c_h c B w.2.1 w.2.2.1 w.2.2.2.1 w.2.2.2.2) := by
  intro hD
  unfold e_Evening_goBy at hD
  refine k_runB (pc' := 1) (loc' := [(0, .ref (32 * 1024))]) (st' := [.ref (32 * 1024)]) 1 rfl ?_
  refine k_gf 32 0 (K := 7) rfl rfl rfl rfl rfl ?_
  refine k_runB (pc' := 5) (loc' := [(0, .ref (32 * 1024))]) (st' := [.ref (32 * 1024), .ref (36 * 1024)]) 1 rfl ?_
  obtain ⟨q1, hq1, hD⟩ := Option.bind_eq_some_iff.mp hD
  refine k_gq 32 0 (K := 7) (K2 := 6) (key := 4) rfl rfl rfl rfl rfl hq1 (fun kq1 => ?_)
  refine k_gf q1 0 (K := 6) kq1 rfl rfl rfl rfl ?_
  refine k_runB (pc' := 12) (loc' := [(0, .ref (32 * 1024))]) (st' := [.ref (32 * 1024), .int (F q1 18), .ref (36 * 1024)]) 1 rfl ?_
  obtain ⟨q2, hq2, hD⟩ := Option.bind_eq_some_iff.mp hD
  refine k_gq 32 0 (K := 7) (K2 := 6) (key := 4) rfl rfl rfl rfl rfl hq2 (fun kq2 => ?_)
  refine k_runB (pc' := 16) (loc' := [(0, .ref (32 * 1024))]) (st' := [.ref (32 * 1024), .ref (q2 * 1024), .int (F q1 18), .ref (36 * 1024)]) 1 rfl ?_
  refine k_gf 32 0 (K := 7) rfl rfl rfl rfl rfl ?_
  obtain ⟨⟨v3, P4, F5, A6, J7⟩, hv3, hD⟩ := Option.bind_eq_some_iff.mp hD
  dsimp only at hD
  refine k_runV rfl rfl rfl (c_get (r := 36) (o := 0) (K := 10) rfl (by decide)) rfl rfl (t_e_Sleep_goTill (d := d) ht kq2 rfl hv3) ?_
  refine k_runB (pc' := 23) (loc' := [(0, .ref (32 * 1024))]) (st' := [.ref (32 * 1024)]) 1 rfl ?_
  refine k_gf 32 0 (K := 7) rfl rfl rfl rfl rfl ?_
  refine k_runB (pc' := 27) (loc' := [(0, .ref (32 * 1024))]) (st' := [.ref (2 * 1024), .ref (2 * 1024)]) 1 rfl ?_
  refine k_gf 2 0 (K := 2) rfl rfl rfl rfl rfl ?_
  refine k_runB (pc' := 32) (loc' := [(0, .ref (32 * 1024))]) (st' := [.int ((F5 2 8) + 1), .ref (2 * 1024)]) 2 rfl ?_
  obtain ⟨F8, hF8, hD⟩ := Option.bind_eq_some_iff.mp hD
  refine k_cpt 2 0 (K := 2) (key := 8) rfl rfl (ht 7 8) rfl rfl rfl hF8 ?_
  refine k_runB (pc' := 36) (loc' := [(0, .ref (32 * 1024))]) (st' := [.ref (32 * 1024)]) 1 rfl ?_
  obtain ⟨⟨v9, P10, F11, A12, J13⟩, hv9, hD⟩ := Option.bind_eq_some_iff.mp hD
  dsimp only at hD
  refine k_runV rfl rfl rfl (c_get (r := 32) (o := 0) (K := 7) rfl (by decide)) rfl rfl (t_e_Evening_setStale (d := d + 4) ht hv9) ?_
  cases hD
  exact k_vret rfl rfl
end MC
