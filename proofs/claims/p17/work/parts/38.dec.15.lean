/-! the class's methods as functions (printed by wip/dec2.py) -/
section MC
variable {t : gT} {lg : Nat → Nat} {d : Nat} {c : Nat × Nat} {B : Nat → List gE}
/-- SleepWork.isTool(I)Z  -/
def e_SleepWork_isTool (P : Nat → Nat → Nat) (F : Nat → Nat → Int32) (A : Nat → Nat → Nat → Int32) (J : Nat → Nat → Nat → Int64) (x1 : Int32) : Option (Int32) :=
  cond (g_cnd .lt x1 0)
  (some (0))
  ((c_chk 6 (P 0 8)).bind fun q2 =>
  cond (g_cnd .ge x1 (F q2 15))
  (some (0))
  (some (1)))
set_option maxRecDepth 10000 in
theorem t_e_SleepWork_isTool {P : Nat → Nat → Nat} {F : Nat → Nat → Int32} {A : Nat → Nat → Nat → Int32} {J : Nat → Nat → Nat → Int64} {x1 : Int32}  {w : Int32} : e_SleepWork_isTool P F A J x1 = some w → k_run t lg (d) 108 0 [(0, .ref (0 * 1024)), (1, .int x1)] [] (c_h c B P F A J) (some (.int w), c_h c B P F A J) := by
  intro hD
  unfold e_SleepWork_isTool at hD
  refine k_runB (pc' := 1) (loc' := [(0, .ref (0 * 1024)), (1, .int x1)]) (st' := [.int x1]) 1 rfl ?_
  refine k_if rfl (fun c1_0 => ?_) (fun c1_0 => ?_)
  · rw [c1_0, cond_true] at hD
    refine k_runB (pc' := 20) (loc' := [(0, .ref (0 * 1024)), (1, .int x1)]) (st' := [.int 0]) 1 rfl ?_
    cases hD
    exact k_zret rfl rfl (Or.inl rfl)
  · rw [c1_0, cond_false] at hD
    refine k_runB (pc' := 6) (loc' := [(0, .ref (0 * 1024)), (1, .int x1)]) (st' := [.ref (0 * 1024), .int x1]) 2 rfl ?_
    obtain ⟨q2, hq2, hD⟩ := Option.bind_eq_some_iff.mp hD
    refine k_gq 0 0 (K := 0) (K2 := 6) (key := 8) rfl rfl rfl rfl rfl hq2 (fun kq2 => ?_)
    refine k_gf q2 0 (K := 6) kq2 rfl rfl rfl rfl ?_
    refine k_ic rfl (fun c12_2 => ?_) (fun c12_2 => ?_)
    · rw [c12_2, cond_true] at hD
      refine k_runB (pc' := 20) (loc' := [(0, .ref (0 * 1024)), (1, .int x1)]) (st' := [.int 0]) 1 rfl ?_
      cases hD
      exact k_zret rfl rfl (Or.inl rfl)
    · rw [c12_2, cond_false] at hD
      refine k_runB (pc' := 20) (loc' := [(0, .ref (0 * 1024)), (1, .int x1)]) (st' := [.int 1]) 2 rfl ?_
      cases hD
      exact k_zret rfl rfl (Or.inr rfl)
/-- SleepWork.isRoom(I)Z  -/
def e_SleepWork_isRoom (P : Nat → Nat → Nat) (F : Nat → Nat → Int32) (A : Nat → Nat → Nat → Int32) (J : Nat → Nat → Nat → Int64) (x1 : Int32) : Option (Int32) :=
  cond (g_cnd .lt x1 0)
  (some (0))
  ((c_chk 6 (P 0 8)).bind fun q2 =>
  cond (g_cnd .ge x1 (F q2 13))
  (some (0))
  (some (1)))
set_option maxRecDepth 10000 in
theorem t_e_SleepWork_isRoom {P : Nat → Nat → Nat} {F : Nat → Nat → Int32} {A : Nat → Nat → Nat → Int32} {J : Nat → Nat → Nat → Int64} {x1 : Int32}  {w : Int32} : e_SleepWork_isRoom P F A J x1 = some w → k_run t lg (d) 109 0 [(0, .ref (0 * 1024)), (1, .int x1)] [] (c_h c B P F A J) (some (.int w), c_h c B P F A J) := by
  intro hD
  unfold e_SleepWork_isRoom at hD
  refine k_runB (pc' := 1) (loc' := [(0, .ref (0 * 1024)), (1, .int x1)]) (st' := [.int x1]) 1 rfl ?_
  refine k_if rfl (fun c1_0 => ?_) (fun c1_0 => ?_)
  · rw [c1_0, cond_true] at hD
    refine k_runB (pc' := 20) (loc' := [(0, .ref (0 * 1024)), (1, .int x1)]) (st' := [.int 0]) 1 rfl ?_
    cases hD
    exact k_zret rfl rfl (Or.inl rfl)
  · rw [c1_0, cond_false] at hD
    refine k_runB (pc' := 6) (loc' := [(0, .ref (0 * 1024)), (1, .int x1)]) (st' := [.ref (0 * 1024), .int x1]) 2 rfl ?_
    obtain ⟨q2, hq2, hD⟩ := Option.bind_eq_some_iff.mp hD
    refine k_gq 0 0 (K := 0) (K2 := 6) (key := 8) rfl rfl rfl rfl rfl hq2 (fun kq2 => ?_)
    refine k_gf q2 0 (K := 6) kq2 rfl rfl rfl rfl ?_
    refine k_ic rfl (fun c12_2 => ?_) (fun c12_2 => ?_)
    · rw [c12_2, cond_true] at hD
      refine k_runB (pc' := 20) (loc' := [(0, .ref (0 * 1024)), (1, .int x1)]) (st' := [.int 0]) 1 rfl ?_
      cases hD
      exact k_zret rfl rfl (Or.inl rfl)
    · rw [c12_2, cond_false] at hD
      refine k_runB (pc' := 20) (loc' := [(0, .ref (0 * 1024)), (1, .int x1)]) (st' := [.int 1]) 2 rfl ?_
      cases hD
      exact k_zret rfl rfl (Or.inr rfl)
/-- SleepWork.areTwoMen(II)Z  -/
def e_SleepWork_areTwoMen (P : Nat → Nat → Nat) (F : Nat → Nat → Int32) (A : Nat → Nat → Nat → Int32) (J : Nat → Nat → Nat → Int64) (x1 : Int32) (x2 : Int32) : Option (Int32) :=
  (e_SleepWork_isMan P F A J x1).bind fun v1 =>
  cond (g_cnd .eq v1 0)
  (some (0))
  ((e_SleepWork_isMan P F A J x2).bind fun v3 =>
  cond (g_cnd .eq v3 0)
  (some (0))
  (cond (g_cnd .eq x1 x2)
  (some (0))
  (some (1))))
set_option maxRecDepth 10000 in
theorem t_e_SleepWork_areTwoMen {P : Nat → Nat → Nat} {F : Nat → Nat → Int32} {A : Nat → Nat → Nat → Int32} {J : Nat → Nat → Nat → Int64} {x1 : Int32} {x2 : Int32}  {w : Int32} : e_SleepWork_areTwoMen P F A J x1 x2 = some w → k_run t lg (d + 1) 110 0 [(0, .ref (0 * 1024)), (1, .int x1), (2, .int x2)] [] (c_h c B P F A J) (some (.int w), c_h c B P F A J) := by
  intro hD
  unfold e_SleepWork_areTwoMen at hD
  refine k_runB (pc' := 2) (loc' := [(0, .ref (0 * 1024)), (1, .int x1), (2, .int x2)]) (st' := [.int x1, .ref (0 * 1024)]) 2 rfl ?_
  obtain ⟨v1, hv1, hD⟩ := Option.bind_eq_some_iff.mp hD
  refine k_runV rfl rfl rfl (c_get (r := 0) (o := 0) (K := 0) rfl (by decide)) rfl rfl (t_e_SleepWork_isMan (d := d) hv1) ?_
  refine k_if rfl (fun c5_1 => ?_) (fun c5_1 => ?_)
  · rw [c5_1, cond_true] at hD
    refine k_runB (pc' := 26) (loc' := [(0, .ref (0 * 1024)), (1, .int x1), (2, .int x2)]) (st' := [.int 0]) 1 rfl ?_
    cases hD
    exact k_zret rfl rfl (Or.inl rfl)
  · rw [c5_1, cond_false] at hD
    refine k_runB (pc' := 10) (loc' := [(0, .ref (0 * 1024)), (1, .int x1), (2, .int x2)]) (st' := [.int x2, .ref (0 * 1024)]) 2 rfl ?_
    obtain ⟨v3, hv3, hD⟩ := Option.bind_eq_some_iff.mp hD
    refine k_runV rfl rfl rfl (c_get (r := 0) (o := 0) (K := 0) rfl (by decide)) rfl rfl (t_e_SleepWork_isMan (d := d) hv3) ?_
    refine k_if rfl (fun c13_3 => ?_) (fun c13_3 => ?_)
    · rw [c13_3, cond_true] at hD
      refine k_runB (pc' := 26) (loc' := [(0, .ref (0 * 1024)), (1, .int x1), (2, .int x2)]) (st' := [.int 0]) 1 rfl ?_
      cases hD
      exact k_zret rfl rfl (Or.inl rfl)
    · rw [c13_3, cond_false] at hD
      refine k_runB (pc' := 18) (loc' := [(0, .ref (0 * 1024)), (1, .int x1), (2, .int x2)]) (st' := [.int x2, .int x1]) 2 rfl ?_
      refine k_ic rfl (fun c18_4 => ?_) (fun c18_4 => ?_)
      · rw [c18_4, cond_true] at hD
        refine k_runB (pc' := 26) (loc' := [(0, .ref (0 * 1024)), (1, .int x1), (2, .int x2)]) (st' := [.int 0]) 1 rfl ?_
        cases hD
        exact k_zret rfl rfl (Or.inl rfl)
      · rw [c18_4, cond_false] at hD
        refine k_runB (pc' := 26) (loc' := [(0, .ref (0 * 1024)), (1, .int x1), (2, .int x2)]) (st' := [.int 1]) 2 rfl ?_
        cases hD
        exact k_zret rfl rfl (Or.inr rfl)
/-- SleepWork.isKnownBy(I)Z  -/
def e_SleepWork_isKnownBy (P : Nat → Nat → Nat) (F : Nat → Nat → Int32) (A : Nat → Nat → Nat → Int32) (J : Nat → Nat → Nat → Int64) (x1 : Int32) : Option (Int32) :=
  cond (g_cnd .lt x1 0)
  (some (0))
  (cond (g_cnd .gt x1 (F 25 2))
  (some (0))
  (some (1)))
set_option maxRecDepth 10000 in
theorem t_e_SleepWork_isKnownBy {P : Nat → Nat → Nat} {F : Nat → Nat → Int32} {A : Nat → Nat → Nat → Int32} {J : Nat → Nat → Nat → Int64} {x1 : Int32}  {w : Int32} : e_SleepWork_isKnownBy P F A J x1 = some w → k_run t lg (d) 111 0 [(0, .ref (0 * 1024)), (1, .int x1)] [] (c_h c B P F A J) (some (.int w), c_h c B P F A J) := by
  intro hD
  unfold e_SleepWork_isKnownBy at hD
  refine k_runB (pc' := 1) (loc' := [(0, .ref (0 * 1024)), (1, .int x1)]) (st' := [.int x1]) 1 rfl ?_
  refine k_if rfl (fun c1_0 => ?_) (fun c1_0 => ?_)
  · rw [c1_0, cond_true] at hD
    refine k_runB (pc' := 20) (loc' := [(0, .ref (0 * 1024)), (1, .int x1)]) (st' := [.int 0]) 1 rfl ?_
    cases hD
    exact k_zret rfl rfl (Or.inl rfl)
  · rw [c1_0, cond_false] at hD
    refine k_runB (pc' := 6) (loc' := [(0, .ref (0 * 1024)), (1, .int x1)]) (st' := [.ref (0 * 1024), .int x1]) 2 rfl ?_
    refine k_gf 0 0 (K := 0) rfl rfl rfl rfl rfl ?_
    refine k_gf 25 0 (K := 4) rfl rfl rfl rfl rfl ?_
    refine k_ic rfl (fun c12_1 => ?_) (fun c12_1 => ?_)
    · rw [c12_1, cond_true] at hD
      refine k_runB (pc' := 20) (loc' := [(0, .ref (0 * 1024)), (1, .int x1)]) (st' := [.int 0]) 1 rfl ?_
      cases hD
      exact k_zret rfl rfl (Or.inl rfl)
    · rw [c12_1, cond_false] at hD
      refine k_runB (pc' := 20) (loc' := [(0, .ref (0 * 1024)), (1, .int x1)]) (st' := [.int 1]) 2 rfl ?_
      cases hD
      exact k_zret rfl rfl (Or.inr rfl)
/-- SleepWork.tool(I)I  -/
def e_SleepWork_tool (P : Nat → Nat → Nat) (F : Nat → Nat → Int32) (A : Nat → Nat → Nat → Int32) (J : Nat → Nat → Nat → Int64) (x1 : Int32) : Option (Int32) :=
  (e_SleepWork_isTool P F A J x1).bind fun v1 =>
  cond (g_cnd .eq v1 0)
  (some ((-1)))
  ((m_ld (A 2 4) 6 x1).bind fun v3 =>
  some (v3))
set_option maxRecDepth 10000 in
theorem t_e_SleepWork_tool {P : Nat → Nat → Nat} {F : Nat → Nat → Int32} {A : Nat → Nat → Nat → Int32} {J : Nat → Nat → Nat → Int64} {x1 : Int32}  {w : Int32} : e_SleepWork_tool P F A J x1 = some w → k_run t lg (d + 1) 112 0 [(0, .ref (0 * 1024)), (1, .int x1)] [] (c_h c B P F A J) (some (.int w), c_h c B P F A J) := by
  intro hD
  unfold e_SleepWork_tool at hD
  refine k_runB (pc' := 2) (loc' := [(0, .ref (0 * 1024)), (1, .int x1)]) (st' := [.int x1, .ref (0 * 1024)]) 2 rfl ?_
  obtain ⟨v1, hv1, hD⟩ := Option.bind_eq_some_iff.mp hD
  refine k_runV rfl rfl rfl (c_get (r := 0) (o := 0) (K := 0) rfl (by decide)) rfl rfl (t_e_SleepWork_isTool (d := d) hv1) ?_
  refine k_if rfl (fun c5_1 => ?_) (fun c5_1 => ?_)
  · rw [c5_1, cond_true] at hD
    refine k_runB (pc' := 21) (loc' := [(0, .ref (0 * 1024)), (1, .int x1)]) (st' := [.int ((-1))]) 1 rfl ?_
    cases hD
    exact k_iret rfl rfl
  · rw [c5_1, cond_false] at hD
    refine k_runB (pc' := 9) (loc' := [(0, .ref (0 * 1024)), (1, .int x1)]) (st' := [.ref (0 * 1024)]) 1 rfl ?_
    refine k_gf 0 0 (K := 0) rfl rfl rfl rfl rfl ?_
    refine k_gf 2 0 (K := 2) rfl rfl rfl rfl rfl ?_
    refine k_runB (pc' := 16) (loc' := [(0, .ref (0 * 1024)), (1, .int x1)]) (st' := [.int x1, .ref (2 * 1024 + 4)]) 1 rfl ?_
    obtain ⟨v3, hv3, hD⟩ := Option.bind_eq_some_iff.mp hD
    refine k_ldI rfl (c_get (r := 2) (o := 4) (K := 2) rfl (by decide)) hv3 ?_
    refine k_runB (pc' := 21) (loc' := [(0, .ref (0 * 1024)), (1, .int x1)]) (st' := [.int v3]) 1 rfl ?_
    cases hD
    exact k_iret rfl rfl
/-- SleepWork.way(II)I  -/
def e_SleepWork_way (n : Nat) (P : Nat → Nat → Nat) (F : Nat → Nat → Int32) (A : Nat → Nat → Nat → Int32) (J : Nat → Nat → Nat → Int64) (x1 : Int32) (x2 : Int32) : Option (Int32 × (Nat → Nat → Nat) × (Nat → Nat → Int32) × (Nat → Nat → Nat → Int32) × (Nat → Nat → Nat → Int64)) :=
  (e_SleepWork_isRoom P F A J x1).bind fun v1 =>
  cond (g_cnd .eq v1 0)
  (some ((-1), P, F, A, J))
  ((e_SleepWork_isRoom P F A J x2).bind fun v3 =>
  cond (g_cnd .ne v3 0)
  ((e_Evening_minutesBetween n P F A J x1 x2).bind fun (v5, P6, F7, A8, J9) =>
  cond (g_cnd .lt v5 1000000)
  (some (v5, P6, F7, A8, J9))
  (some ((-2), P6, F7, A8, J9)))
  (some ((-1), P, F, A, J)))
set_option maxRecDepth 10000 in
theorem t_e_SleepWork_way (ht : ∀ ci k, t.1 ci k = k_ty ci k) {n : Nat} {P : Nat → Nat → Nat} {F : Nat → Nat → Int32} {A : Nat → Nat → Nat → Int32} {J : Nat → Nat → Nat → Int64} {x1 : Int32} {x2 : Int32}  {w : Int32 × (Nat → Nat → Nat) × (Nat → Nat → Int32) × (Nat → Nat → Nat → Int32) × (Nat → Nat → Nat → Int64)} : e_SleepWork_way n P F A J x1 x2 = some w → k_run t lg (d + 4) 113 0 [(0, .ref (0 * 1024)), (1, .int x1), (2, .int x2)] [] (c_h c B P F A J) (some (.int w.1), c_h c B w.2.1 w.2.2.1 w.2.2.2.1 w.2.2.2.2) := by
  intro hD
  unfold e_SleepWork_way at hD
  refine k_runB (pc' := 2) (loc' := [(0, .ref (0 * 1024)), (1, .int x1), (2, .int x2)]) (st' := [.int x1, .ref (0 * 1024)]) 2 rfl ?_
  obtain ⟨v1, hv1, hD⟩ := Option.bind_eq_some_iff.mp hD
  refine k_runV rfl rfl rfl (c_get (r := 0) (o := 0) (K := 0) rfl (by decide)) rfl rfl (t_e_SleepWork_isRoom (d := d + 3) hv1) ?_
  refine k_if rfl (fun c5_1 => ?_) (fun c5_1 => ?_)
  · rw [c5_1, cond_true] at hD
    refine k_runB (pc' := 17) (loc' := [(0, .ref (0 * 1024)), (1, .int x1), (2, .int x2)]) (st' := [.int ((-1))]) 1 rfl ?_
    cases hD
    exact k_iret rfl rfl
  · rw [c5_1, cond_false] at hD
    refine k_runB (pc' := 10) (loc' := [(0, .ref (0 * 1024)), (1, .int x1), (2, .int x2)]) (st' := [.int x2, .ref (0 * 1024)]) 2 rfl ?_
    obtain ⟨v3, hv3, hD⟩ := Option.bind_eq_some_iff.mp hD
    refine k_runV rfl rfl rfl (c_get (r := 0) (o := 0) (K := 0) rfl (by decide)) rfl rfl (t_e_SleepWork_isRoom (d := d + 3) hv3) ?_
    refine k_if rfl (fun c13_3 => ?_) (fun c13_3 => ?_)
    · rw [c13_3, cond_true] at hD
      refine k_runB (pc' := 19) (loc' := [(0, .ref (0 * 1024)), (1, .int x1), (2, .int x2)]) (st' := [.ref (0 * 1024)]) 1 rfl ?_
      refine k_gf 0 0 (K := 0) rfl rfl rfl rfl rfl ?_
      refine k_runB (pc' := 24) (loc' := [(0, .ref (0 * 1024)), (1, .int x1), (2, .int x2)]) (st' := [.int x2, .int x1, .ref (32 * 1024)]) 2 rfl ?_
      obtain ⟨⟨v5, P6, F7, A8, J9⟩, hv5, hD⟩ := Option.bind_eq_some_iff.mp hD
      dsimp only at hD
      refine k_runV rfl rfl rfl (c_get (r := 32) (o := 0) (K := 7) rfl (by decide)) rfl rfl (t_e_Evening_minutesBetween (d := d) ht hv5) ?_
      refine k_runB (pc' := 31) (loc' := [(0, .ref (0 * 1024)), (1, .int x1), (2, .int x2), (3, .int v5)]) (st' := [.int 1000000, .int v5]) 3 rfl ?_
      refine k_ic rfl (fun c31_9 => ?_) (fun c31_9 => ?_)
      · rw [c31_9, cond_true] at hD
        refine k_runB (pc' := 40) (loc' := [(0, .ref (0 * 1024)), (1, .int x1), (2, .int x2), (3, .int v5)]) (st' := [.int v5]) 1 rfl ?_
        cases hD
        exact k_iret rfl rfl
      · rw [c31_9, cond_false] at hD
        refine k_runB (pc' := 40) (loc' := [(0, .ref (0 * 1024)), (1, .int x1), (2, .int x2), (3, .int v5)]) (st' := [.int ((-2))]) 2 rfl ?_
        cases hD
        exact k_iret rfl rfl
    · rw [c13_3, cond_false] at hD
      refine k_runB (pc' := 17) (loc' := [(0, .ref (0 * 1024)), (1, .int x1), (2, .int x2)]) (st' := [.int ((-1))]) 1 rfl ?_
      cases hD
      exact k_iret rfl rfl
def e_SleepWork_leave_69 (P : Nat → Nat → Nat) (F : Nat → Nat → Int32) (A : Nat → Nat → Nat → Int32) (J : Nat → Nat → Nat → Int64) (s1 : Int32) (s2 : Int32) : Option (Int32 × (Nat → Nat → Nat) × (Nat → Nat → Int32) × (Nat → Nat → Nat → Int32) × (Nat → Nat → Nat → Int64)) :=
    (c_st A 2 3 6 s1 s2).bind fun A10 =>
    (e_Evening_setStale P F A10 J).bind fun (_, P12, F13, A14, J15) =>
    some (1, P12, F13, A14, J15)
set_option maxRecDepth 10000 in
theorem t_e_SleepWork_leave_69 (ht : ∀ ci k, t.1 ci k = k_ty ci k)  {P : Nat → Nat → Nat} {F : Nat → Nat → Int32} {A : Nat → Nat → Nat → Int32} {J : Nat → Nat → Nat → Int64} {s1 : Int32} {s2 : Int32}  {w : Int32 × (Nat → Nat → Nat) × (Nat → Nat → Int32) × (Nat → Nat → Nat → Int32) × (Nat → Nat → Nat → Int64)} : e_SleepWork_leave_69 P F A J s1 s2 = some w → k_run t lg (d + 1) 114 69 [(0, .ref (0 * 1024))] [.int s2, .int s1, .ref (2 * 1024 + 3)] (c_h c B P F A J) (some (.int w.1), c_h c B w.2.1 w.2.2.1 w.2.2.2.1 w.2.2.2.2) := by
  intro hD
  unfold e_SleepWork_leave_69 at hD
  obtain ⟨A10, hA10, hD⟩ := Option.bind_eq_some_iff.mp hD
  refine k_cstI 2 3 (K := 2) rfl rfl rfl rfl (fun _ => rfl) hA10 ?_
  refine k_runB (pc' := 71) (loc' := [(0, .ref (0 * 1024))]) (st' := [.ref (0 * 1024)]) 1 rfl ?_
  refine k_gf 0 0 (K := 0) rfl rfl rfl rfl rfl ?_
  obtain ⟨⟨v11, P12, F13, A14, J15⟩, hv11, hD⟩ := Option.bind_eq_some_iff.mp hD
  dsimp only at hD
  refine k_runV rfl rfl rfl (c_get (r := 32) (o := 0) (K := 7) rfl (by decide)) rfl rfl (t_e_Evening_setStale (d := d) ht hv11) ?_
  refine k_runB (pc' := 78) (loc' := [(0, .ref (0 * 1024))]) (st' := [.int 1]) 1 rfl ?_
  cases hD
  exact k_zret rfl rfl (Or.inr rfl)
def e_SleepWork_leave_46 (P : Nat → Nat → Nat) (F : Nat → Nat → Int32) (A : Nat → Nat → Nat → Int32) (J : Nat → Nat → Nat → Int64) (x1 : Int32) (x2 : Int32) (x3 : Int32) (x4 : Int32) : Option (Int32 × (Nat → Nat → Nat) × (Nat → Nat → Int32) × (Nat → Nat → Nat → Int32) × (Nat → Nat → Nat → Int64)) :=
    cond (g_cnd .eq x4 0)
    (e_SleepWork_leave_69 P F A J x1 ((x2 * 6) + x3))
    (e_SleepWork_leave_69 P F A J x1 ((-1)))
set_option maxRecDepth 10000 in
theorem t_e_SleepWork_leave_46 (ht : ∀ ci k, t.1 ci k = k_ty ci k)  {P : Nat → Nat → Nat} {F : Nat → Nat → Int32} {A : Nat → Nat → Nat → Int32} {J : Nat → Nat → Nat → Int64} {x1 : Int32} {x2 : Int32} {x3 : Int32} {x4 : Int32}  {w : Int32 × (Nat → Nat → Nat) × (Nat → Nat → Int32) × (Nat → Nat → Nat → Int32) × (Nat → Nat → Nat → Int64)} : e_SleepWork_leave_46 P F A J x1 x2 x3 x4 = some w → k_run t lg (d + 1) 114 46 [(0, .ref (0 * 1024)), (1, .int x1), (2, .int x2), (3, .int x3), (4, .int x4)] [] (c_h c B P F A J) (some (.int w.1), c_h c B w.2.1 w.2.2.1 w.2.2.2.1 w.2.2.2.2) := by
  intro hD
  unfold e_SleepWork_leave_46 at hD
  refine k_runB (pc' := 47) (loc' := [(0, .ref (0 * 1024)), (1, .int x1), (2, .int x2), (3, .int x3), (4, .int x4)]) (st' := [.ref (0 * 1024)]) 1 rfl ?_
  refine k_gf 0 0 (K := 0) rfl rfl rfl rfl rfl ?_
  refine k_gf 2 0 (K := 2) rfl rfl rfl rfl rfl ?_
  refine k_runB (pc' := 56) (loc' := [(0, .ref (0 * 1024)), (1, .int x1), (2, .int x2), (3, .int x3), (4, .int x4)]) (st' := [.int x4, .int x1, .ref (2 * 1024 + 3)]) 2 rfl ?_
  refine k_if rfl (fun c56_8 => ?_) (fun c56_8 => ?_)
  · rw [c56_8, cond_true] at hD
    refine k_runB (pc' := 69) (loc' := [(0, .ref (0 * 1024)), (1, .int x1), (2, .int x2), (3, .int x3), (4, .int x4)]) (st' := [.int ((x2 * 6) + x3), .int x1, .ref (2 * 1024 + 3)]) 5 rfl ?_
    refine k_wk [0] (loc' := [(0, .ref (0 * 1024))]) rfl rfl ?_
    exact t_e_SleepWork_leave_69 ht   hD
  · rw [c56_8, cond_false] at hD
    refine k_runB (pc' := 69) (loc' := [(0, .ref (0 * 1024)), (1, .int x1), (2, .int x2), (3, .int x3), (4, .int x4)]) (st' := [.int ((-1)), .int x1, .ref (2 * 1024 + 3)]) 2 rfl ?_
    refine k_wk [0] (loc' := [(0, .ref (0 * 1024))]) rfl rfl ?_
    exact t_e_SleepWork_leave_69 ht   hD
def e_SleepWork_leave_25 (P : Nat → Nat → Nat) (F : Nat → Nat → Int32) (A : Nat → Nat → Nat → Int32) (J : Nat → Nat → Nat → Int64) (x1 : Int32) (x2 : Int32) (x3 : Int32) (s0 : Int32) : Option (Int32 × (Nat → Nat → Nat) × (Nat → Nat → Int32) × (Nat → Nat → Nat → Int32) × (Nat → Nat → Nat → Int64)) :=
    cond (g_cnd .ne s0 0)
    (e_SleepWork_leave_46 P F A J x1 x2 x3 s0)
    ((c_chk 6 (P 0 8)).bind fun q6 =>
    (e_House_hasStep P F A J q6 x2 x3).bind fun v7 =>
    cond (g_cnd .ne v7 0)
    (e_SleepWork_leave_46 P F A J x1 x2 x3 s0)
    (some (0, P, F, A, J)))
set_option maxRecDepth 10000 in
theorem t_e_SleepWork_leave_25 (ht : ∀ ci k, t.1 ci k = k_ty ci k)  {P : Nat → Nat → Nat} {F : Nat → Nat → Int32} {A : Nat → Nat → Nat → Int32} {J : Nat → Nat → Nat → Int64} {x1 : Int32} {x2 : Int32} {x3 : Int32} {s0 : Int32}  {w : Int32 × (Nat → Nat → Nat) × (Nat → Nat → Int32) × (Nat → Nat → Nat → Int32) × (Nat → Nat → Nat → Int64)} : e_SleepWork_leave_25 P F A J x1 x2 x3 s0 = some w → k_run t lg (d + 1) 114 25 [(0, .ref (0 * 1024)), (1, .int x1), (2, .int x2), (3, .int x3)] [.int s0] (c_h c B P F A J) (some (.int w.1), c_h c B w.2.1 w.2.2.1 w.2.2.2.1 w.2.2.2.2) := by
  intro hD
  unfold e_SleepWork_leave_25 at hD
  refine k_runB (pc' := 29) (loc' := [(0, .ref (0 * 1024)), (1, .int x1), (2, .int x2), (3, .int x3), (4, .int s0)]) (st' := [.int s0]) 2 rfl ?_
  refine k_if rfl (fun c29_4 => ?_) (fun c29_4 => ?_)
  · rw [c29_4, cond_true] at hD
    refine k_wk [0, 1, 2, 3, 4] (loc' := [(0, .ref (0 * 1024)), (1, .int x1), (2, .int x2), (3, .int x3), (4, .int s0)]) rfl rfl ?_
    exact t_e_SleepWork_leave_46 ht   hD
  · rw [c29_4, cond_false] at hD
    refine k_runB (pc' := 33) (loc' := [(0, .ref (0 * 1024)), (1, .int x1), (2, .int x2), (3, .int x3), (4, .int s0)]) (st' := [.ref (0 * 1024)]) 1 rfl ?_
    obtain ⟨q6, hq6, hD⟩ := Option.bind_eq_some_iff.mp hD
    refine k_gq 0 0 (K := 0) (K2 := 6) (key := 8) rfl rfl rfl rfl rfl hq6 (fun kq6 => ?_)
    refine k_runB (pc' := 38) (loc' := [(0, .ref (0 * 1024)), (1, .int x1), (2, .int x2), (3, .int x3), (4, .int s0)]) (st' := [.int x3, .int x2, .ref (q6 * 1024)]) 2 rfl ?_
    obtain ⟨v7, hv7, hD⟩ := Option.bind_eq_some_iff.mp hD
    refine k_runV rfl rfl rfl (c_get (r := q6) (o := 0) (K := 6) kq6 (by decide)) rfl rfl (t_e_House_hasStep (d := d) kq6 hv7) ?_
    refine k_if rfl (fun c41_7 => ?_) (fun c41_7 => ?_)
    · rw [c41_7, cond_true] at hD
      refine k_wk [0, 1, 2, 3, 4] (loc' := [(0, .ref (0 * 1024)), (1, .int x1), (2, .int x2), (3, .int x3), (4, .int s0)]) rfl rfl ?_
      exact t_e_SleepWork_leave_46 ht   hD
    · rw [c41_7, cond_false] at hD
      refine k_runB (pc' := 45) (loc' := [(0, .ref (0 * 1024)), (1, .int x1), (2, .int x2), (3, .int x3), (4, .int s0)]) (st' := [.int 0]) 1 rfl ?_
      cases hD
      exact k_zret rfl rfl (Or.inl rfl)
def e_SleepWork_leave_24 (P : Nat → Nat → Nat) (F : Nat → Nat → Int32) (A : Nat → Nat → Nat → Int32) (J : Nat → Nat → Nat → Int64) (x1 : Int32) (x2 : Int32) (x3 : Int32) : Option (Int32 × (Nat → Nat → Nat) × (Nat → Nat → Int32) × (Nat → Nat → Nat → Int32) × (Nat → Nat → Nat → Int64)) :=
    e_SleepWork_leave_25 P F A J x1 x2 x3 0
set_option maxRecDepth 10000 in
theorem t_e_SleepWork_leave_24 (ht : ∀ ci k, t.1 ci k = k_ty ci k)  {P : Nat → Nat → Nat} {F : Nat → Nat → Int32} {A : Nat → Nat → Nat → Int32} {J : Nat → Nat → Nat → Int64} {x1 : Int32} {x2 : Int32} {x3 : Int32}  {w : Int32 × (Nat → Nat → Nat) × (Nat → Nat → Int32) × (Nat → Nat → Nat → Int32) × (Nat → Nat → Nat → Int64)} : e_SleepWork_leave_24 P F A J x1 x2 x3 = some w → k_run t lg (d + 1) 114 24 [(0, .ref (0 * 1024)), (1, .int x1), (2, .int x2), (3, .int x3)] [] (c_h c B P F A J) (some (.int w.1), c_h c B w.2.1 w.2.2.1 w.2.2.2.1 w.2.2.2.2) := by
  intro hD
  unfold e_SleepWork_leave_24 at hD
  refine k_runB (pc' := 25) (loc' := [(0, .ref (0 * 1024)), (1, .int x1), (2, .int x2), (3, .int x3)]) (st' := [.int 0]) 1 rfl ?_
  refine k_wk [0, 1, 2, 3] (loc' := [(0, .ref (0 * 1024)), (1, .int x1), (2, .int x2), (3, .int x3)]) rfl rfl ?_
  exact t_e_SleepWork_leave_25 ht   hD
/-- SleepWork.leave(III)Z  -/
def e_SleepWork_leave (P : Nat → Nat → Nat) (F : Nat → Nat → Int32) (A : Nat → Nat → Nat → Int32) (J : Nat → Nat → Nat → Int64) (x1 : Int32) (x2 : Int32) (x3 : Int32) : Option (Int32 × (Nat → Nat → Nat) × (Nat → Nat → Int32) × (Nat → Nat → Nat → Int32) × (Nat → Nat → Nat → Int64)) :=
  (e_SleepWork_isMan P F A J x1).bind fun v1 =>
  cond (g_cnd .ne v1 0)
  (cond (g_cnd .ne x2 ((-1)))
  (e_SleepWork_leave_24 P F A J x1 x2 x3)
  (cond (g_cnd .ne x3 ((-1)))
  (e_SleepWork_leave_24 P F A J x1 x2 x3)
  (e_SleepWork_leave_25 P F A J x1 x2 x3 1)))
  (some (0, P, F, A, J))
set_option maxRecDepth 10000 in
theorem t_e_SleepWork_leave (ht : ∀ ci k, t.1 ci k = k_ty ci k) {P : Nat → Nat → Nat} {F : Nat → Nat → Int32} {A : Nat → Nat → Nat → Int32} {J : Nat → Nat → Nat → Int64} {x1 : Int32} {x2 : Int32} {x3 : Int32}  {w : Int32 × (Nat → Nat → Nat) × (Nat → Nat → Int32) × (Nat → Nat → Nat → Int32) × (Nat → Nat → Nat → Int64)} : e_SleepWork_leave P F A J x1 x2 x3 = some w → k_run t lg (d + 1) 114 0 [(0, .ref (0 * 1024)), (1, .int x1), (2, .int x2), (3, .int x3)] [] (c_h c B P F A J) (some (.int w.1), c_h c B w.2.1 w.2.2.1 w.2.2.2.1 w.2.2.2.2) := by
  intro hD
  unfold e_SleepWork_leave at hD
  refine k_runB (pc' := 2) (loc' := [(0, .ref (0 * 1024)), (1, .int x1), (2, .int x2), (3, .int x3)]) (st' := [.int x1, .ref (0 * 1024)]) 2 rfl ?_
  obtain ⟨v1, hv1, hD⟩ := Option.bind_eq_some_iff.mp hD
  refine k_runV rfl rfl rfl (c_get (r := 0) (o := 0) (K := 0) rfl (by decide)) rfl rfl (t_e_SleepWork_isMan (d := d) hv1) ?_
  refine k_if rfl (fun c5_1 => ?_) (fun c5_1 => ?_)
  · rw [c5_1, cond_true] at hD
    refine k_runB (pc' := 12) (loc' := [(0, .ref (0 * 1024)), (1, .int x1), (2, .int x2), (3, .int x3)]) (st' := [.int ((-1)), .int x2]) 2 rfl ?_
    refine k_ic rfl (fun c12_2 => ?_) (fun c12_2 => ?_)
    · rw [c12_2, cond_true] at hD
      refine k_wk [0, 1, 2, 3] (loc' := [(0, .ref (0 * 1024)), (1, .int x1), (2, .int x2), (3, .int x3)]) rfl rfl ?_
      exact t_e_SleepWork_leave_24 ht   hD
    · rw [c12_2, cond_false] at hD
      refine k_runB (pc' := 17) (loc' := [(0, .ref (0 * 1024)), (1, .int x1), (2, .int x2), (3, .int x3)]) (st' := [.int ((-1)), .int x3]) 2 rfl ?_
      refine k_ic rfl (fun c17_3 => ?_) (fun c17_3 => ?_)
      · rw [c17_3, cond_true] at hD
        refine k_wk [0, 1, 2, 3] (loc' := [(0, .ref (0 * 1024)), (1, .int x1), (2, .int x2), (3, .int x3)]) rfl rfl ?_
        exact t_e_SleepWork_leave_24 ht   hD
      · rw [c17_3, cond_false] at hD
        refine k_runB (pc' := 25) (loc' := [(0, .ref (0 * 1024)), (1, .int x1), (2, .int x2), (3, .int x3)]) (st' := [.int 1]) 2 rfl ?_
        refine k_wk [0, 1, 2, 3] (loc' := [(0, .ref (0 * 1024)), (1, .int x1), (2, .int x2), (3, .int x3)]) rfl rfl ?_
        exact t_e_SleepWork_leave_25 ht   hD
  · rw [c5_1, cond_false] at hD
    refine k_runB (pc' := 9) (loc' := [(0, .ref (0 * 1024)), (1, .int x1), (2, .int x2), (3, .int x3)]) (st' := [.int 0]) 1 rfl ?_
    cases hD
    exact k_zret rfl rfl (Or.inl rfl)
/-- SleepWork.work(II)Z  -/
def e_SleepWork_work (P : Nat → Nat → Nat) (F : Nat → Nat → Int32) (A : Nat → Nat → Nat → Int32) (J : Nat → Nat → Nat → Int64) (x1 : Int32) (x2 : Int32) : Option (Int32 × (Nat → Nat → Nat) × (Nat → Nat → Int32) × (Nat → Nat → Nat → Int32) × (Nat → Nat → Nat → Int64)) :=
  (c_chk 6 (P 0 8)).bind fun q1 =>
  (e_House_hasStep P F A J q1 x1 x2).bind fun v2 =>
  cond (g_cnd .eq v2 0)
  (some (0, P, F, A, J))
  ((m_ld (A 2 2) 6 x1).bind fun v4 =>
  cond (g_cnd .gt v4 0)
  ((m_ld (A 2 2) 6 x1).bind fun v6 =>
  (c_st A 2 2 6 x1 (v6 - 1)).bind fun A7 =>
  (c_chk 6 (P 0 8)).bind fun q8 =>
  (e_House_finish P F A7 J q8 2 x1 x2).bind fun (_, P10, F11, A12, J13) =>
  (e_Evening_setStale P10 F11 A12 J13).bind fun (_, P15, F16, A17, J18) =>
  some (1, P15, F16, A17, J18))
  (some (0, P, F, A, J)))
set_option maxRecDepth 10000 in
theorem t_e_SleepWork_work (ht : ∀ ci k, t.1 ci k = k_ty ci k) {P : Nat → Nat → Nat} {F : Nat → Nat → Int32} {A : Nat → Nat → Nat → Int32} {J : Nat → Nat → Nat → Int64} {x1 : Int32} {x2 : Int32}  {w : Int32 × (Nat → Nat → Nat) × (Nat → Nat → Int32) × (Nat → Nat → Nat → Int32) × (Nat → Nat → Nat → Int64)} : e_SleepWork_work P F A J x1 x2 = some w → k_run t lg (d + 1) 115 0 [(0, .ref (0 * 1024)), (1, .int x1), (2, .int x2)] [] (c_h c B P F A J) (some (.int w.1), c_h c B w.2.1 w.2.2.1 w.2.2.2.1 w.2.2.2.2) := by
  intro hD
  unfold e_SleepWork_work at hD
  refine k_runB (pc' := 1) (loc' := [(0, .ref (0 * 1024)), (1, .int x1), (2, .int x2)]) (st' := [.ref (0 * 1024)]) 1 rfl ?_
  obtain ⟨q1, hq1, hD⟩ := Option.bind_eq_some_iff.mp hD
  refine k_gq 0 0 (K := 0) (K2 := 6) (key := 8) rfl rfl rfl rfl rfl hq1 (fun kq1 => ?_)
  refine k_runB (pc' := 6) (loc' := [(0, .ref (0 * 1024)), (1, .int x1), (2, .int x2)]) (st' := [.int x2, .int x1, .ref (q1 * 1024)]) 2 rfl ?_
  obtain ⟨v2, hv2, hD⟩ := Option.bind_eq_some_iff.mp hD
  refine k_runV rfl rfl rfl (c_get (r := q1) (o := 0) (K := 6) kq1 (by decide)) rfl rfl (t_e_House_hasStep (d := d) kq1 hv2) ?_
  refine k_if rfl (fun c9_2 => ?_) (fun c9_2 => ?_)
  · rw [c9_2, cond_true] at hD
    refine k_runB (pc' := 25) (loc' := [(0, .ref (0 * 1024)), (1, .int x1), (2, .int x2)]) (st' := [.int 0]) 1 rfl ?_
    cases hD
    exact k_zret rfl rfl (Or.inl rfl)
  · rw [c9_2, cond_false] at hD
    refine k_runB (pc' := 13) (loc' := [(0, .ref (0 * 1024)), (1, .int x1), (2, .int x2)]) (st' := [.ref (0 * 1024)]) 1 rfl ?_
    refine k_gf 0 0 (K := 0) rfl rfl rfl rfl rfl ?_
    refine k_gf 2 0 (K := 2) rfl rfl rfl rfl rfl ?_
    refine k_runB (pc' := 20) (loc' := [(0, .ref (0 * 1024)), (1, .int x1), (2, .int x2)]) (st' := [.int x1, .ref (2 * 1024 + 2)]) 1 rfl ?_
    obtain ⟨v4, hv4, hD⟩ := Option.bind_eq_some_iff.mp hD
    refine k_ldI rfl (c_get (r := 2) (o := 2) (K := 2) rfl (by decide)) hv4 ?_
    refine k_if rfl (fun c21_4 => ?_) (fun c21_4 => ?_)
    · rw [c21_4, cond_true] at hD
      refine k_runB (pc' := 27) (loc' := [(0, .ref (0 * 1024)), (1, .int x1), (2, .int x2)]) (st' := [.ref (0 * 1024)]) 1 rfl ?_
      refine k_gf 0 0 (K := 0) rfl rfl rfl rfl rfl ?_
      refine k_gf 2 0 (K := 2) rfl rfl rfl rfl rfl ?_
      refine k_runB (pc' := 35) (loc' := [(0, .ref (0 * 1024)), (1, .int x1), (2, .int x2)]) (st' := [.int x1, .ref (2 * 1024 + 2), .int x1, .ref (2 * 1024 + 2)]) 2 rfl ?_
      obtain ⟨v6, hv6, hD⟩ := Option.bind_eq_some_iff.mp hD
      refine k_ldI rfl (c_get (r := 2) (o := 2) (K := 2) rfl (by decide)) hv6 ?_
      refine k_runB (pc' := 38) (loc' := [(0, .ref (0 * 1024)), (1, .int x1), (2, .int x2)]) (st' := [.int (v6 - 1), .int x1, .ref (2 * 1024 + 2)]) 2 rfl ?_
      obtain ⟨A7, hA7, hD⟩ := Option.bind_eq_some_iff.mp hD
      refine k_cstI 2 2 (K := 2) rfl rfl rfl rfl (fun _ => rfl) hA7 ?_
      refine k_runB (pc' := 40) (loc' := [(0, .ref (0 * 1024)), (1, .int x1), (2, .int x2)]) (st' := [.ref (0 * 1024)]) 1 rfl ?_
      obtain ⟨q8, hq8, hD⟩ := Option.bind_eq_some_iff.mp hD
      refine k_gq 0 0 (K := 0) (K2 := 6) (key := 8) rfl rfl rfl rfl rfl hq8 (fun kq8 => ?_)
      refine k_runB (pc' := 44) (loc' := [(0, .ref (0 * 1024)), (1, .int x1), (2, .int x2)]) (st' := [.ref (0 * 1024), .ref (q8 * 1024)]) 1 rfl ?_
      refine k_gf 0 0 (K := 0) rfl rfl rfl rfl rfl ?_
      refine k_runB (pc' := 49) (loc' := [(0, .ref (0 * 1024)), (1, .int x1), (2, .int x2)]) (st' := [.int x2, .int x1, .ref (2 * 1024), .ref (q8 * 1024)]) 2 rfl ?_
      obtain ⟨⟨v9, P10, F11, A12, J13⟩, hv9, hD⟩ := Option.bind_eq_some_iff.mp hD
      dsimp only at hD
      refine k_runV rfl rfl rfl (c_get (r := q8) (o := 0) (K := 6) kq8 (by decide)) rfl rfl (t_e_House_finish (d := d) kq8 rfl hv9) ?_
      refine k_runB (pc' := 53) (loc' := [(0, .ref (0 * 1024)), (1, .int x1), (2, .int x2)]) (st' := [.ref (0 * 1024)]) 1 rfl ?_
      refine k_gf 0 0 (K := 0) rfl rfl rfl rfl rfl ?_
      obtain ⟨⟨v14, P15, F16, A17, J18⟩, hv14, hD⟩ := Option.bind_eq_some_iff.mp hD
      dsimp only at hD
      refine k_runV rfl rfl rfl (c_get (r := 32) (o := 0) (K := 7) rfl (by decide)) rfl rfl (t_e_Evening_setStale (d := d) ht hv14) ?_
      refine k_runB (pc' := 60) (loc' := [(0, .ref (0 * 1024)), (1, .int x1), (2, .int x2)]) (st' := [.int 1]) 1 rfl ?_
      cases hD
      exact k_zret rfl rfl (Or.inr rfl)
    · rw [c21_4, cond_false] at hD
      refine k_runB (pc' := 25) (loc' := [(0, .ref (0 * 1024)), (1, .int x1), (2, .int x2)]) (st' := [.int 0]) 1 rfl ?_
      cases hD
      exact k_zret rfl rfl (Or.inl rfl)
/-- SleepWork.lay(II)Z  -/
def e_SleepWork_lay (P : Nat → Nat → Nat) (F : Nat → Nat → Int32) (A : Nat → Nat → Nat → Int32) (J : Nat → Nat → Nat → Int64) (x1 : Int32) (x2 : Int32) : Option (Int32 × (Nat → Nat → Nat) × (Nat → Nat → Int32) × (Nat → Nat → Nat → Int32) × (Nat → Nat → Nat → Int64)) :=
  (e_SleepWork_isTool P F A J x1).bind fun v1 =>
  cond (g_cnd .eq v1 0)
  (some (0, P, F, A, J))
  ((e_SleepWork_isRoom P F A J x2).bind fun v3 =>
  cond (g_cnd .ne v3 0)
  ((c_st A 2 4 6 x1 x2).bind fun A5 =>
  (e_Evening_setStale P F A5 J).bind fun (_, P7, F8, A9, J10) =>
  some (1, P7, F8, A9, J10))
  (some (0, P, F, A, J)))
set_option maxRecDepth 10000 in
theorem t_e_SleepWork_lay (ht : ∀ ci k, t.1 ci k = k_ty ci k) {P : Nat → Nat → Nat} {F : Nat → Nat → Int32} {A : Nat → Nat → Nat → Int32} {J : Nat → Nat → Nat → Int64} {x1 : Int32} {x2 : Int32}  {w : Int32 × (Nat → Nat → Nat) × (Nat → Nat → Int32) × (Nat → Nat → Nat → Int32) × (Nat → Nat → Nat → Int64)} : e_SleepWork_lay P F A J x1 x2 = some w → k_run t lg (d + 1) 116 0 [(0, .ref (0 * 1024)), (1, .int x1), (2, .int x2)] [] (c_h c B P F A J) (some (.int w.1), c_h c B w.2.1 w.2.2.1 w.2.2.2.1 w.2.2.2.2) := by
  intro hD
  unfold e_SleepWork_lay at hD
  refine k_runB (pc' := 2) (loc' := [(0, .ref (0 * 1024)), (1, .int x1), (2, .int x2)]) (st' := [.int x1, .ref (0 * 1024)]) 2 rfl ?_
  obtain ⟨v1, hv1, hD⟩ := Option.bind_eq_some_iff.mp hD
  refine k_runV rfl rfl rfl (c_get (r := 0) (o := 0) (K := 0) rfl (by decide)) rfl rfl (t_e_SleepWork_isTool (d := d) hv1) ?_
  refine k_if rfl (fun c5_1 => ?_) (fun c5_1 => ?_)
  · rw [c5_1, cond_true] at hD
    refine k_runB (pc' := 17) (loc' := [(0, .ref (0 * 1024)), (1, .int x1), (2, .int x2)]) (st' := [.int 0]) 1 rfl ?_
    cases hD
    exact k_zret rfl rfl (Or.inl rfl)
  · rw [c5_1, cond_false] at hD
    refine k_runB (pc' := 10) (loc' := [(0, .ref (0 * 1024)), (1, .int x1), (2, .int x2)]) (st' := [.int x2, .ref (0 * 1024)]) 2 rfl ?_
    obtain ⟨v3, hv3, hD⟩ := Option.bind_eq_some_iff.mp hD
    refine k_runV rfl rfl rfl (c_get (r := 0) (o := 0) (K := 0) rfl (by decide)) rfl rfl (t_e_SleepWork_isRoom (d := d) hv3) ?_
    refine k_if rfl (fun c13_3 => ?_) (fun c13_3 => ?_)
    · rw [c13_3, cond_true] at hD
      refine k_runB (pc' := 19) (loc' := [(0, .ref (0 * 1024)), (1, .int x1), (2, .int x2)]) (st' := [.ref (0 * 1024)]) 1 rfl ?_
      refine k_gf 0 0 (K := 0) rfl rfl rfl rfl rfl ?_
      refine k_gf 2 0 (K := 2) rfl rfl rfl rfl rfl ?_
      refine k_runB (pc' := 27) (loc' := [(0, .ref (0 * 1024)), (1, .int x1), (2, .int x2)]) (st' := [.int x2, .int x1, .ref (2 * 1024 + 4)]) 2 rfl ?_
      obtain ⟨A5, hA5, hD⟩ := Option.bind_eq_some_iff.mp hD
      refine k_cstI 2 4 (K := 2) rfl rfl rfl rfl (fun _ => rfl) hA5 ?_
      refine k_runB (pc' := 29) (loc' := [(0, .ref (0 * 1024)), (1, .int x1), (2, .int x2)]) (st' := [.ref (0 * 1024)]) 1 rfl ?_
      refine k_gf 0 0 (K := 0) rfl rfl rfl rfl rfl ?_
      obtain ⟨⟨v6, P7, F8, A9, J10⟩, hv6, hD⟩ := Option.bind_eq_some_iff.mp hD
      dsimp only at hD
      refine k_runV rfl rfl rfl (c_get (r := 32) (o := 0) (K := 7) rfl (by decide)) rfl rfl (t_e_Evening_setStale (d := d) ht hv6) ?_
      refine k_runB (pc' := 36) (loc' := [(0, .ref (0 * 1024)), (1, .int x1), (2, .int x2)]) (st' := [.int 1]) 1 rfl ?_
      cases hD
      exact k_zret rfl rfl (Or.inr rfl)
    · rw [c13_3, cond_false] at hD
      refine k_runB (pc' := 17) (loc' := [(0, .ref (0 * 1024)), (1, .int x1), (2, .int x2)]) (st' := [.int 0]) 1 rfl ?_
      cases hD
      exact k_zret rfl rfl (Or.inl rfl)
/-- SleepWork.give(II)Z  -/
def e_SleepWork_give (P : Nat → Nat → Nat) (F : Nat → Nat → Int32) (A : Nat → Nat → Nat → Int32) (J : Nat → Nat → Nat → Int64) (x1 : Int32) (x2 : Int32) : Option (Int32 × (Nat → Nat → Nat) × (Nat → Nat → Int32) × (Nat → Nat → Nat → Int32) × (Nat → Nat → Nat → Int64)) :=
  (e_SleepWork_isTool P F A J x1).bind fun v1 =>
  cond (g_cnd .eq v1 0)
  (some (0, P, F, A, J))
  ((e_SleepWork_isMan P F A J x2).bind fun v3 =>
  cond (g_cnd .ne v3 0)
  ((c_st A 2 4 6 x1 (100 + x2)).bind fun A5 =>
  (e_Evening_setStale P F A5 J).bind fun (_, P7, F8, A9, J10) =>
  some (1, P7, F8, A9, J10))
  (some (0, P, F, A, J)))
set_option maxRecDepth 10000 in
theorem t_e_SleepWork_give (ht : ∀ ci k, t.1 ci k = k_ty ci k) {P : Nat → Nat → Nat} {F : Nat → Nat → Int32} {A : Nat → Nat → Nat → Int32} {J : Nat → Nat → Nat → Int64} {x1 : Int32} {x2 : Int32}  {w : Int32 × (Nat → Nat → Nat) × (Nat → Nat → Int32) × (Nat → Nat → Nat → Int32) × (Nat → Nat → Nat → Int64)} : e_SleepWork_give P F A J x1 x2 = some w → k_run t lg (d + 1) 117 0 [(0, .ref (0 * 1024)), (1, .int x1), (2, .int x2)] [] (c_h c B P F A J) (some (.int w.1), c_h c B w.2.1 w.2.2.1 w.2.2.2.1 w.2.2.2.2) := by
  intro hD
  unfold e_SleepWork_give at hD
  refine k_runB (pc' := 2) (loc' := [(0, .ref (0 * 1024)), (1, .int x1), (2, .int x2)]) (st' := [.int x1, .ref (0 * 1024)]) 2 rfl ?_
  obtain ⟨v1, hv1, hD⟩ := Option.bind_eq_some_iff.mp hD
  refine k_runV rfl rfl rfl (c_get (r := 0) (o := 0) (K := 0) rfl (by decide)) rfl rfl (t_e_SleepWork_isTool (d := d) hv1) ?_
  refine k_if rfl (fun c5_1 => ?_) (fun c5_1 => ?_)
  · rw [c5_1, cond_true] at hD
    refine k_runB (pc' := 17) (loc' := [(0, .ref (0 * 1024)), (1, .int x1), (2, .int x2)]) (st' := [.int 0]) 1 rfl ?_
    cases hD
    exact k_zret rfl rfl (Or.inl rfl)
  · rw [c5_1, cond_false] at hD
    refine k_runB (pc' := 10) (loc' := [(0, .ref (0 * 1024)), (1, .int x1), (2, .int x2)]) (st' := [.int x2, .ref (0 * 1024)]) 2 rfl ?_
    obtain ⟨v3, hv3, hD⟩ := Option.bind_eq_some_iff.mp hD
    refine k_runV rfl rfl rfl (c_get (r := 0) (o := 0) (K := 0) rfl (by decide)) rfl rfl (t_e_SleepWork_isMan (d := d) hv3) ?_
    refine k_if rfl (fun c13_3 => ?_) (fun c13_3 => ?_)
    · rw [c13_3, cond_true] at hD
      refine k_runB (pc' := 19) (loc' := [(0, .ref (0 * 1024)), (1, .int x1), (2, .int x2)]) (st' := [.ref (0 * 1024)]) 1 rfl ?_
      refine k_gf 0 0 (K := 0) rfl rfl rfl rfl rfl ?_
      refine k_gf 2 0 (K := 2) rfl rfl rfl rfl rfl ?_
      refine k_runB (pc' := 30) (loc' := [(0, .ref (0 * 1024)), (1, .int x1), (2, .int x2)]) (st' := [.int (100 + x2), .int x1, .ref (2 * 1024 + 4)]) 4 rfl ?_
      obtain ⟨A5, hA5, hD⟩ := Option.bind_eq_some_iff.mp hD
      refine k_cstI 2 4 (K := 2) rfl rfl rfl rfl (fun _ => rfl) hA5 ?_
      refine k_runB (pc' := 32) (loc' := [(0, .ref (0 * 1024)), (1, .int x1), (2, .int x2)]) (st' := [.ref (0 * 1024)]) 1 rfl ?_
      refine k_gf 0 0 (K := 0) rfl rfl rfl rfl rfl ?_
      obtain ⟨⟨v6, P7, F8, A9, J10⟩, hv6, hD⟩ := Option.bind_eq_some_iff.mp hD
      dsimp only at hD
      refine k_runV rfl rfl rfl (c_get (r := 32) (o := 0) (K := 7) rfl (by decide)) rfl rfl (t_e_Evening_setStale (d := d) ht hv6) ?_
      refine k_runB (pc' := 39) (loc' := [(0, .ref (0 * 1024)), (1, .int x1), (2, .int x2)]) (st' := [.int 1]) 1 rfl ?_
      cases hD
      exact k_zret rfl rfl (Or.inr rfl)
    · rw [c13_3, cond_false] at hD
      refine k_runB (pc' := 17) (loc' := [(0, .ref (0 * 1024)), (1, .int x1), (2, .int x2)]) (st' := [.int 0]) 1 rfl ?_
      cases hD
      exact k_zret rfl rfl (Or.inl rfl)
def e_SleepWork_bar_52 (P : Nat → Nat → Nat) (F : Nat → Nat → Int32) (A : Nat → Nat → Nat → Int32) (J : Nat → Nat → Nat → Int64) (rs0 : Nat) (s1 : Int32) : Option (Int32 × (Nat → Nat → Nat) × (Nat → Nat → Int32) × (Nat → Nat → Nat → Int32) × (Nat → Nat → Nat → Int64)) :=
    (c_pf F rs0 7 s1).bind fun F5 =>
    (e_Evening_setStale P F5 A J).bind fun (_, P7, F8, A9, J10) =>
    some (1, P7, F8, A9, J10)
set_option maxRecDepth 10000 in
theorem t_e_SleepWork_bar_52 (ht : ∀ ci k, t.1 ci k = k_ty ci k)  {P : Nat → Nat → Nat} {F : Nat → Nat → Int32} {A : Nat → Nat → Nat → Int32} {J : Nat → Nat → Nat → Int64} {rs0 : Nat} {s1 : Int32} (hrs0 : c_kind rs0 = 2) {w : Int32 × (Nat → Nat → Nat) × (Nat → Nat → Int32) × (Nat → Nat → Nat → Int32) × (Nat → Nat → Nat → Int64)} : e_SleepWork_bar_52 P F A J rs0 s1 = some w → k_run t lg (d + 1) 118 52 [(0, .ref (0 * 1024))] [.int s1, .ref (rs0 * 1024)] (c_h c B P F A J) (some (.int w.1), c_h c B w.2.1 w.2.2.1 w.2.2.2.1 w.2.2.2.2) := by
  intro hD
  unfold e_SleepWork_bar_52 at hD
  obtain ⟨F5, hF5, hD⟩ := Option.bind_eq_some_iff.mp hD
  refine k_cpt rs0 0 (K := 2) (key := 7) hrs0 rfl (ht 7 7) rfl rfl rfl hF5 ?_
  refine k_runB (pc' := 56) (loc' := [(0, .ref (0 * 1024))]) (st' := [.ref (0 * 1024)]) 1 rfl ?_
  refine k_gf 0 0 (K := 0) rfl rfl rfl rfl rfl ?_
  obtain ⟨⟨v6, P7, F8, A9, J10⟩, hv6, hD⟩ := Option.bind_eq_some_iff.mp hD
  dsimp only at hD
  refine k_runV rfl rfl rfl (c_get (r := 32) (o := 0) (K := 7) rfl (by decide)) rfl rfl (t_e_Evening_setStale (d := d) ht hv6) ?_
  refine k_runB (pc' := 63) (loc' := [(0, .ref (0 * 1024))]) (st' := [.int 1]) 1 rfl ?_
  cases hD
  exact k_zret rfl rfl (Or.inr rfl)
/-- SleepWork.bar(IZ)Z  -/
def e_SleepWork_bar (P : Nat → Nat → Nat) (F : Nat → Nat → Int32) (A : Nat → Nat → Nat → Int32) (J : Nat → Nat → Nat → Int64) (x1 : Int32) (x2 : Int32) : Option (Int32 × (Nat → Nat → Nat) × (Nat → Nat → Int32) × (Nat → Nat → Nat → Int32) × (Nat → Nat → Nat → Int64)) :=
  cond (g_cnd .lt x1 0)
  (some (0, P, F, A, J))
  ((c_chk 6 (P 0 8)).bind fun q2 =>
  cond (g_cnd .lt x1 (F q2 14))
  (cond (g_cnd .eq x2 0)
  (e_SleepWork_bar_52 P F A J 2 ((F 2 7) &&& (((1 : Int32) <<< (x1 &&& 31)) ^^^ ((-1)))))
  (e_SleepWork_bar_52 P F A J 2 ((F 2 7) ||| ((1 : Int32) <<< (x1 &&& 31)))))
  (some (0, P, F, A, J)))
set_option maxRecDepth 10000 in
theorem t_e_SleepWork_bar (ht : ∀ ci k, t.1 ci k = k_ty ci k) {P : Nat → Nat → Nat} {F : Nat → Nat → Int32} {A : Nat → Nat → Nat → Int32} {J : Nat → Nat → Nat → Int64} {x1 : Int32} {x2 : Int32}  {w : Int32 × (Nat → Nat → Nat) × (Nat → Nat → Int32) × (Nat → Nat → Nat → Int32) × (Nat → Nat → Nat → Int64)} : e_SleepWork_bar P F A J x1 x2 = some w → k_run t lg (d + 1) 118 0 [(0, .ref (0 * 1024)), (1, .int x1), (2, .int x2)] [] (c_h c B P F A J) (some (.int w.1), c_h c B w.2.1 w.2.2.1 w.2.2.2.1 w.2.2.2.2) := by
  intro hD
  unfold e_SleepWork_bar at hD
  refine k_runB (pc' := 1) (loc' := [(0, .ref (0 * 1024)), (1, .int x1), (2, .int x2)]) (st' := [.int x1]) 1 rfl ?_
  refine k_if rfl (fun c1_0 => ?_) (fun c1_0 => ?_)
  · rw [c1_0, cond_true] at hD
    refine k_runB (pc' := 16) (loc' := [(0, .ref (0 * 1024)), (1, .int x1), (2, .int x2)]) (st' := [.int 0]) 1 rfl ?_
    cases hD
    exact k_zret rfl rfl (Or.inl rfl)
  · rw [c1_0, cond_false] at hD
    refine k_runB (pc' := 6) (loc' := [(0, .ref (0 * 1024)), (1, .int x1), (2, .int x2)]) (st' := [.ref (0 * 1024), .int x1]) 2 rfl ?_
    obtain ⟨q2, hq2, hD⟩ := Option.bind_eq_some_iff.mp hD
    refine k_gq 0 0 (K := 0) (K2 := 6) (key := 8) rfl rfl rfl rfl rfl hq2 (fun kq2 => ?_)
    refine k_gf q2 0 (K := 6) kq2 rfl rfl rfl rfl ?_
    refine k_ic rfl (fun c12_2 => ?_) (fun c12_2 => ?_)
    · rw [c12_2, cond_true] at hD
      refine k_runB (pc' := 18) (loc' := [(0, .ref (0 * 1024)), (1, .int x1), (2, .int x2)]) (st' := [.ref (0 * 1024)]) 1 rfl ?_
      refine k_gf 0 0 (K := 0) rfl rfl rfl rfl rfl ?_
      refine k_runB (pc' := 22) (loc' := [(0, .ref (0 * 1024)), (1, .int x1), (2, .int x2)]) (st' := [.int x2, .ref (2 * 1024)]) 1 rfl ?_
      refine k_if rfl (fun c22_3 => ?_) (fun c22_3 => ?_)
      · rw [c22_3, cond_true] at hD
        refine k_runB (pc' := 40) (loc' := [(0, .ref (0 * 1024)), (1, .int x1), (2, .int x2)]) (st' := [.ref (0 * 1024), .ref (2 * 1024)]) 1 rfl ?_
        refine k_gf 0 0 (K := 0) rfl rfl rfl rfl rfl ?_
        refine k_gf 2 0 (K := 2) rfl rfl rfl rfl rfl ?_
        refine k_runB (pc' := 52) (loc' := [(0, .ref (0 * 1024)), (1, .int x1), (2, .int x2)]) (st' := [.int ((F 2 7) &&& (((1 : Int32) <<< (x1 &&& 31)) ^^^ ((-1)))), .ref (2 * 1024)]) 6 rfl ?_
        refine k_wk [0] (loc' := [(0, .ref (0 * 1024))]) rfl rfl ?_
        exact t_e_SleepWork_bar_52 ht  rfl hD
      · rw [c22_3, cond_false] at hD
        refine k_runB (pc' := 26) (loc' := [(0, .ref (0 * 1024)), (1, .int x1), (2, .int x2)]) (st' := [.ref (0 * 1024), .ref (2 * 1024)]) 1 rfl ?_
        refine k_gf 0 0 (K := 0) rfl rfl rfl rfl rfl ?_
        refine k_gf 2 0 (K := 2) rfl rfl rfl rfl rfl ?_
        refine k_runB (pc' := 52) (loc' := [(0, .ref (0 * 1024)), (1, .int x1), (2, .int x2)]) (st' := [.int ((F 2 7) ||| ((1 : Int32) <<< (x1 &&& 31))), .ref (2 * 1024)]) 5 rfl ?_
        refine k_wk [0] (loc' := [(0, .ref (0 * 1024))]) rfl rfl ?_
        exact t_e_SleepWork_bar_52 ht  rfl hD
    · rw [c12_2, cond_false] at hD
      refine k_runB (pc' := 16) (loc' := [(0, .ref (0 * 1024)), (1, .int x1), (2, .int x2)]) (st' := [.int 0]) 1 rfl ?_
      cases hD
      exact k_zret rfl rfl (Or.inl rfl)
/-- SleepWork.night()I  -/
def e_SleepWork_night (n : Nat) (P : Nat → Nat → Nat) (F : Nat → Nat → Int32) (A : Nat → Nat → Nat → Int32) (J : Nat → Nat → Nat → Int64) : Option (Int32 × (Nat → Nat → Nat) × (Nat → Nat → Int32) × (Nat → Nat → Nat → Int32) × (Nat → Nat → Nat → Int64)) :=
  (e_Past_push P F A J 2).bind fun (_, P2, F3, A4, J5) =>
  (c_chk 6 (P2 0 8)).bind fun q6 =>
  (e_House_worthOfAll n P2 F3 A4 J5 q6 2).bind fun v7 =>
  (e_Evening_goBy n P2 F3 A4 J5).bind fun (_, P9, F10, A11, J12) =>
  (c_chk 6 (P9 0 8)).bind fun q13 =>
  (e_House_worthOfAll n P9 F10 A11 J12 q13 2).bind fun v14 =>
  some (v14 - v7, P9, F10, A11, J12)
set_option maxRecDepth 10000 in
theorem t_e_SleepWork_night (ht : ∀ ci k, t.1 ci k = k_ty ci k) {n : Nat} {P : Nat → Nat → Nat} {F : Nat → Nat → Int32} {A : Nat → Nat → Nat → Int32} {J : Nat → Nat → Nat → Int64}   {w : Int32 × (Nat → Nat → Nat) × (Nat → Nat → Int32) × (Nat → Nat → Nat → Int32) × (Nat → Nat → Nat → Int64)} : e_SleepWork_night n P F A J = some w → k_run t lg (d + 6) 119 0 [(0, .ref (0 * 1024))] [] (c_h c B P F A J) (some (.int w.1), c_h c B w.2.1 w.2.2.1 w.2.2.2.1 w.2.2.2.2) := by
  intro hD
  unfold e_SleepWork_night at hD
  refine k_runB (pc' := 1) (loc' := [(0, .ref (0 * 1024))]) (st' := [.ref (0 * 1024)]) 1 rfl ?_
  refine k_gf 0 0 (K := 0) rfl rfl rfl rfl rfl ?_
  refine k_runB (pc' := 5) (loc' := [(0, .ref (0 * 1024))]) (st' := [.ref (0 * 1024), .ref (4 * 1024)]) 1 rfl ?_
  refine k_gf 0 0 (K := 0) rfl rfl rfl rfl rfl ?_
  obtain ⟨⟨v1, P2, F3, A4, J5⟩, hv1, hD⟩ := Option.bind_eq_some_iff.mp hD
  dsimp only at hD
  refine k_runV rfl rfl rfl (c_get (r := 4) (o := 0) (K := 3) rfl (by decide)) rfl rfl (t_e_Past_push (d := d + 4) ht rfl hv1) ?_
  refine k_runB (pc' := 12) (loc' := [(0, .ref (0 * 1024))]) (st' := [.ref (0 * 1024)]) 1 rfl ?_
  obtain ⟨q6, hq6, hD⟩ := Option.bind_eq_some_iff.mp hD
  refine k_gq 0 0 (K := 0) (K2 := 6) (key := 8) rfl rfl rfl rfl rfl hq6 (fun kq6 => ?_)
  refine k_runB (pc' := 16) (loc' := [(0, .ref (0 * 1024))]) (st' := [.ref (0 * 1024), .ref (q6 * 1024)]) 1 rfl ?_
  refine k_gf 0 0 (K := 0) rfl rfl rfl rfl rfl ?_
  obtain ⟨v7, hv7, hD⟩ := Option.bind_eq_some_iff.mp hD
  refine k_runV rfl rfl rfl (c_get (r := q6) (o := 0) (K := 6) kq6 (by decide)) rfl rfl (t_e_House_worthOfAll (d := d + 4) kq6 rfl hv7) ?_
  refine k_runB (pc' := 24) (loc' := [(0, .ref (0 * 1024)), (1, .int v7)]) (st' := [.ref (0 * 1024)]) 2 rfl ?_
  refine k_gf 0 0 (K := 0) rfl rfl rfl rfl rfl ?_
  obtain ⟨⟨v8, P9, F10, A11, J12⟩, hv8, hD⟩ := Option.bind_eq_some_iff.mp hD
  dsimp only at hD
  refine k_runV rfl rfl rfl (c_get (r := 32) (o := 0) (K := 7) rfl (by decide)) rfl rfl (t_e_Evening_goBy (d := d) ht hv8) ?_
  refine k_runB (pc' := 31) (loc' := [(0, .ref (0 * 1024)), (1, .int v7)]) (st' := [.ref (0 * 1024)]) 1 rfl ?_
  obtain ⟨q13, hq13, hD⟩ := Option.bind_eq_some_iff.mp hD
  refine k_gq 0 0 (K := 0) (K2 := 6) (key := 8) rfl rfl rfl rfl rfl hq13 (fun kq13 => ?_)
  refine k_runB (pc' := 35) (loc' := [(0, .ref (0 * 1024)), (1, .int v7)]) (st' := [.ref (0 * 1024), .ref (q13 * 1024)]) 1 rfl ?_
  refine k_gf 0 0 (K := 0) rfl rfl rfl rfl rfl ?_
  obtain ⟨v14, hv14, hD⟩ := Option.bind_eq_some_iff.mp hD
  refine k_runV rfl rfl rfl (c_get (r := q13) (o := 0) (K := 6) kq13 (by decide)) rfl rfl (t_e_House_worthOfAll (d := d + 4) kq13 rfl hv14) ?_
  refine k_runB (pc' := 43) (loc' := [(0, .ref (0 * 1024)), (1, .int v7)]) (st' := [.int (v14 - v7)]) 2 rfl ?_
  cases hD
  exact k_iret rfl rfl
/-- SleepWork.undo()Z  -/
def e_SleepWork_undo (P : Nat → Nat → Nat) (F : Nat → Nat → Int32) (A : Nat → Nat → Nat → Int32) (J : Nat → Nat → Nat → Int64) : Option (Int32 × (Nat → Nat → Nat) × (Nat → Nat → Int32) × (Nat → Nat → Nat → Int32) × (Nat → Nat → Nat → Int64)) :=
  (e_Past_pull P F A J 2).bind fun (v1, P2, F3, A4, J5) =>
  cond (g_cnd .ne v1 0)
  ((e_Evening_setStale P2 F3 A4 J5).bind fun (_, P8, F9, A10, J11) =>
  some (1, P8, F9, A10, J11))
  (some (0, P2, F3, A4, J5))
set_option maxRecDepth 10000 in
theorem t_e_SleepWork_undo (ht : ∀ ci k, t.1 ci k = k_ty ci k) {P : Nat → Nat → Nat} {F : Nat → Nat → Int32} {A : Nat → Nat → Nat → Int32} {J : Nat → Nat → Nat → Int64}   {w : Int32 × (Nat → Nat → Nat) × (Nat → Nat → Int32) × (Nat → Nat → Nat → Int32) × (Nat → Nat → Nat → Int64)} : e_SleepWork_undo P F A J = some w → k_run t lg (d + 2) 120 0 [(0, .ref (0 * 1024))] [] (c_h c B P F A J) (some (.int w.1), c_h c B w.2.1 w.2.2.1 w.2.2.2.1 w.2.2.2.2) := by
  intro hD
  unfold e_SleepWork_undo at hD
  refine k_runB (pc' := 1) (loc' := [(0, .ref (0 * 1024))]) (st' := [.ref (0 * 1024)]) 1 rfl ?_
  refine k_gf 0 0 (K := 0) rfl rfl rfl rfl rfl ?_
  refine k_runB (pc' := 5) (loc' := [(0, .ref (0 * 1024))]) (st' := [.ref (0 * 1024), .ref (4 * 1024)]) 1 rfl ?_
  refine k_gf 0 0 (K := 0) rfl rfl rfl rfl rfl ?_
  obtain ⟨⟨v1, P2, F3, A4, J5⟩, hv1, hD⟩ := Option.bind_eq_some_iff.mp hD
  dsimp only at hD
  refine k_runV rfl rfl rfl (c_get (r := 4) (o := 0) (K := 3) rfl (by decide)) rfl rfl (t_e_Past_pull (d := d) ht rfl hv1) ?_
  refine k_if rfl (fun c11_5 => ?_) (fun c11_5 => ?_)
  · rw [c11_5, cond_true] at hD
    refine k_runB (pc' := 17) (loc' := [(0, .ref (0 * 1024))]) (st' := [.ref (0 * 1024)]) 1 rfl ?_
    refine k_gf 0 0 (K := 0) rfl rfl rfl rfl rfl ?_
    obtain ⟨⟨v7, P8, F9, A10, J11⟩, hv7, hD⟩ := Option.bind_eq_some_iff.mp hD
    dsimp only at hD
    refine k_runV rfl rfl rfl (c_get (r := 32) (o := 0) (K := 7) rfl (by decide)) rfl rfl (t_e_Evening_setStale (d := d + 1) ht hv7) ?_
    refine k_runB (pc' := 24) (loc' := [(0, .ref (0 * 1024))]) (st' := [.int 1]) 1 rfl ?_
    cases hD
    exact k_zret rfl rfl (Or.inr rfl)
  · rw [c11_5, cond_false] at hD
    refine k_runB (pc' := 15) (loc' := [(0, .ref (0 * 1024))]) (st' := [.int 0]) 1 rfl ?_
    cases hD
    exact k_zret rfl rfl (Or.inl rfl)
/-- SleepWork.gain()I  -/
def e_SleepWork_gain (n : Nat) (P : Nat → Nat → Nat) (F : Nat → Nat → Int32) (A : Nat → Nat → Nat → Int32) (J : Nat → Nat → Nat → Int64) : Option (Int32 × (Nat → Nat → Nat) × (Nat → Nat → Int32) × (Nat → Nat → Nat → Int32) × (Nat → Nat → Nat → Int64)) :=
  (e_Evening_gainAsItIs n P F A J).bind fun (v1, P2, F3, A4, J5) =>
  some (v1, P2, F3, A4, J5)
set_option maxRecDepth 10000 in
theorem t_e_SleepWork_gain (ht : ∀ ci k, t.1 ci k = k_ty ci k) {n : Nat} {P : Nat → Nat → Nat} {F : Nat → Nat → Int32} {A : Nat → Nat → Nat → Int32} {J : Nat → Nat → Nat → Int64}   {w : Int32 × (Nat → Nat → Nat) × (Nat → Nat → Int32) × (Nat → Nat → Nat → Int32) × (Nat → Nat → Nat → Int64)} : e_SleepWork_gain n P F A J = some w → k_run t lg (d + 7) 121 0 [(0, .ref (0 * 1024))] [] (c_h c B P F A J) (some (.int w.1), c_h c B w.2.1 w.2.2.1 w.2.2.2.1 w.2.2.2.2) := by
  intro hD
  unfold e_SleepWork_gain at hD
  refine k_runB (pc' := 1) (loc' := [(0, .ref (0 * 1024))]) (st' := [.ref (0 * 1024)]) 1 rfl ?_
  refine k_gf 0 0 (K := 0) rfl rfl rfl rfl rfl ?_
  obtain ⟨⟨v1, P2, F3, A4, J5⟩, hv1, hD⟩ := Option.bind_eq_some_iff.mp hD
  dsimp only at hD
  refine k_runV rfl rfl rfl (c_get (r := 32) (o := 0) (K := 7) rfl (by decide)) rfl rfl (t_e_Evening_gainAsItIs (d := d) ht hv1) ?_
  cases hD
  exact k_iret rfl rfl
/-- SleepWork.codeOf(I)I  -/
def e_SleepWork_codeOf (P : Nat → Nat → Nat) (F : Nat → Nat → Int32) (A : Nat → Nat → Nat → Int32) (J : Nat → Nat → Nat → Int64) (x0 : Int32) : Option (Int32) :=
  cond (g_cnd .ge x0 0)
  ((m_div x0 6).bind fun v2 =>
  (m_rem x0 6).bind fun v3 =>
  some ((10 * v2) + v3))
  (some ((-2)))
set_option maxRecDepth 10000 in
theorem t_e_SleepWork_codeOf {P : Nat → Nat → Nat} {F : Nat → Nat → Int32} {A : Nat → Nat → Nat → Int32} {J : Nat → Nat → Nat → Int64} {x0 : Int32}  {w : Int32} : e_SleepWork_codeOf P F A J x0 = some w → k_run t lg (d) 124 0 [(0, .int x0)] [] (c_h c B P F A J) (some (.int w), c_h c B P F A J) := by
  intro hD
  unfold e_SleepWork_codeOf at hD
  refine k_runB (pc' := 1) (loc' := [(0, .int x0)]) (st' := [.int x0]) 1 rfl ?_
  refine k_if rfl (fun c1_0 => ?_) (fun c1_0 => ?_)
  · rw [c1_0, cond_true] at hD
    refine k_runB (pc' := 14) (loc' := [(0, .int x0)]) (st' := [.int 6, .int x0, .int 10]) 3 rfl ?_
    obtain ⟨v2, hv2, hD⟩ := Option.bind_eq_some_iff.mp hD
    refine k_dvI rfl hv2 ?_
    refine k_runB (pc' := 19) (loc' := [(0, .int x0)]) (st' := [.int 6, .int x0, .int (10 * v2)]) 3 rfl ?_
    obtain ⟨v3, hv3, hD⟩ := Option.bind_eq_some_iff.mp hD
    refine k_rmI rfl hv3 ?_
    refine k_runB (pc' := 21) (loc' := [(0, .int x0)]) (st' := [.int ((10 * v2) + v3)]) 1 rfl ?_
    cases hD
    exact k_iret rfl rfl
  · rw [c1_0, cond_false] at hD
    refine k_runB (pc' := 21) (loc' := [(0, .int x0)]) (st' := [.int ((-2))]) 2 rfl ?_
    cases hD
    exact k_iret rfl rfl
end MC
