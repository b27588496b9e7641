/-! the reference's methods as functions (printed by wip/dec.py) -/
section MD
variable {t : gT} {lg : Nat → Nat} {d : Nat} {c : Nat × Nat} {B : Nat → List gE} {F : Nat → Int32} {A : Nat → Nat → Int32} {J : Nat → Nat → Int64}
def d_options_4 : Nat → (Nat → Int32) → (Nat → Nat → Int32) → (Nat → Nat → Int64) → Int32 → Int32 → Option Int32
  | 0, _, _, _, _, _ => none
  | n + 1, F, A, J, x1, x2 => (d_tasksNow F A J).bind fun v1 =>
    cond (g_cnd .ge x2 v1)
    (some (x1))
    ((d_stepsOf F A J x2).bind fun v3 =>
    (d_options_4 n) F A J (x1 + v3) (x2 + 1))
theorem t_d_options_4 {n : Nat}  {F : Nat → Int32} {A : Nat → Nat → Int32} {J : Nat → Nat → Int64} {x1 : Int32} {x2 : Int32} {w : Int32} : d_options_4 n F A J x1 x2 = some w → k_run t lg (d + 1) 218 4 [(0, .ref 40960), (1, .int x1), (2, .int x2)] [] (m_h c B F A J) (some (.int w), m_h c B F A J) := by
  induction n generalizing F A J x1 x2 w with
  | zero => intro hD; cases hD
  | succ n ih =>
    intro hD
    have hK4 : ∀ (F : Nat → Int32) (A : Nat → Nat → Int32) (J : Nat → Nat → Int64) (x1 : Int32) (x2 : Int32) (w : Int32), d_options_4 n F A J x1 x2 = some w → k_run t lg (d + 1) 218 4 [(0, .ref 40960), (1, .int x1), (2, .int x2)] [] (m_h c B F A J) (some (.int w), m_h c B F A J) := fun _ _ _ _ _ _ h => ih h
    unfold d_options_4 at hD
    refine k_runB (pc' := 6) (loc' := [(0, .ref 40960), (1, .int x1), (2, .int x2)]) (st' := [.ref 40960, .int x2]) 2 rfl ?_
    obtain ⟨v1, hv1, hD⟩ := Option.bind_eq_some_iff.mp hD
    refine k_runC rfl rfl rfl rfl (t_d_tasksNow (d := d) hv1) ?_
    refine k_ic rfl (fun c9_1 => ?_) (fun c9_1 => ?_)
    · rw [c9_1, cond_true] at hD
      refine k_runB (pc' := 27) (loc' := [(0, .ref 40960), (1, .int x1), (2, .int x2)]) (st' := [.int x1]) 1 rfl ?_
      cases hD
      exact k_iret rfl rfl
    · rw [c9_1, cond_false] at hD
      refine k_runB (pc' := 15) (loc' := [(0, .ref 40960), (1, .int x1), (2, .int x2)]) (st' := [.int x2, .ref 40960, .int x1]) 3 rfl ?_
      obtain ⟨v3, hv3, hD⟩ := Option.bind_eq_some_iff.mp hD
      refine k_runC rfl rfl rfl rfl (t_d_stepsOf (d := d) hv3) ?_
      refine k_runB (pc' := 4) (loc' := [(0, .ref 40960), (1, .int (x1 + v3)), (2, .int (x2 + 1))]) (st' := []) 4 rfl ?_
      refine k_wk [0, 1, 2] (loc' := [(0, .ref 40960), (1, .int (x1 + v3)), (2, .int (x2 + 1))]) rfl rfl ?_
      exact hK4 _ _ _ _ _ _ hD
/-- SleepWorkModel.options()I -/
def d_options (n : Nat) (F : Nat → Int32) (A : Nat → Nat → Int32) (J : Nat → Nat → Int64) : Option Int32 :=
  d_options_4 n F A J 1 0
theorem t_d_options {n : Nat} {r : Int32} : d_options n F A J = some r → k_run t lg (d + 1) 218 0 [(0, .ref 40960)] [] (m_h c B F A J) (some (.int r), m_h c B F A J) := by
  intro hD
  unfold d_options at hD
  refine k_runB (pc' := 4) (loc' := [(0, .ref 40960), (1, .int 1), (2, .int 0)]) (st' := []) 4 rfl ?_
  refine k_wk [0, 1, 2] (loc' := [(0, .ref 40960), (1, .int 1), (2, .int 0)]) rfl rfl ?_
  exact t_d_options_4  hD
/-- SleepWorkModel.codeOf(II)I -/
def d_codeOf (n : Nat) (F : Nat → Int32) (A : Nat → Nat → Int32) (J : Nat → Nat → Int64) (x1 : Int32) (x2 : Int32) : Option (Int32 × (Nat → Int32) × (Nat → Nat → Int32) × (Nat → Nat → Int64)) :=
  (d_leaves n F A J x1 x2).bind fun (v1, F2, A3, J4) =>
  cond (g_cnd .eq v1 0)
  (some ((-2), F2, A3, J4))
  ((m_ld (A3 48) 100 (42 + x1)).bind fun v6 =>
  cond (g_cnd .lt v6 0)
  (some ((-2), F2, A3, J4))
  ((m_ld (A3 48) 100 (42 + x1)).bind fun v8 =>
  (m_ld (A3 48) 100 (48 + x1)).bind fun v9 =>
  some ((10 * v8) + v9, F2, A3, J4)))
theorem t_d_codeOf {n : Nat} {x1 : Int32} {x2 : Int32} {r : Int32} {F' : Nat → Int32} {A' : Nat → Nat → Int32} {J' : Nat → Nat → Int64} : d_codeOf n F A J x1 x2 = some (r, F', A', J') → k_run t lg (d + 2) 219 0 [(0, .ref 40960), (1, .int x1), (2, .int x2)] [] (m_h c B F A J) (some (.int r), m_h c B F' A' J') := by
  intro hD
  unfold d_codeOf at hD
  refine k_runB (pc' := 3) (loc' := [(0, .ref 40960), (1, .int x1), (2, .int x2)]) (st' := [.int x2, .int x1, .ref 40960]) 3 rfl ?_
  obtain ⟨⟨v1, F2, A3, J4⟩, hv1, hD⟩ := Option.bind_eq_some_iff.mp hD
  dsimp only at hD
  refine k_runC rfl rfl rfl rfl (t_d_leaves (d := d) hv1) ?_
  refine k_if rfl (fun c6_4 => ?_) (fun c6_4 => ?_)
  · rw [c6_4, cond_true] at hD
    refine k_runB (pc' := 48) (loc' := [(0, .ref 40960), (1, .int x1), (2, .int x2)]) (st' := [.int ((-2))]) 1 rfl ?_
    cases hD
    exact k_iret rfl rfl
  · rw [c6_4, cond_false] at hD
    refine k_runB (pc' := 17) (loc' := [(0, .ref 40960), (1, .int x1), (2, .int x2)]) (st' := [.int (42 + x1), .ref 41008]) 5 rfl ?_
    obtain ⟨v6, hv6, hD⟩ := Option.bind_eq_some_iff.mp hD
    refine k_ldI rfl rfl hv6 ?_
    refine k_if rfl (fun c18_6 => ?_) (fun c18_6 => ?_)
    · rw [c18_6, cond_true] at hD
      refine k_runB (pc' := 48) (loc' := [(0, .ref 40960), (1, .int x1), (2, .int x2)]) (st' := [.int ((-2))]) 1 rfl ?_
      cases hD
      exact k_iret rfl rfl
    · rw [c18_6, cond_false] at hD
      refine k_runB (pc' := 31) (loc' := [(0, .ref 40960), (1, .int x1), (2, .int x2)]) (st' := [.int (42 + x1), .ref 41008, .int 10]) 6 rfl ?_
      obtain ⟨v8, hv8, hD⟩ := Option.bind_eq_some_iff.mp hD
      refine k_ldI rfl rfl hv8 ?_
      refine k_runB (pc' := 41) (loc' := [(0, .ref 40960), (1, .int x1), (2, .int x2)]) (st' := [.int (48 + x1), .ref 41008, .int (10 * v8)]) 6 rfl ?_
      obtain ⟨v9, hv9, hD⟩ := Option.bind_eq_some_iff.mp hD
      refine k_ldI rfl rfl hv9 ?_
      refine k_runB (pc' := 48) (loc' := [(0, .ref 40960), (1, .int x1), (2, .int x2)]) (st' := [.int ((10 * v8) + v9)]) 2 rfl ?_
      cases hD
      exact k_iret rfl rfl
/-- SleepWorkModel.gainBy(II)I -/
def d_gainBy (n : Nat) (F : Nat → Int32) (A : Nat → Nat → Int32) (J : Nat → Nat → Int64) (x1 : Int32) (x2 : Int32) : Option (Int32 × (Nat → Int32) × (Nat → Nat → Int32) × (Nat → Nat → Int64)) :=
  (d_takes n F A J).bind fun (_, F2, A3, J4) =>
  (d_leaves n F2 A3 J4 x1 x2).bind fun (v5, F6, A7, J8) =>
  (d_wholeNight n F6 A7 J8).bind fun (v9, F10, A11, J12) =>
  some (v9, F10, A11, J12)
theorem t_d_gainBy (ht : ∀ k, t.1 12 k = k_ty 12 k) {n : Nat} {x1 : Int32} {x2 : Int32} {r : Int32} {F' : Nat → Int32} {A' : Nat → Nat → Int32} {J' : Nat → Nat → Int64} : d_gainBy n F A J x1 x2 = some (r, F', A', J') → k_run t lg (d + 5) 220 0 [(0, .ref 40960), (1, .int x1), (2, .int x2)] [] (m_h c B F A J) (some (.int r), m_h c B F' A' J') := by
  intro hD
  unfold d_gainBy at hD
  refine k_runB (pc' := 1) (loc' := [(0, .ref 40960), (1, .int x1), (2, .int x2)]) (st' := [.ref 40960]) 1 rfl ?_
  obtain ⟨⟨v1, F2, A3, J4⟩, hv1, hD⟩ := Option.bind_eq_some_iff.mp hD
  dsimp only at hD
  refine k_runC rfl rfl rfl rfl (t_d_takes (d := d + 4) hv1) ?_
  refine k_runB (pc' := 7) (loc' := [(0, .ref 40960), (1, .int x1), (2, .int x2)]) (st' := [.int x2, .int x1, .ref 40960]) 3 rfl ?_
  obtain ⟨⟨v5, F6, A7, J8⟩, hv5, hD⟩ := Option.bind_eq_some_iff.mp hD
  dsimp only at hD
  refine k_runC rfl rfl rfl rfl (t_d_leaves (d := d + 3) hv5) ?_
  refine k_runB (pc' := 12) (loc' := [(0, .ref 40960), (1, .int x1), (2, .int x2)]) (st' := [.ref 40960]) 2 rfl ?_
  obtain ⟨⟨v9, F10, A11, J12⟩, hv9, hD⟩ := Option.bind_eq_some_iff.mp hD
  dsimp only at hD
  refine k_runC rfl rfl rfl rfl (t_d_wholeNight (d := d) ht hv9) ?_
  cases hD
  exact k_iret rfl rfl
def d_bestOption_50 (K14 : (Nat → Int32) → (Nat → Nat → Int32) → (Nat → Nat → Int64) → Int32 → Int32 → Int32 → Option (Int32 × (Nat → Int32) × (Nat → Nat → Int32) × (Nat → Nat → Int64))) (n : Nat) (F : Nat → Int32) (A : Nat → Nat → Int32) (J : Nat → Nat → Int64) (x1 : Int32) (x2 : Int32) (x3 : Int32) : Option (Int32 × (Nat → Int32) × (Nat → Nat → Int32) × (Nat → Nat → Int64)) :=
    K14 F A J x1 x2 (x3 + 1)
theorem t_d_bestOption_50 (ht : ∀ k, t.1 12 k = k_ty 12 k) {n : Nat} {K14 : (Nat → Int32) → (Nat → Nat → Int32) → (Nat → Nat → Int64) → Int32 → Int32 → Int32 → Option (Int32 × (Nat → Int32) × (Nat → Nat → Int32) × (Nat → Nat → Int64))} (hK14 : ∀ (F : Nat → Int32) (A : Nat → Nat → Int32) (J : Nat → Nat → Int64) (x1 : Int32) (x2 : Int32) (x3 : Int32) (w : Int32 × (Nat → Int32) × (Nat → Nat → Int32) × (Nat → Nat → Int64)), K14 F A J x1 x2 x3 = some w → k_run t lg (d + 6) 221 14 [(0, .ref 40960), (1, .int x1), (2, .int x2), (3, .int x3)] [] (m_h c B F A J) (some (.int w.1), m_h c B w.2.1 w.2.2.1 w.2.2.2)) {F : Nat → Int32} {A : Nat → Nat → Int32} {J : Nat → Nat → Int64} {x1 : Int32} {x2 : Int32} {x3 : Int32} {w : Int32 × (Nat → Int32) × (Nat → Nat → Int32) × (Nat → Nat → Int64)} : d_bestOption_50 K14 n F A J x1 x2 x3 = some w → k_run t lg (d + 6) 221 50 [(0, .ref 40960), (1, .int x1), (2, .int x2), (3, .int x3)] [] (m_h c B F A J) (some (.int w.1), m_h c B w.2.1 w.2.2.1 w.2.2.2) := by
  intro hD
  unfold d_bestOption_50 at hD
  refine k_runB (pc' := 14) (loc' := [(0, .ref 40960), (1, .int x1), (2, .int x2), (3, .int (x3 + 1))]) (st' := []) 2 rfl ?_
  refine k_wk [0, 1, 2, 3] (loc' := [(0, .ref 40960), (1, .int x1), (2, .int x2), (3, .int (x3 + 1))]) rfl rfl ?_
  exact hK14 _ _ _ _ _ _ _ hD
def d_bestOption_14 : Nat → (Nat → Int32) → (Nat → Nat → Int32) → (Nat → Nat → Int64) → Int32 → Int32 → Int32 → Option (Int32 × (Nat → Int32) × (Nat → Nat → Int32) × (Nat → Nat → Int64))
  | 0, _, _, _, _, _, _ => none
  | n + 1, F, A, J, x1, x2, x3 => (d_options n F A J).bind fun v6 =>
    cond (g_cnd .ge x3 v6)
    (some (x2, F, A, J))
    ((d_gainBy n F A J x1 x3).bind fun (v8, F9, A10, J11) =>
    cond (g_cnd .gt v8 (F9 76))
    ((m_pf F9 76 v8).bind fun F13 =>
    (d_bestOption_14 n) F13 A10 J11 x1 x3 (x3 + 1))
    (d_bestOption_50 (d_bestOption_14 n) n F9 A10 J11 x1 x2 x3))
theorem t_d_bestOption_14 (ht : ∀ k, t.1 12 k = k_ty 12 k) {n : Nat}  {F : Nat → Int32} {A : Nat → Nat → Int32} {J : Nat → Nat → Int64} {x1 : Int32} {x2 : Int32} {x3 : Int32} {w : Int32 × (Nat → Int32) × (Nat → Nat → Int32) × (Nat → Nat → Int64)} : d_bestOption_14 n F A J x1 x2 x3 = some w → k_run t lg (d + 6) 221 14 [(0, .ref 40960), (1, .int x1), (2, .int x2), (3, .int x3)] [] (m_h c B F A J) (some (.int w.1), m_h c B w.2.1 w.2.2.1 w.2.2.2) := by
  induction n generalizing F A J x1 x2 x3 w with
  | zero => intro hD; cases hD
  | succ n ih =>
    intro hD
    have hK14 : ∀ (F : Nat → Int32) (A : Nat → Nat → Int32) (J : Nat → Nat → Int64) (x1 : Int32) (x2 : Int32) (x3 : Int32) (w : Int32 × (Nat → Int32) × (Nat → Nat → Int32) × (Nat → Nat → Int64)), d_bestOption_14 n F A J x1 x2 x3 = some w → k_run t lg (d + 6) 221 14 [(0, .ref 40960), (1, .int x1), (2, .int x2), (3, .int x3)] [] (m_h c B F A J) (some (.int w.1), m_h c B w.2.1 w.2.2.1 w.2.2.2) := fun _ _ _ _ _ _ _ h => ih h
    unfold d_bestOption_14 at hD
    refine k_runB (pc' := 16) (loc' := [(0, .ref 40960), (1, .int x1), (2, .int x2), (3, .int x3)]) (st' := [.ref 40960, .int x3]) 2 rfl ?_
    obtain ⟨v6, hv6, hD⟩ := Option.bind_eq_some_iff.mp hD
    refine k_runC rfl rfl rfl rfl (t_d_options (d := d + 4) hv6) ?_
    refine k_ic rfl (fun c19_6 => ?_) (fun c19_6 => ?_)
    · rw [c19_6, cond_true] at hD
      refine k_runB (pc' := 57) (loc' := [(0, .ref 40960), (1, .int x1), (2, .int x2), (3, .int x3)]) (st' := [.int x2]) 1 rfl ?_
      cases hD
      exact k_iret rfl rfl
    · rw [c19_6, cond_false] at hD
      refine k_runB (pc' := 25) (loc' := [(0, .ref 40960), (1, .int x1), (2, .int x2), (3, .int x3)]) (st' := [.int x3, .int x1, .ref 40960]) 3 rfl ?_
      obtain ⟨⟨v8, F9, A10, J11⟩, hv8, hD⟩ := Option.bind_eq_some_iff.mp hD
      dsimp only at hD
      refine k_runC rfl rfl rfl rfl (t_d_gainBy (d := d) ht hv8) ?_
      refine k_runB (pc' := 36) (loc' := [(0, .ref 40960), (1, .int x1), (2, .int x2), (3, .int x3), (4, .int v8)]) (st' := [.int (F9 76), .int v8]) 4 rfl ?_
      refine k_ic rfl (fun c36_11 => ?_) (fun c36_11 => ?_)
      · rw [c36_11, cond_true] at hD
        refine k_runB (pc' := 47) (loc' := [(0, .ref 40960), (1, .int x1), (2, .int x3), (3, .int x3), (4, .int v8)]) (st' := [.int v8, .ref 40960]) 4 rfl ?_
        obtain ⟨F13, hF13, hD⟩ := Option.bind_eq_some_iff.mp hD
        refine k_ptI rfl (ht 76) rfl rfl hF13 ?_
        refine k_runB (pc' := 14) (loc' := [(0, .ref 40960), (1, .int x1), (2, .int x3), (3, .int (x3 + 1)), (4, .int v8)]) (st' := []) 2 rfl ?_
        refine k_wk [0, 1, 2, 3] (loc' := [(0, .ref 40960), (1, .int x1), (2, .int x3), (3, .int (x3 + 1))]) rfl rfl ?_
        exact hK14 _ _ _ _ _ _ _ hD
      · rw [c36_11, cond_false] at hD
        refine k_runB (pc' := 50) (loc' := [(0, .ref 40960), (1, .int x1), (2, .int x2), (3, .int x3), (4, .int v8)]) (st' := []) 1 rfl ?_
        refine k_wk [0, 1, 2, 3] (loc' := [(0, .ref 40960), (1, .int x1), (2, .int x2), (3, .int x3)]) rfl rfl ?_
        exact t_d_bestOption_50 ht hK14 hD
/-- SleepWorkModel.bestOption(I)I -/
def d_bestOption (n : Nat) (F : Nat → Int32) (A : Nat → Nat → Int32) (J : Nat → Nat → Int64) (x1 : Int32) : Option (Int32 × (Nat → Int32) × (Nat → Nat → Int32) × (Nat → Nat → Int64)) :=
  (d_gainBy n F A J x1 0).bind fun (v1, F2, A3, J4) =>
  (m_pf F2 76 v1).bind fun F5 =>
  d_bestOption_14 n F5 A3 J4 x1 0 1
theorem t_d_bestOption (ht : ∀ k, t.1 12 k = k_ty 12 k) {n : Nat} {x1 : Int32} {r : Int32} {F' : Nat → Int32} {A' : Nat → Nat → Int32} {J' : Nat → Nat → Int64} : d_bestOption n F A J x1 = some (r, F', A', J') → k_run t lg (d + 6) 221 0 [(0, .ref 40960), (1, .int x1)] [] (m_h c B F A J) (some (.int r), m_h c B F' A' J') := by
  intro hD
  unfold d_bestOption at hD
  refine k_runB (pc' := 6) (loc' := [(0, .ref 40960), (1, .int x1), (2, .int 0)]) (st' := [.int 0, .int x1, .ref 40960, .ref 40960]) 6 rfl ?_
  obtain ⟨⟨v1, F2, A3, J4⟩, hv1, hD⟩ := Option.bind_eq_some_iff.mp hD
  dsimp only at hD
  refine k_runC rfl rfl rfl rfl (t_d_gainBy (d := d) ht hv1) ?_
  obtain ⟨F5, hF5, hD⟩ := Option.bind_eq_some_iff.mp hD
  refine k_ptI rfl (ht 76) rfl rfl hF5 ?_
  refine k_runB (pc' := 14) (loc' := [(0, .ref 40960), (1, .int x1), (2, .int 0), (3, .int 1)]) (st' := []) 2 rfl ?_
  refine k_wk [0, 1, 2, 3] (loc' := [(0, .ref 40960), (1, .int x1), (2, .int 0), (3, .int 1)]) rfl rfl ?_
  exact t_d_bestOption_14 ht  hD
/-- SleepWorkModel.best(II)I -/
def d_best (n : Nat) (F : Nat → Int32) (A : Nat → Nat → Int32) (J : Nat → Nat → Int64) (x1 : Int32) (x2 : Int32) : Option (Int32 × (Nat → Int32) × (Nat → Nat → Int32) × (Nat → Nat → Int64)) :=
  (d_isMan F A J x1).bind fun v1 =>
  cond (g_cnd .eq v1 0)
  (some ((-1), F, A, J))
  ((d_in x2 0 1).bind fun v3 =>
  cond (g_cnd .ne v3 0)
  ((d_bestOption n F A J x1).bind fun (v5, F6, A7, J8) =>
  cond (g_cnd .ne x2 0)
  ((d_codeOf n F6 A7 J8 x1 v5).bind fun (v10, F11, A12, J13) =>
  some (v10, F11, A12, J13))
  (some (F6 76, F6, A7, J8)))
  (some ((-1), F, A, J)))
theorem t_d_best (ht : ∀ k, t.1 12 k = k_ty 12 k) {n : Nat} {x1 : Int32} {x2 : Int32} {r : Int32} {F' : Nat → Int32} {A' : Nat → Nat → Int32} {J' : Nat → Nat → Int64} : d_best n F A J x1 x2 = some (r, F', A', J') → k_run t lg (d + 7) 222 0 [(0, .ref 40960), (1, .int x1), (2, .int x2)] [] (m_h c B F A J) (some (.int r), m_h c B F' A' J') := by
  intro hD
  unfold d_best at hD
  refine k_runB (pc' := 2) (loc' := [(0, .ref 40960), (1, .int x1), (2, .int x2)]) (st' := [.int x1, .ref 40960]) 2 rfl ?_
  obtain ⟨v1, hv1, hD⟩ := Option.bind_eq_some_iff.mp hD
  refine k_runC rfl rfl rfl rfl (t_d_isMan (d := d + 5) hv1) ?_
  refine k_if rfl (fun c5_1 => ?_) (fun c5_1 => ?_)
  · rw [c5_1, cond_true] at hD
    refine k_runB (pc' := 18) (loc' := [(0, .ref 40960), (1, .int x1), (2, .int x2)]) (st' := [.int ((-1))]) 1 rfl ?_
    cases hD
    exact k_iret rfl rfl
  · rw [c5_1, cond_false] at hD
    refine k_runB (pc' := 11) (loc' := [(0, .ref 40960), (1, .int x1), (2, .int x2)]) (st' := [.int 1, .int 0, .int x2]) 3 rfl ?_
    obtain ⟨v3, hv3, hD⟩ := Option.bind_eq_some_iff.mp hD
    refine k_runC rfl rfl rfl rfl (t_d_in (d := d + 6) hv3) ?_
    refine k_if rfl (fun c14_3 => ?_) (fun c14_3 => ?_)
    · rw [c14_3, cond_true] at hD
      refine k_runB (pc' := 21) (loc' := [(0, .ref 40960), (1, .int x1), (2, .int x2)]) (st' := [.int x1, .ref 40960]) 2 rfl ?_
      obtain ⟨⟨v5, F6, A7, J8⟩, hv5, hD⟩ := Option.bind_eq_some_iff.mp hD
      dsimp only at hD
      refine k_runC rfl rfl rfl rfl (t_d_bestOption (d := d) ht hv5) ?_
      refine k_runB (pc' := 26) (loc' := [(0, .ref 40960), (1, .int x1), (2, .int x2), (3, .int v5)]) (st' := [.int x2]) 2 rfl ?_
      refine k_if rfl (fun c26_8 => ?_) (fun c26_8 => ?_)
      · rw [c26_8, cond_true] at hD
        refine k_runB (pc' := 39) (loc' := [(0, .ref 40960), (1, .int x1), (2, .int x2), (3, .int v5)]) (st' := [.int v5, .int x1, .ref 40960]) 3 rfl ?_
        obtain ⟨⟨v10, F11, A12, J13⟩, hv10, hD⟩ := Option.bind_eq_some_iff.mp hD
        dsimp only at hD
        refine k_runC rfl rfl rfl rfl (t_d_codeOf (d := d + 4) hv10) ?_
        cases hD
        exact k_iret rfl rfl
      · rw [c26_8, cond_false] at hD
        refine k_runB (pc' := 42) (loc' := [(0, .ref 40960), (1, .int x1), (2, .int x2), (3, .int v5)]) (st' := [.int (F6 76)]) 3 rfl ?_
        cases hD
        exact k_iret rfl rfl
    · rw [c14_3, cond_false] at hD
      refine k_runB (pc' := 18) (loc' := [(0, .ref 40960), (1, .int x1), (2, .int x2)]) (st' := [.int ((-1))]) 1 rfl ?_
      cases hD
      exact k_iret rfl rfl
def d_bestOfTwo_118 (K44 : (Nat → Int32) → (Nat → Nat → Int32) → (Nat → Nat → Int64) → Int32 → Int32 → Int32 → Int32 → Int32 → Int32 → Int32 → Option (Int32 × (Nat → Int32) × (Nat → Nat → Int32) × (Nat → Nat → Int64))) (K56 : (Nat → Int32) → (Nat → Nat → Int32) → (Nat → Nat → Int64) → Int32 → Int32 → Int32 → Int32 → Int32 → Int32 → Int32 → Int32 → Option (Int32 × (Nat → Int32) × (Nat → Nat → Int32) × (Nat → Nat → Int64))) (n : Nat) (F : Nat → Int32) (A : Nat → Nat → Int32) (J : Nat → Nat → Int64) (x1 : Int32) (x2 : Int32) (x3 : Int32) (x4 : Int32) (x5 : Int32) (x6 : Int32) (x7 : Int32) (x8 : Int32) : Option (Int32 × (Nat → Int32) × (Nat → Nat → Int32) × (Nat → Nat → Int64)) :=
    K56 F A J x1 x2 x3 x4 x5 x6 x7 (x8 + 1)
theorem t_d_bestOfTwo_118 (ht : ∀ k, t.1 12 k = k_ty 12 k) {n : Nat} {K44 : (Nat → Int32) → (Nat → Nat → Int32) → (Nat → Nat → Int64) → Int32 → Int32 → Int32 → Int32 → Int32 → Int32 → Int32 → Option (Int32 × (Nat → Int32) × (Nat → Nat → Int32) × (Nat → Nat → Int64))} {K56 : (Nat → Int32) → (Nat → Nat → Int32) → (Nat → Nat → Int64) → Int32 → Int32 → Int32 → Int32 → Int32 → Int32 → Int32 → Int32 → Option (Int32 × (Nat → Int32) × (Nat → Nat → Int32) × (Nat → Nat → Int64))} (hK44 : ∀ (F : Nat → Int32) (A : Nat → Nat → Int32) (J : Nat → Nat → Int64) (x1 : Int32) (x2 : Int32) (x3 : Int32) (x4 : Int32) (x5 : Int32) (x6 : Int32) (x7 : Int32) (w : Int32 × (Nat → Int32) × (Nat → Nat → Int32) × (Nat → Nat → Int64)), K44 F A J x1 x2 x3 x4 x5 x6 x7 = some w → k_run t lg (d + 5) 223 44 [(0, .ref 40960), (1, .int x1), (2, .int x2), (3, .int x3), (4, .int x4), (5, .int x5), (6, .int x6), (7, .int x7)] [] (m_h c B F A J) (some (.int w.1), m_h c B w.2.1 w.2.2.1 w.2.2.2)) (hK56 : ∀ (F : Nat → Int32) (A : Nat → Nat → Int32) (J : Nat → Nat → Int64) (x1 : Int32) (x2 : Int32) (x3 : Int32) (x4 : Int32) (x5 : Int32) (x6 : Int32) (x7 : Int32) (x8 : Int32) (w : Int32 × (Nat → Int32) × (Nat → Nat → Int32) × (Nat → Nat → Int64)), K56 F A J x1 x2 x3 x4 x5 x6 x7 x8 = some w → k_run t lg (d + 5) 223 56 [(0, .ref 40960), (1, .int x1), (2, .int x2), (3, .int x3), (4, .int x4), (5, .int x5), (6, .int x6), (7, .int x7), (8, .int x8)] [] (m_h c B F A J) (some (.int w.1), m_h c B w.2.1 w.2.2.1 w.2.2.2)) {F : Nat → Int32} {A : Nat → Nat → Int32} {J : Nat → Nat → Int64} {x1 : Int32} {x2 : Int32} {x3 : Int32} {x4 : Int32} {x5 : Int32} {x6 : Int32} {x7 : Int32} {x8 : Int32} {w : Int32 × (Nat → Int32) × (Nat → Nat → Int32) × (Nat → Nat → Int64)} : d_bestOfTwo_118 K44 K56 n F A J x1 x2 x3 x4 x5 x6 x7 x8 = some w → k_run t lg (d + 5) 223 118 [(0, .ref 40960), (1, .int x1), (2, .int x2), (3, .int x3), (4, .int x4), (5, .int x5), (6, .int x6), (7, .int x7), (8, .int x8)] [] (m_h c B F A J) (some (.int w.1), m_h c B w.2.1 w.2.2.1 w.2.2.2) := by
  intro hD
  unfold d_bestOfTwo_118 at hD
  refine k_runB (pc' := 56) (loc' := [(0, .ref 40960), (1, .int x1), (2, .int x2), (3, .int x3), (4, .int x4), (5, .int x5), (6, .int x6), (7, .int x7), (8, .int (x8 + 1))]) (st' := []) 2 rfl ?_
  refine k_wk [0, 1, 2, 3, 4, 5, 6, 7, 8] (loc' := [(0, .ref 40960), (1, .int x1), (2, .int x2), (3, .int x3), (4, .int x4), (5, .int x5), (6, .int x6), (7, .int x7), (8, .int (x8 + 1))]) rfl rfl ?_
  exact hK56 _ _ _ _ _ _ _ _ _ _ _ _ hD
def d_bestOfTwo_106 (K44 : (Nat → Int32) → (Nat → Nat → Int32) → (Nat → Nat → Int64) → Int32 → Int32 → Int32 → Int32 → Int32 → Int32 → Int32 → Option (Int32 × (Nat → Int32) × (Nat → Nat → Int32) × (Nat → Nat → Int64))) (K56 : (Nat → Int32) → (Nat → Nat → Int32) → (Nat → Nat → Int64) → Int32 → Int32 → Int32 → Int32 → Int32 → Int32 → Int32 → Int32 → Option (Int32 × (Nat → Int32) × (Nat → Nat → Int32) × (Nat → Nat → Int64))) (n : Nat) (F : Nat → Int32) (A : Nat → Nat → Int32) (J : Nat → Nat → Int64) (x1 : Int32) (x2 : Int32) (x3 : Int32) (x7 : Int32) (x8 : Int32) (x9 : Int32) : Option (Int32 × (Nat → Int32) × (Nat → Nat → Int32) × (Nat → Nat → Int64)) :=
    d_bestOfTwo_118 K44 K56 n F A J x1 x2 x3 x7 x8 x9 x7 x8
theorem t_d_bestOfTwo_106 (ht : ∀ k, t.1 12 k = k_ty 12 k) {n : Nat} {K44 : (Nat → Int32) → (Nat → Nat → Int32) → (Nat → Nat → Int64) → Int32 → Int32 → Int32 → Int32 → Int32 → Int32 → Int32 → Option (Int32 × (Nat → Int32) × (Nat → Nat → Int32) × (Nat → Nat → Int64))} {K56 : (Nat → Int32) → (Nat → Nat → Int32) → (Nat → Nat → Int64) → Int32 → Int32 → Int32 → Int32 → Int32 → Int32 → Int32 → Int32 → Option (Int32 × (Nat → Int32) × (Nat → Nat → Int32) × (Nat → Nat → Int64))} (hK44 : ∀ (F : Nat → Int32) (A : Nat → Nat → Int32) (J : Nat → Nat → Int64) (x1 : Int32) (x2 : Int32) (x3 : Int32) (x4 : Int32) (x5 : Int32) (x6 : Int32) (x7 : Int32) (w : Int32 × (Nat → Int32) × (Nat → Nat → Int32) × (Nat → Nat → Int64)), K44 F A J x1 x2 x3 x4 x5 x6 x7 = some w → k_run t lg (d + 5) 223 44 [(0, .ref 40960), (1, .int x1), (2, .int x2), (3, .int x3), (4, .int x4), (5, .int x5), (6, .int x6), (7, .int x7)] [] (m_h c B F A J) (some (.int w.1), m_h c B w.2.1 w.2.2.1 w.2.2.2)) (hK56 : ∀ (F : Nat → Int32) (A : Nat → Nat → Int32) (J : Nat → Nat → Int64) (x1 : Int32) (x2 : Int32) (x3 : Int32) (x4 : Int32) (x5 : Int32) (x6 : Int32) (x7 : Int32) (x8 : Int32) (w : Int32 × (Nat → Int32) × (Nat → Nat → Int32) × (Nat → Nat → Int64)), K56 F A J x1 x2 x3 x4 x5 x6 x7 x8 = some w → k_run t lg (d + 5) 223 56 [(0, .ref 40960), (1, .int x1), (2, .int x2), (3, .int x3), (4, .int x4), (5, .int x5), (6, .int x6), (7, .int x7), (8, .int x8)] [] (m_h c B F A J) (some (.int w.1), m_h c B w.2.1 w.2.2.1 w.2.2.2)) {F : Nat → Int32} {A : Nat → Nat → Int32} {J : Nat → Nat → Int64} {x1 : Int32} {x2 : Int32} {x3 : Int32} {x7 : Int32} {x8 : Int32} {x9 : Int32} {w : Int32 × (Nat → Int32) × (Nat → Nat → Int32) × (Nat → Nat → Int64)} : d_bestOfTwo_106 K44 K56 n F A J x1 x2 x3 x7 x8 x9 = some w → k_run t lg (d + 5) 223 106 [(0, .ref 40960), (1, .int x1), (2, .int x2), (3, .int x3), (7, .int x7), (8, .int x8), (9, .int x9)] [] (m_h c B F A J) (some (.int w.1), m_h c B w.2.1 w.2.2.1 w.2.2.2) := by
  intro hD
  unfold d_bestOfTwo_106 at hD
  refine k_runB (pc' := 118) (loc' := [(0, .ref 40960), (1, .int x1), (2, .int x2), (3, .int x3), (4, .int x7), (5, .int x8), (6, .int x9), (7, .int x7), (8, .int x8), (9, .int x9)]) (st' := []) 6 rfl ?_
  refine k_wk [0, 1, 2, 3, 4, 5, 6, 7, 8] (loc' := [(0, .ref 40960), (1, .int x1), (2, .int x2), (3, .int x3), (4, .int x7), (5, .int x8), (6, .int x9), (7, .int x7), (8, .int x8)]) rfl rfl ?_
  exact t_d_bestOfTwo_118 ht hK44 hK56 hD
def d_bestOfTwo_56 (K44 : (Nat → Int32) → (Nat → Nat → Int32) → (Nat → Nat → Int64) → Int32 → Int32 → Int32 → Int32 → Int32 → Int32 → Int32 → Option (Int32 × (Nat → Int32) × (Nat → Nat → Int32) × (Nat → Nat → Int64))) : Nat → (Nat → Int32) → (Nat → Nat → Int32) → (Nat → Nat → Int64) → Int32 → Int32 → Int32 → Int32 → Int32 → Int32 → Int32 → Int32 → Option (Int32 × (Nat → Int32) × (Nat → Nat → Int32) × (Nat → Nat → Int64))
  | 0, _, _, _, _, _, _, _, _, _, _, _ => none
  | n + 1, F, A, J, x1, x2, x3, x4, x5, x6, x7, x8 => (d_options n F A J).bind fun v20 =>
    cond (g_cnd .ge x8 v20)
    (K44 F A J x1 x2 x3 x4 x5 x6 (x7 + 1))
    ((d_takes n F A J).bind fun (_, F23, A24, J25) =>
    (d_leaves n F23 A24 J25 x1 x7).bind fun (v26, F27, A28, J29) =>
    (d_leaves n F27 A28 J29 x2 x8).bind fun (v30, F31, A32, J33) =>
    (d_wholeNight n F31 A32 J33).bind fun (v34, F35, A36, J37) =>
    cond (g_cnd .lt x4 0)
    (d_bestOfTwo_106 K44 (d_bestOfTwo_56 K44 n) n F35 A36 J37 x1 x2 x3 x7 x8 v34)
    (cond (g_cnd .gt v34 x6)
    (d_bestOfTwo_106 K44 (d_bestOfTwo_56 K44 n) n F35 A36 J37 x1 x2 x3 x7 x8 v34)
    (d_bestOfTwo_118 K44 (d_bestOfTwo_56 K44 n) n F35 A36 J37 x1 x2 x3 x4 x5 x6 x7 x8)))
theorem t_d_bestOfTwo_56 (ht : ∀ k, t.1 12 k = k_ty 12 k) {n : Nat} {K44 : (Nat → Int32) → (Nat → Nat → Int32) → (Nat → Nat → Int64) → Int32 → Int32 → Int32 → Int32 → Int32 → Int32 → Int32 → Option (Int32 × (Nat → Int32) × (Nat → Nat → Int32) × (Nat → Nat → Int64))} (hK44 : ∀ (F : Nat → Int32) (A : Nat → Nat → Int32) (J : Nat → Nat → Int64) (x1 : Int32) (x2 : Int32) (x3 : Int32) (x4 : Int32) (x5 : Int32) (x6 : Int32) (x7 : Int32) (w : Int32 × (Nat → Int32) × (Nat → Nat → Int32) × (Nat → Nat → Int64)), K44 F A J x1 x2 x3 x4 x5 x6 x7 = some w → k_run t lg (d + 5) 223 44 [(0, .ref 40960), (1, .int x1), (2, .int x2), (3, .int x3), (4, .int x4), (5, .int x5), (6, .int x6), (7, .int x7)] [] (m_h c B F A J) (some (.int w.1), m_h c B w.2.1 w.2.2.1 w.2.2.2)) {F : Nat → Int32} {A : Nat → Nat → Int32} {J : Nat → Nat → Int64} {x1 : Int32} {x2 : Int32} {x3 : Int32} {x4 : Int32} {x5 : Int32} {x6 : Int32} {x7 : Int32} {x8 : Int32} {w : Int32 × (Nat → Int32) × (Nat → Nat → Int32) × (Nat → Nat → Int64)} : d_bestOfTwo_56 K44 n F A J x1 x2 x3 x4 x5 x6 x7 x8 = some w → k_run t lg (d + 5) 223 56 [(0, .ref 40960), (1, .int x1), (2, .int x2), (3, .int x3), (4, .int x4), (5, .int x5), (6, .int x6), (7, .int x7), (8, .int x8)] [] (m_h c B F A J) (some (.int w.1), m_h c B w.2.1 w.2.2.1 w.2.2.2) := by
  induction n generalizing F A J x1 x2 x3 x4 x5 x6 x7 x8 w with
  | zero => intro hD; cases hD
  | succ n ih =>
    intro hD
    have hK56 : ∀ (F : Nat → Int32) (A : Nat → Nat → Int32) (J : Nat → Nat → Int64) (x1 : Int32) (x2 : Int32) (x3 : Int32) (x4 : Int32) (x5 : Int32) (x6 : Int32) (x7 : Int32) (x8 : Int32) (w : Int32 × (Nat → Int32) × (Nat → Nat → Int32) × (Nat → Nat → Int64)), d_bestOfTwo_56 K44 n F A J x1 x2 x3 x4 x5 x6 x7 x8 = some w → k_run t lg (d + 5) 223 56 [(0, .ref 40960), (1, .int x1), (2, .int x2), (3, .int x3), (4, .int x4), (5, .int x5), (6, .int x6), (7, .int x7), (8, .int x8)] [] (m_h c B F A J) (some (.int w.1), m_h c B w.2.1 w.2.2.1 w.2.2.2) := fun _ _ _ _ _ _ _ _ _ _ _ _ h => ih h
    unfold d_bestOfTwo_56 at hD
    refine k_runB (pc' := 59) (loc' := [(0, .ref 40960), (1, .int x1), (2, .int x2), (3, .int x3), (4, .int x4), (5, .int x5), (6, .int x6), (7, .int x7), (8, .int x8)]) (st' := [.ref 40960, .int x8]) 2 rfl ?_
    obtain ⟨v20, hv20, hD⟩ := Option.bind_eq_some_iff.mp hD
    refine k_runC rfl rfl rfl rfl (t_d_options (d := d + 3) hv20) ?_
    refine k_ic rfl (fun c62_20 => ?_) (fun c62_20 => ?_)
    · rw [c62_20, cond_true] at hD
      refine k_runB (pc' := 44) (loc' := [(0, .ref 40960), (1, .int x1), (2, .int x2), (3, .int x3), (4, .int x4), (5, .int x5), (6, .int x6), (7, .int (x7 + 1)), (8, .int x8)]) (st' := []) 2 rfl ?_
      refine k_wk [0, 1, 2, 3, 4, 5, 6, 7] (loc' := [(0, .ref 40960), (1, .int x1), (2, .int x2), (3, .int x3), (4, .int x4), (5, .int x5), (6, .int x6), (7, .int (x7 + 1))]) rfl rfl ?_
      exact hK44 _ _ _ _ _ _ _ _ _ _ _ hD
    · rw [c62_20, cond_false] at hD
      refine k_runB (pc' := 66) (loc' := [(0, .ref 40960), (1, .int x1), (2, .int x2), (3, .int x3), (4, .int x4), (5, .int x5), (6, .int x6), (7, .int x7), (8, .int x8)]) (st' := [.ref 40960]) 1 rfl ?_
      obtain ⟨⟨v22, F23, A24, J25⟩, hv22, hD⟩ := Option.bind_eq_some_iff.mp hD
      dsimp only at hD
      refine k_runC rfl rfl rfl rfl (t_d_takes (d := d + 4) hv22) ?_
      refine k_runB (pc' := 73) (loc' := [(0, .ref 40960), (1, .int x1), (2, .int x2), (3, .int x3), (4, .int x4), (5, .int x5), (6, .int x6), (7, .int x7), (8, .int x8)]) (st' := [.int x7, .int x1, .ref 40960]) 3 rfl ?_
      obtain ⟨⟨v26, F27, A28, J29⟩, hv26, hD⟩ := Option.bind_eq_some_iff.mp hD
      dsimp only at hD
      refine k_runC rfl rfl rfl rfl (t_d_leaves (d := d + 3) hv26) ?_
      refine k_runB (pc' := 81) (loc' := [(0, .ref 40960), (1, .int x1), (2, .int x2), (3, .int x3), (4, .int x4), (5, .int x5), (6, .int x6), (7, .int x7), (8, .int x8)]) (st' := [.int x8, .int x2, .ref 40960]) 4 rfl ?_
      obtain ⟨⟨v30, F31, A32, J33⟩, hv30, hD⟩ := Option.bind_eq_some_iff.mp hD
      dsimp only at hD
      refine k_runC rfl rfl rfl rfl (t_d_leaves (d := d + 3) hv30) ?_
      refine k_runB (pc' := 86) (loc' := [(0, .ref 40960), (1, .int x1), (2, .int x2), (3, .int x3), (4, .int x4), (5, .int x5), (6, .int x6), (7, .int x7), (8, .int x8)]) (st' := [.ref 40960]) 2 rfl ?_
      obtain ⟨⟨v34, F35, A36, J37⟩, hv34, hD⟩ := Option.bind_eq_some_iff.mp hD
      dsimp only at hD
      refine k_runC rfl rfl rfl rfl (t_d_wholeNight (d := d) ht hv34) ?_
      refine k_runB (pc' := 93) (loc' := [(0, .ref 40960), (1, .int x1), (2, .int x2), (3, .int x3), (4, .int x4), (5, .int x5), (6, .int x6), (7, .int x7), (8, .int x8), (9, .int v34)]) (st' := [.int x4]) 2 rfl ?_
      refine k_if rfl (fun c93_37 => ?_) (fun c93_37 => ?_)
      · rw [c93_37, cond_true] at hD
        refine k_wk [0, 1, 2, 3, 7, 8, 9] (loc' := [(0, .ref 40960), (1, .int x1), (2, .int x2), (3, .int x3), (7, .int x7), (8, .int x8), (9, .int v34)]) rfl rfl ?_
        exact t_d_bestOfTwo_106 ht hK44 hK56 hD
      · rw [c93_37, cond_false] at hD
        refine k_runB (pc' := 100) (loc' := [(0, .ref 40960), (1, .int x1), (2, .int x2), (3, .int x3), (4, .int x4), (5, .int x5), (6, .int x6), (7, .int x7), (8, .int x8), (9, .int v34)]) (st' := [.int x6, .int v34]) 2 rfl ?_
        refine k_ic rfl (fun c100_38 => ?_) (fun c100_38 => ?_)
        · rw [c100_38, cond_true] at hD
          refine k_wk [0, 1, 2, 3, 7, 8, 9] (loc' := [(0, .ref 40960), (1, .int x1), (2, .int x2), (3, .int x3), (7, .int x7), (8, .int x8), (9, .int v34)]) rfl rfl ?_
          exact t_d_bestOfTwo_106 ht hK44 hK56 hD
        · rw [c100_38, cond_false] at hD
          refine k_runB (pc' := 118) (loc' := [(0, .ref 40960), (1, .int x1), (2, .int x2), (3, .int x3), (4, .int x4), (5, .int x5), (6, .int x6), (7, .int x7), (8, .int x8), (9, .int v34)]) (st' := []) 1 rfl ?_
          refine k_wk [0, 1, 2, 3, 4, 5, 6, 7, 8] (loc' := [(0, .ref 40960), (1, .int x1), (2, .int x2), (3, .int x3), (4, .int x4), (5, .int x5), (6, .int x6), (7, .int x7), (8, .int x8)]) rfl rfl ?_
          exact t_d_bestOfTwo_118 ht hK44 hK56 hD
def d_bestOfTwo_44 : Nat → (Nat → Int32) → (Nat → Nat → Int32) → (Nat → Nat → Int64) → Int32 → Int32 → Int32 → Int32 → Int32 → Int32 → Int32 → Option (Int32 × (Nat → Int32) × (Nat → Nat → Int32) × (Nat → Nat → Int64))
  | 0, _, _, _, _, _, _, _, _, _, _ => none
  | n + 1, F, A, J, x1, x2, x3, x4, x5, x6, x7 => (d_options n F A J).bind fun v8 =>
    cond (g_cnd .ge x7 v8)
    (cond (g_cnd .ne x3 0)
    (cond (g_cnd .ne x3 1)
    ((d_codeOf n F A J x2 x5).bind fun (v12, F13, A14, J15) =>
    some (v12, F13, A14, J15))
    ((d_codeOf n F A J x1 x4).bind fun (v16, F17, A18, J19) =>
    some (v16, F17, A18, J19)))
    (some (x6, F, A, J)))
    (d_bestOfTwo_56 (d_bestOfTwo_44 n) n F A J x1 x2 x3 x4 x5 x6 x7 0)
theorem t_d_bestOfTwo_44 (ht : ∀ k, t.1 12 k = k_ty 12 k) {n : Nat}  {F : Nat → Int32} {A : Nat → Nat → Int32} {J : Nat → Nat → Int64} {x1 : Int32} {x2 : Int32} {x3 : Int32} {x4 : Int32} {x5 : Int32} {x6 : Int32} {x7 : Int32} {w : Int32 × (Nat → Int32) × (Nat → Nat → Int32) × (Nat → Nat → Int64)} : d_bestOfTwo_44 n F A J x1 x2 x3 x4 x5 x6 x7 = some w → k_run t lg (d + 5) 223 44 [(0, .ref 40960), (1, .int x1), (2, .int x2), (3, .int x3), (4, .int x4), (5, .int x5), (6, .int x6), (7, .int x7)] [] (m_h c B F A J) (some (.int w.1), m_h c B w.2.1 w.2.2.1 w.2.2.2) := by
  induction n generalizing F A J x1 x2 x3 x4 x5 x6 x7 w with
  | zero => intro hD; cases hD
  | succ n ih =>
    intro hD
    have hK44 : ∀ (F : Nat → Int32) (A : Nat → Nat → Int32) (J : Nat → Nat → Int64) (x1 : Int32) (x2 : Int32) (x3 : Int32) (x4 : Int32) (x5 : Int32) (x6 : Int32) (x7 : Int32) (w : Int32 × (Nat → Int32) × (Nat → Nat → Int32) × (Nat → Nat → Int64)), d_bestOfTwo_44 n F A J x1 x2 x3 x4 x5 x6 x7 = some w → k_run t lg (d + 5) 223 44 [(0, .ref 40960), (1, .int x1), (2, .int x2), (3, .int x3), (4, .int x4), (5, .int x5), (6, .int x6), (7, .int x7)] [] (m_h c B F A J) (some (.int w.1), m_h c B w.2.1 w.2.2.1 w.2.2.2) := fun _ _ _ _ _ _ _ _ _ _ _ h => ih h
    unfold d_bestOfTwo_44 at hD
    refine k_runB (pc' := 47) (loc' := [(0, .ref 40960), (1, .int x1), (2, .int x2), (3, .int x3), (4, .int x4), (5, .int x5), (6, .int x6), (7, .int x7)]) (st' := [.ref 40960, .int x7]) 2 rfl ?_
    obtain ⟨v8, hv8, hD⟩ := Option.bind_eq_some_iff.mp hD
    refine k_runC rfl rfl rfl rfl (t_d_options (d := d + 3) hv8) ?_
    refine k_ic rfl (fun c50_8 => ?_) (fun c50_8 => ?_)
    · rw [c50_8, cond_true] at hD
      refine k_runB (pc' := 131) (loc' := [(0, .ref 40960), (1, .int x1), (2, .int x2), (3, .int x3), (4, .int x4), (5, .int x5), (6, .int x6), (7, .int x7)]) (st' := [.int x3]) 1 rfl ?_
      refine k_if rfl (fun c131_9 => ?_) (fun c131_9 => ?_)
      · rw [c131_9, cond_true] at hD
        refine k_runB (pc' := 141) (loc' := [(0, .ref 40960), (1, .int x1), (2, .int x2), (3, .int x3), (4, .int x4), (5, .int x5), (6, .int x6), (7, .int x7)]) (st' := [.int 1, .int x3]) 2 rfl ?_
        refine k_ic rfl (fun c141_10 => ?_) (fun c141_10 => ?_)
        · rw [c141_10, cond_true] at hD
          refine k_runB (pc' := 158) (loc' := [(0, .ref 40960), (1, .int x1), (2, .int x2), (3, .int x3), (4, .int x4), (5, .int x5), (6, .int x6), (7, .int x7)]) (st' := [.int x5, .int x2, .ref 40960]) 3 rfl ?_
          obtain ⟨⟨v12, F13, A14, J15⟩, hv12, hD⟩ := Option.bind_eq_some_iff.mp hD
          dsimp only at hD
          refine k_runC rfl rfl rfl rfl (t_d_codeOf (d := d + 2) hv12) ?_
          cases hD
          exact k_iret rfl rfl
        · rw [c141_10, cond_false] at hD
          refine k_runB (pc' := 148) (loc' := [(0, .ref 40960), (1, .int x1), (2, .int x2), (3, .int x3), (4, .int x4), (5, .int x5), (6, .int x6), (7, .int x7)]) (st' := [.int x4, .int x1, .ref 40960]) 3 rfl ?_
          obtain ⟨⟨v16, F17, A18, J19⟩, hv16, hD⟩ := Option.bind_eq_some_iff.mp hD
          dsimp only at hD
          refine k_runC rfl rfl rfl rfl (t_d_codeOf (d := d + 2) hv16) ?_
          refine k_runB (pc' := 161) (loc' := [(0, .ref 40960), (1, .int x1), (2, .int x2), (3, .int x3), (4, .int x4), (5, .int x5), (6, .int x6), (7, .int x7)]) (st' := [.int v16]) 1 rfl ?_
          cases hD
          exact k_iret rfl rfl
      · rw [c131_9, cond_false] at hD
        refine k_runB (pc' := 161) (loc' := [(0, .ref 40960), (1, .int x1), (2, .int x2), (3, .int x3), (4, .int x4), (5, .int x5), (6, .int x6), (7, .int x7)]) (st' := [.int x6]) 2 rfl ?_
        cases hD
        exact k_iret rfl rfl
    · rw [c50_8, cond_false] at hD
      refine k_runB (pc' := 56) (loc' := [(0, .ref 40960), (1, .int x1), (2, .int x2), (3, .int x3), (4, .int x4), (5, .int x5), (6, .int x6), (7, .int x7), (8, .int 0)]) (st' := []) 2 rfl ?_
      refine k_wk [0, 1, 2, 3, 4, 5, 6, 7, 8] (loc' := [(0, .ref 40960), (1, .int x1), (2, .int x2), (3, .int x3), (4, .int x4), (5, .int x5), (6, .int x6), (7, .int x7), (8, .int 0)]) rfl rfl ?_
      exact t_d_bestOfTwo_56 ht hK44 hD
/-- SleepWorkModel.bestOfTwo(III)I -/
def d_bestOfTwo (n : Nat) (F : Nat → Int32) (A : Nat → Nat → Int32) (J : Nat → Nat → Int64) (x1 : Int32) (x2 : Int32) (x3 : Int32) : Option (Int32 × (Nat → Int32) × (Nat → Nat → Int32) × (Nat → Nat → Int64)) :=
  (d_isMan F A J x1).bind fun v1 =>
  cond (g_cnd .eq v1 0)
  (some ((-1), F, A, J))
  ((d_isMan F A J x2).bind fun v3 =>
  cond (g_cnd .eq v3 0)
  (some ((-1), F, A, J))
  (cond (g_cnd .eq x1 x2)
  (some ((-1), F, A, J))
  ((d_in x3 0 2).bind fun v6 =>
  cond (g_cnd .ne v6 0)
  (d_bestOfTwo_44 n F A J x1 x2 x3 ((-1)) 0 0 0)
  (some ((-1), F, A, J)))))
theorem t_d_bestOfTwo (ht : ∀ k, t.1 12 k = k_ty 12 k) {n : Nat} {x1 : Int32} {x2 : Int32} {x3 : Int32} {r : Int32} {F' : Nat → Int32} {A' : Nat → Nat → Int32} {J' : Nat → Nat → Int64} : d_bestOfTwo n F A J x1 x2 x3 = some (r, F', A', J') → k_run t lg (d + 5) 223 0 [(0, .ref 40960), (1, .int x1), (2, .int x2), (3, .int x3)] [] (m_h c B F A J) (some (.int r), m_h c B F' A' J') := by
  intro hD
  unfold d_bestOfTwo at hD
  refine k_runB (pc' := 2) (loc' := [(0, .ref 40960), (1, .int x1), (2, .int x2), (3, .int x3)]) (st' := [.int x1, .ref 40960]) 2 rfl ?_
  obtain ⟨v1, hv1, hD⟩ := Option.bind_eq_some_iff.mp hD
  refine k_runC rfl rfl rfl rfl (t_d_isMan (d := d + 3) hv1) ?_
  refine k_if rfl (fun c5_1 => ?_) (fun c5_1 => ?_)
  · rw [c5_1, cond_true] at hD
    refine k_runB (pc' := 31) (loc' := [(0, .ref 40960), (1, .int x1), (2, .int x2), (3, .int x3)]) (st' := [.int ((-1))]) 1 rfl ?_
    cases hD
    exact k_iret rfl rfl
  · rw [c5_1, cond_false] at hD
    refine k_runB (pc' := 10) (loc' := [(0, .ref 40960), (1, .int x1), (2, .int x2), (3, .int x3)]) (st' := [.int x2, .ref 40960]) 2 rfl ?_
    obtain ⟨v3, hv3, hD⟩ := Option.bind_eq_some_iff.mp hD
    refine k_runC rfl rfl rfl rfl (t_d_isMan (d := d + 3) hv3) ?_
    refine k_if rfl (fun c13_3 => ?_) (fun c13_3 => ?_)
    · rw [c13_3, cond_true] at hD
      refine k_runB (pc' := 31) (loc' := [(0, .ref 40960), (1, .int x1), (2, .int x2), (3, .int x3)]) (st' := [.int ((-1))]) 1 rfl ?_
      cases hD
      exact k_iret rfl rfl
    · rw [c13_3, cond_false] at hD
      refine k_runB (pc' := 18) (loc' := [(0, .ref 40960), (1, .int x1), (2, .int x2), (3, .int x3)]) (st' := [.int x2, .int x1]) 2 rfl ?_
      refine k_ic rfl (fun c18_4 => ?_) (fun c18_4 => ?_)
      · rw [c18_4, cond_true] at hD
        refine k_runB (pc' := 31) (loc' := [(0, .ref 40960), (1, .int x1), (2, .int x2), (3, .int x3)]) (st' := [.int ((-1))]) 1 rfl ?_
        cases hD
        exact k_iret rfl rfl
      · rw [c18_4, cond_false] at hD
        refine k_runB (pc' := 24) (loc' := [(0, .ref 40960), (1, .int x1), (2, .int x2), (3, .int x3)]) (st' := [.int 2, .int 0, .int x3]) 3 rfl ?_
        obtain ⟨v6, hv6, hD⟩ := Option.bind_eq_some_iff.mp hD
        refine k_runC rfl rfl rfl rfl (t_d_in (d := d + 4) hv6) ?_
        refine k_if rfl (fun c27_6 => ?_) (fun c27_6 => ?_)
        · rw [c27_6, cond_true] at hD
          refine k_runB (pc' := 44) (loc' := [(0, .ref 40960), (1, .int x1), (2, .int x2), (3, .int x3), (4, .int ((-1))), (5, .int 0), (6, .int 0), (7, .int 0)]) (st' := []) 8 rfl ?_
          refine k_wk [0, 1, 2, 3, 4, 5, 6, 7] (loc' := [(0, .ref 40960), (1, .int x1), (2, .int x2), (3, .int x3), (4, .int ((-1))), (5, .int 0), (6, .int 0), (7, .int 0)]) rfl rfl ?_
          exact t_d_bestOfTwo_44 ht  hD
        · rw [c27_6, cond_false] at hD
          refine k_runB (pc' := 31) (loc' := [(0, .ref 40960), (1, .int x1), (2, .int x2), (3, .int x3)]) (st' := [.int ((-1))]) 1 rfl ?_
          cases hD
          exact k_iret rfl rfl
/-- SleepWorkModel.hire(I)I -/
def d_hire (n : Nat) (F : Nat → Int32) (A : Nat → Nat → Int32) (J : Nat → Nat → Int64) (x1 : Int32) : Option (Int32 × (Nat → Int32) × (Nat → Nat → Int32) × (Nat → Nat → Int64)) :=
  (d_isMan F A J x1).bind fun v1 =>
  cond (g_cnd .ne v1 0)
  ((d_bestOption n F A J x1).bind fun (v3, F4, A5, J6) =>
  (d_gainBy n F4 A5 J6 x1 0).bind fun (v7, F8, A9, J10) =>
  some ((F4 76) - v7, F8, A9, J10))
  (some ((-1000000), F, A, J))
theorem t_d_hire (ht : ∀ k, t.1 12 k = k_ty 12 k) {n : Nat} {x1 : Int32} {r : Int32} {F' : Nat → Int32} {A' : Nat → Nat → Int32} {J' : Nat → Nat → Int64} : d_hire n F A J x1 = some (r, F', A', J') → k_run t lg (d + 7) 224 0 [(0, .ref 40960), (1, .int x1)] [] (m_h c B F A J) (some (.int r), m_h c B F' A' J') := by
  intro hD
  unfold d_hire at hD
  refine k_runB (pc' := 2) (loc' := [(0, .ref 40960), (1, .int x1)]) (st' := [.int x1, .ref 40960]) 2 rfl ?_
  obtain ⟨v1, hv1, hD⟩ := Option.bind_eq_some_iff.mp hD
  refine k_runC rfl rfl rfl rfl (t_d_isMan (d := d + 5) hv1) ?_
  refine k_if rfl (fun c5_1 => ?_) (fun c5_1 => ?_)
  · rw [c5_1, cond_true] at hD
    refine k_runB (pc' := 14) (loc' := [(0, .ref 40960), (1, .int x1)]) (st' := [.int x1, .ref 40960]) 2 rfl ?_
    obtain ⟨⟨v3, F4, A5, J6⟩, hv3, hD⟩ := Option.bind_eq_some_iff.mp hD
    dsimp only at hD
    refine k_runC rfl rfl rfl rfl (t_d_bestOption (d := d) ht hv3) ?_
    refine k_runB (pc' := 25) (loc' := [(0, .ref 40960), (1, .int x1)]) (st' := [.int 0, .int x1, .ref 40960, .int (F4 76)]) 6 rfl ?_
    obtain ⟨⟨v7, F8, A9, J10⟩, hv7, hD⟩ := Option.bind_eq_some_iff.mp hD
    dsimp only at hD
    refine k_runC rfl rfl rfl rfl (t_d_gainBy (d := d + 1) ht hv7) ?_
    refine k_runB (pc' := 29) (loc' := [(0, .ref 40960), (1, .int x1)]) (st' := [.int ((F4 76) - v7)]) 1 rfl ?_
    cases hD
    exact k_iret rfl rfl
  · rw [c5_1, cond_false] at hD
    refine k_runB (pc' := 11) (loc' := [(0, .ref 40960), (1, .int x1)]) (st' := [.int ((-1000000))]) 1 rfl ?_
    cases hD
    exact k_iret rfl rfl
def d_hide_136 (K39 : (Nat → Int32) → (Nat → Nat → Int32) → (Nat → Nat → Int64) → Int32 → Int32 → Int32 → Int32 → Int32 → Option (Int32 × (Nat → Int32) × (Nat → Nat → Int32) × (Nat → Nat → Int64))) (n : Nat) (F : Nat → Int32) (A : Nat → Nat → Int32) (J : Nat → Nat → Int64) (x1 : Int32) (x2 : Int32) (x3 : Int32) (x4 : Int32) (x5 : Int32) : Option (Int32 × (Nat → Int32) × (Nat → Nat → Int32) × (Nat → Nat → Int64)) :=
    K39 F A J x1 x2 x3 x4 (x5 + 1)
theorem t_d_hide_136 (ht : ∀ k, t.1 12 k = k_ty 12 k) {n : Nat} {K39 : (Nat → Int32) → (Nat → Nat → Int32) → (Nat → Nat → Int64) → Int32 → Int32 → Int32 → Int32 → Int32 → Option (Int32 × (Nat → Int32) × (Nat → Nat → Int32) × (Nat → Nat → Int64))} (hK39 : ∀ (F : Nat → Int32) (A : Nat → Nat → Int32) (J : Nat → Nat → Int64) (x1 : Int32) (x2 : Int32) (x3 : Int32) (x4 : Int32) (x5 : Int32) (w : Int32 × (Nat → Int32) × (Nat → Nat → Int32) × (Nat → Nat → Int64)), K39 F A J x1 x2 x3 x4 x5 = some w → k_run t lg (d + 5) 225 39 [(0, .ref 40960), (1, .int x1), (2, .int x2), (3, .int x3), (4, .int x4), (5, .int x5)] [] (m_h c B F A J) (some (.int w.1), m_h c B w.2.1 w.2.2.1 w.2.2.2)) {F : Nat → Int32} {A : Nat → Nat → Int32} {J : Nat → Nat → Int64} {x1 : Int32} {x2 : Int32} {x3 : Int32} {x4 : Int32} {x5 : Int32} {w : Int32 × (Nat → Int32) × (Nat → Nat → Int32) × (Nat → Nat → Int64)} : d_hide_136 K39 n F A J x1 x2 x3 x4 x5 = some w → k_run t lg (d + 5) 225 136 [(0, .ref 40960), (1, .int x1), (2, .int x2), (3, .int x3), (4, .int x4), (5, .int x5)] [] (m_h c B F A J) (some (.int w.1), m_h c B w.2.1 w.2.2.1 w.2.2.2) := by
  intro hD
  unfold d_hide_136 at hD
  refine k_runB (pc' := 39) (loc' := [(0, .ref 40960), (1, .int x1), (2, .int x2), (3, .int x3), (4, .int x4), (5, .int (x5 + 1))]) (st' := []) 2 rfl ?_
  refine k_wk [0, 1, 2, 3, 4, 5] (loc' := [(0, .ref 40960), (1, .int x1), (2, .int x2), (3, .int x3), (4, .int x4), (5, .int (x5 + 1))]) rfl rfl ?_
  exact hK39 _ _ _ _ _ _ _ _ _ hD
def d_hide_129 (K39 : (Nat → Int32) → (Nat → Nat → Int32) → (Nat → Nat → Int64) → Int32 → Int32 → Int32 → Int32 → Int32 → Option (Int32 × (Nat → Int32) × (Nat → Nat → Int32) × (Nat → Nat → Int64))) (n : Nat) (F : Nat → Int32) (A : Nat → Nat → Int32) (J : Nat → Nat → Int64) (x1 : Int32) (x2 : Int32) (x5 : Int32) (x6 : Int32) (x7 : Int32) : Option (Int32 × (Nat → Int32) × (Nat → Nat → Int32) × (Nat → Nat → Int64)) :=
    d_hide_136 K39 n F A J x1 x2 x6 x7 x5
theorem t_d_hide_129 (ht : ∀ k, t.1 12 k = k_ty 12 k) {n : Nat} {K39 : (Nat → Int32) → (Nat → Nat → Int32) → (Nat → Nat → Int64) → Int32 → Int32 → Int32 → Int32 → Int32 → Option (Int32 × (Nat → Int32) × (Nat → Nat → Int32) × (Nat → Nat → Int64))} (hK39 : ∀ (F : Nat → Int32) (A : Nat → Nat → Int32) (J : Nat → Nat → Int64) (x1 : Int32) (x2 : Int32) (x3 : Int32) (x4 : Int32) (x5 : Int32) (w : Int32 × (Nat → Int32) × (Nat → Nat → Int32) × (Nat → Nat → Int64)), K39 F A J x1 x2 x3 x4 x5 = some w → k_run t lg (d + 5) 225 39 [(0, .ref 40960), (1, .int x1), (2, .int x2), (3, .int x3), (4, .int x4), (5, .int x5)] [] (m_h c B F A J) (some (.int w.1), m_h c B w.2.1 w.2.2.1 w.2.2.2)) {F : Nat → Int32} {A : Nat → Nat → Int32} {J : Nat → Nat → Int64} {x1 : Int32} {x2 : Int32} {x5 : Int32} {x6 : Int32} {x7 : Int32} {w : Int32 × (Nat → Int32) × (Nat → Nat → Int32) × (Nat → Nat → Int64)} : d_hide_129 K39 n F A J x1 x2 x5 x6 x7 = some w → k_run t lg (d + 5) 225 129 [(0, .ref 40960), (1, .int x1), (2, .int x2), (5, .int x5), (6, .int x6), (7, .int x7)] [] (m_h c B F A J) (some (.int w.1), m_h c B w.2.1 w.2.2.1 w.2.2.2) := by
  intro hD
  unfold d_hide_129 at hD
  refine k_runB (pc' := 136) (loc' := [(0, .ref 40960), (1, .int x1), (2, .int x2), (3, .int x6), (4, .int x7), (5, .int x5), (6, .int x6), (7, .int x7)]) (st' := []) 4 rfl ?_
  refine k_wk [0, 1, 2, 3, 4, 5] (loc' := [(0, .ref 40960), (1, .int x1), (2, .int x2), (3, .int x6), (4, .int x7), (5, .int x5)]) rfl rfl ?_
  exact t_d_hide_136 ht hK39 hD
def d_hide_92 (K39 : (Nat → Int32) → (Nat → Nat → Int32) → (Nat → Nat → Int64) → Int32 → Int32 → Int32 → Int32 → Int32 → Option (Int32 × (Nat → Int32) × (Nat → Nat → Int32) × (Nat → Nat → Int64))) (n : Nat) (F : Nat → Int32) (A : Nat → Nat → Int32) (J : Nat → Nat → Int64) (x1 : Int32) (x2 : Int32) (x3 : Int32) (x4 : Int32) (x5 : Int32) (s0 : Int32) : Option (Int32 × (Nat → Int32) × (Nat → Nat → Int32) × (Nat → Nat → Int64)) :=
    (d_takes n F A J).bind fun (_, F15, A16, J17) =>
    (m_st A16 48 100 (72 + x1) s0).bind fun A18 =>
    (d_wholeNight n F15 A18 J17).bind fun (v19, F20, A21, J22) =>
    cond (g_cnd .lt x3 0)
    (d_hide_129 K39 n F20 A21 J22 x1 x2 x5 s0 v19)
    (cond (g_cnd .gt v19 x4)
    (d_hide_129 K39 n F20 A21 J22 x1 x2 x5 s0 v19)
    (d_hide_136 K39 n F20 A21 J22 x1 x2 x3 x4 x5))
theorem t_d_hide_92 (ht : ∀ k, t.1 12 k = k_ty 12 k) {n : Nat} {K39 : (Nat → Int32) → (Nat → Nat → Int32) → (Nat → Nat → Int64) → Int32 → Int32 → Int32 → Int32 → Int32 → Option (Int32 × (Nat → Int32) × (Nat → Nat → Int32) × (Nat → Nat → Int64))} (hK39 : ∀ (F : Nat → Int32) (A : Nat → Nat → Int32) (J : Nat → Nat → Int64) (x1 : Int32) (x2 : Int32) (x3 : Int32) (x4 : Int32) (x5 : Int32) (w : Int32 × (Nat → Int32) × (Nat → Nat → Int32) × (Nat → Nat → Int64)), K39 F A J x1 x2 x3 x4 x5 = some w → k_run t lg (d + 5) 225 39 [(0, .ref 40960), (1, .int x1), (2, .int x2), (3, .int x3), (4, .int x4), (5, .int x5)] [] (m_h c B F A J) (some (.int w.1), m_h c B w.2.1 w.2.2.1 w.2.2.2)) {F : Nat → Int32} {A : Nat → Nat → Int32} {J : Nat → Nat → Int64} {x1 : Int32} {x2 : Int32} {x3 : Int32} {x4 : Int32} {x5 : Int32} {s0 : Int32} {w : Int32 × (Nat → Int32) × (Nat → Nat → Int32) × (Nat → Nat → Int64)} : d_hide_92 K39 n F A J x1 x2 x3 x4 x5 s0 = some w → k_run t lg (d + 5) 225 92 [(0, .ref 40960), (1, .int x1), (2, .int x2), (3, .int x3), (4, .int x4), (5, .int x5)] [.int s0] (m_h c B F A J) (some (.int w.1), m_h c B w.2.1 w.2.2.1 w.2.2.2) := by
  intro hD
  unfold d_hide_92 at hD
  refine k_runB (pc' := 95) (loc' := [(0, .ref 40960), (1, .int x1), (2, .int x2), (3, .int x3), (4, .int x4), (5, .int x5), (6, .int s0)]) (st' := [.ref 40960]) 2 rfl ?_
  obtain ⟨⟨v14, F15, A16, J17⟩, hv14, hD⟩ := Option.bind_eq_some_iff.mp hD
  dsimp only at hD
  refine k_runC rfl rfl rfl rfl (t_d_takes (d := d + 4) hv14) ?_
  refine k_runB (pc' := 108) (loc' := [(0, .ref 40960), (1, .int x1), (2, .int x2), (3, .int x3), (4, .int x4), (5, .int x5), (6, .int s0)]) (st' := [.int s0, .int (72 + x1), .ref 41008]) 6 rfl ?_
  obtain ⟨A18, hA18, hD⟩ := Option.bind_eq_some_iff.mp hD
  refine k_stI 48 rfl rfl (fun _ => rfl) hA18 ?_
  refine k_runB (pc' := 110) (loc' := [(0, .ref 40960), (1, .int x1), (2, .int x2), (3, .int x3), (4, .int x4), (5, .int x5), (6, .int s0)]) (st' := [.ref 40960]) 1 rfl ?_
  obtain ⟨⟨v19, F20, A21, J22⟩, hv19, hD⟩ := Option.bind_eq_some_iff.mp hD
  dsimp only at hD
  refine k_runC rfl rfl rfl rfl (t_d_wholeNight (d := d) ht hv19) ?_
  refine k_runB (pc' := 116) (loc' := [(0, .ref 40960), (1, .int x1), (2, .int x2), (3, .int x3), (4, .int x4), (5, .int x5), (6, .int s0), (7, .int v19)]) (st' := [.int x3]) 2 rfl ?_
  refine k_if rfl (fun c116_22 => ?_) (fun c116_22 => ?_)
  · rw [c116_22, cond_true] at hD
    refine k_wk [0, 1, 2, 5, 6, 7] (loc' := [(0, .ref 40960), (1, .int x1), (2, .int x2), (5, .int x5), (6, .int s0), (7, .int v19)]) rfl rfl ?_
    exact t_d_hide_129 ht hK39 hD
  · rw [c116_22, cond_false] at hD
    refine k_runB (pc' := 123) (loc' := [(0, .ref 40960), (1, .int x1), (2, .int x2), (3, .int x3), (4, .int x4), (5, .int x5), (6, .int s0), (7, .int v19)]) (st' := [.int x4, .int v19]) 2 rfl ?_
    refine k_ic rfl (fun c123_23 => ?_) (fun c123_23 => ?_)
    · rw [c123_23, cond_true] at hD
      refine k_wk [0, 1, 2, 5, 6, 7] (loc' := [(0, .ref 40960), (1, .int x1), (2, .int x2), (5, .int x5), (6, .int s0), (7, .int v19)]) rfl rfl ?_
      exact t_d_hide_129 ht hK39 hD
    · rw [c123_23, cond_false] at hD
      refine k_runB (pc' := 136) (loc' := [(0, .ref 40960), (1, .int x1), (2, .int x2), (3, .int x3), (4, .int x4), (5, .int x5), (6, .int s0), (7, .int v19)]) (st' := []) 1 rfl ?_
      refine k_wk [0, 1, 2, 3, 4, 5] (loc' := [(0, .ref 40960), (1, .int x1), (2, .int x2), (3, .int x3), (4, .int x4), (5, .int x5)]) rfl rfl ?_
      exact t_d_hide_136 ht hK39 hD
def d_hide_39 : Nat → (Nat → Int32) → (Nat → Nat → Int32) → (Nat → Nat → Int64) → Int32 → Int32 → Int32 → Int32 → Int32 → Option (Int32 × (Nat → Int32) × (Nat → Nat → Int32) × (Nat → Nat → Int64))
  | 0, _, _, _, _, _, _, _, _ => none
  | n + 1, F, A, J, x1, x2, x3, x4, x5 => (m_ld (A 11) 2 (F 18)).bind fun v7 =>
    (d_menNow F A J).bind fun v8 =>
    cond (g_cnd .ge x5 (v7 + v8))
    (cond (g_cnd .ne x2 0)
    (some (x3, F, A, J))
    (some (x4, F, A, J)))
    ((m_ld (A 11) 2 (F 18)).bind fun v11 =>
    cond (g_cnd .ge x5 v11)
    ((m_ld (A 11) 2 (F 18)).bind fun v13 =>
    d_hide_92 (d_hide_39 n) n F A J x1 x2 x3 x4 x5 ((100 + x5) - v13))
    (d_hide_92 (d_hide_39 n) n F A J x1 x2 x3 x4 x5 x5))
theorem t_d_hide_39 (ht : ∀ k, t.1 12 k = k_ty 12 k) {n : Nat}  {F : Nat → Int32} {A : Nat → Nat → Int32} {J : Nat → Nat → Int64} {x1 : Int32} {x2 : Int32} {x3 : Int32} {x4 : Int32} {x5 : Int32} {w : Int32 × (Nat → Int32) × (Nat → Nat → Int32) × (Nat → Nat → Int64)} : d_hide_39 n F A J x1 x2 x3 x4 x5 = some w → k_run t lg (d + 5) 225 39 [(0, .ref 40960), (1, .int x1), (2, .int x2), (3, .int x3), (4, .int x4), (5, .int x5)] [] (m_h c B F A J) (some (.int w.1), m_h c B w.2.1 w.2.2.1 w.2.2.2) := by
  induction n generalizing F A J x1 x2 x3 x4 x5 w with
  | zero => intro hD; cases hD
  | succ n ih =>
    intro hD
    have hK39 : ∀ (F : Nat → Int32) (A : Nat → Nat → Int32) (J : Nat → Nat → Int64) (x1 : Int32) (x2 : Int32) (x3 : Int32) (x4 : Int32) (x5 : Int32) (w : Int32 × (Nat → Int32) × (Nat → Nat → Int32) × (Nat → Nat → Int64)), d_hide_39 n F A J x1 x2 x3 x4 x5 = some w → k_run t lg (d + 5) 225 39 [(0, .ref 40960), (1, .int x1), (2, .int x2), (3, .int x3), (4, .int x4), (5, .int x5)] [] (m_h c B F A J) (some (.int w.1), m_h c B w.2.1 w.2.2.1 w.2.2.2) := fun _ _ _ _ _ _ _ _ _ h => ih h
    unfold d_hide_39 at hD
    refine k_runB (pc' := 49) (loc' := [(0, .ref 40960), (1, .int x1), (2, .int x2), (3, .int x3), (4, .int x4), (5, .int x5)]) (st' := [.int (F 18), .ref 40971, .int x5]) 5 rfl ?_
    obtain ⟨v7, hv7, hD⟩ := Option.bind_eq_some_iff.mp hD
    refine k_ldI rfl rfl hv7 ?_
    refine k_runB (pc' := 51) (loc' := [(0, .ref 40960), (1, .int x1), (2, .int x2), (3, .int x3), (4, .int x4), (5, .int x5)]) (st' := [.ref 40960, .int v7, .int x5]) 1 rfl ?_
    obtain ⟨v8, hv8, hD⟩ := Option.bind_eq_some_iff.mp hD
    refine k_runC rfl rfl rfl rfl (t_d_menNow (d := d + 4) hv8) ?_
    refine k_runB (pc' := 55) (loc' := [(0, .ref 40960), (1, .int x1), (2, .int x2), (3, .int x3), (4, .int x4), (5, .int x5)]) (st' := [.int (v7 + v8), .int x5]) 1 rfl ?_
    refine k_ic rfl (fun c55_8 => ?_) (fun c55_8 => ?_)
    · rw [c55_8, cond_true] at hD
      refine k_runB (pc' := 143) (loc' := [(0, .ref 40960), (1, .int x1), (2, .int x2), (3, .int x3), (4, .int x4), (5, .int x5)]) (st' := [.int x2]) 1 rfl ?_
      refine k_if rfl (fun c143_9 => ?_) (fun c143_9 => ?_)
      · rw [c143_9, cond_true] at hD
        refine k_runB (pc' := 152) (loc' := [(0, .ref 40960), (1, .int x1), (2, .int x2), (3, .int x3), (4, .int x4), (5, .int x5)]) (st' := [.int x3]) 1 rfl ?_
        cases hD
        exact k_iret rfl rfl
      · rw [c143_9, cond_false] at hD
        refine k_runB (pc' := 152) (loc' := [(0, .ref 40960), (1, .int x1), (2, .int x2), (3, .int x3), (4, .int x4), (5, .int x5)]) (st' := [.int x4]) 2 rfl ?_
        cases hD
        exact k_iret rfl rfl
    · rw [c55_8, cond_false] at hD
      refine k_runB (pc' := 68) (loc' := [(0, .ref 40960), (1, .int x1), (2, .int x2), (3, .int x3), (4, .int x4), (5, .int x5)]) (st' := [.int (F 18), .ref 40971, .int x5]) 5 rfl ?_
      obtain ⟨v11, hv11, hD⟩ := Option.bind_eq_some_iff.mp hD
      refine k_ldI rfl rfl hv11 ?_
      refine k_ic rfl (fun c69_11 => ?_) (fun c69_11 => ?_)
      · rw [c69_11, cond_true] at hD
        refine k_runB (pc' := 90) (loc' := [(0, .ref 40960), (1, .int x1), (2, .int x2), (3, .int x3), (4, .int x4), (5, .int x5)]) (st' := [.int (F 18), .ref 40971, .int (100 + x5)]) 7 rfl ?_
        obtain ⟨v13, hv13, hD⟩ := Option.bind_eq_some_iff.mp hD
        refine k_ldI rfl rfl hv13 ?_
        refine k_runB (pc' := 92) (loc' := [(0, .ref 40960), (1, .int x1), (2, .int x2), (3, .int x3), (4, .int x4), (5, .int x5)]) (st' := [.int ((100 + x5) - v13)]) 1 rfl ?_
        refine k_wk [0, 1, 2, 3, 4, 5] (loc' := [(0, .ref 40960), (1, .int x1), (2, .int x2), (3, .int x3), (4, .int x4), (5, .int x5)]) rfl rfl ?_
        exact t_d_hide_92 ht hK39 hD
      · rw [c69_11, cond_false] at hD
        refine k_runB (pc' := 92) (loc' := [(0, .ref 40960), (1, .int x1), (2, .int x2), (3, .int x3), (4, .int x4), (5, .int x5)]) (st' := [.int x5]) 2 rfl ?_
        refine k_wk [0, 1, 2, 3, 4, 5] (loc' := [(0, .ref 40960), (1, .int x1), (2, .int x2), (3, .int x3), (4, .int x4), (5, .int x5)]) rfl rfl ?_
        exact t_d_hide_92 ht hK39 hD
/-- SleepWorkModel.hide(II)I -/
def d_hide (n : Nat) (F : Nat → Int32) (A : Nat → Nat → Int32) (J : Nat → Nat → Int64) (x1 : Int32) (x2 : Int32) : Option (Int32 × (Nat → Int32) × (Nat → Nat → Int32) × (Nat → Nat → Int64)) :=
  (d_isTool F A J x1).bind fun v1 =>
  cond (g_cnd .eq v1 0)
  (some ((-1), F, A, J))
  ((d_in x2 0 1).bind fun v3 =>
  cond (g_cnd .eq v3 0)
  (some ((-1), F, A, J))
  ((m_ld (A 11) 2 (F 18)).bind fun v5 =>
  cond (g_cnd .ne v5 0)
  (d_hide_39 n F A J x1 x2 ((-1)) 0 0)
  (some ((-1), F, A, J))))
theorem t_d_hide (ht : ∀ k, t.1 12 k = k_ty 12 k) {n : Nat} {x1 : Int32} {x2 : Int32} {r : Int32} {F' : Nat → Int32} {A' : Nat → Nat → Int32} {J' : Nat → Nat → Int64} : d_hide n F A J x1 x2 = some (r, F', A', J') → k_run t lg (d + 5) 225 0 [(0, .ref 40960), (1, .int x1), (2, .int x2)] [] (m_h c B F A J) (some (.int r), m_h c B F' A' J') := by
  intro hD
  unfold d_hide at hD
  refine k_runB (pc' := 2) (loc' := [(0, .ref 40960), (1, .int x1), (2, .int x2)]) (st' := [.int x1, .ref 40960]) 2 rfl ?_
  obtain ⟨v1, hv1, hD⟩ := Option.bind_eq_some_iff.mp hD
  refine k_runC rfl rfl rfl rfl (t_d_isTool (d := d + 3) hv1) ?_
  refine k_if rfl (fun c5_1 => ?_) (fun c5_1 => ?_)
  · rw [c5_1, cond_true] at hD
    refine k_runB (pc' := 30) (loc' := [(0, .ref 40960), (1, .int x1), (2, .int x2)]) (st' := [.int ((-1))]) 1 rfl ?_
    cases hD
    exact k_iret rfl rfl
  · rw [c5_1, cond_false] at hD
    refine k_runB (pc' := 11) (loc' := [(0, .ref 40960), (1, .int x1), (2, .int x2)]) (st' := [.int 1, .int 0, .int x2]) 3 rfl ?_
    obtain ⟨v3, hv3, hD⟩ := Option.bind_eq_some_iff.mp hD
    refine k_runC rfl rfl rfl rfl (t_d_in (d := d + 4) hv3) ?_
    refine k_if rfl (fun c14_3 => ?_) (fun c14_3 => ?_)
    · rw [c14_3, cond_true] at hD
      refine k_runB (pc' := 30) (loc' := [(0, .ref 40960), (1, .int x1), (2, .int x2)]) (st' := [.int ((-1))]) 1 rfl ?_
      cases hD
      exact k_iret rfl rfl
    · rw [c14_3, cond_false] at hD
      refine k_runB (pc' := 25) (loc' := [(0, .ref 40960), (1, .int x1), (2, .int x2)]) (st' := [.int (F 18), .ref 40971]) 4 rfl ?_
      obtain ⟨v5, hv5, hD⟩ := Option.bind_eq_some_iff.mp hD
      refine k_ldI rfl rfl hv5 ?_
      refine k_if rfl (fun c26_5 => ?_) (fun c26_5 => ?_)
      · rw [c26_5, cond_true] at hD
        refine k_runB (pc' := 39) (loc' := [(0, .ref 40960), (1, .int x1), (2, .int x2), (3, .int ((-1))), (4, .int 0), (5, .int 0)]) (st' := []) 6 rfl ?_
        refine k_wk [0, 1, 2, 3, 4, 5] (loc' := [(0, .ref 40960), (1, .int x1), (2, .int x2), (3, .int ((-1))), (4, .int 0), (5, .int 0)]) rfl rfl ?_
        exact t_d_hide_39 ht  hD
      · rw [c26_5, cond_false] at hD
        refine k_runB (pc' := 30) (loc' := [(0, .ref 40960), (1, .int x1), (2, .int x2)]) (st' := [.int ((-1))]) 1 rfl ?_
        cases hD
        exact k_iret rfl rfl
def d_bits_4 : Nat → (Nat → Int32) → (Nat → Nat → Int32) → (Nat → Nat → Int64) → Int32 → Int32 → Int32 → Option Int32
  | 0, _, _, _, _, _, _ => none
  | n + 1, F, A, J, x0, x1, x2 => cond (g_cnd .ge x2 12)
    (some (x1))
    ((d_bits_4 n) F A J x0 (x1 + ((x0 >>> (x2 &&& 31)) &&& 1)) (x2 + 1))
theorem t_d_bits_4 {n : Nat}  {F : Nat → Int32} {A : Nat → Nat → Int32} {J : Nat → Nat → Int64} {x0 : Int32} {x1 : Int32} {x2 : Int32} {w : Int32} : d_bits_4 n F A J x0 x1 x2 = some w → k_run t lg (d) 226 4 [(0, .int x0), (1, .int x1), (2, .int x2)] [] (m_h c B F A J) (some (.int w), m_h c B F A J) := by
  induction n generalizing F A J x0 x1 x2 w with
  | zero => intro hD; cases hD
  | succ n ih =>
    intro hD
    have hK4 : ∀ (F : Nat → Int32) (A : Nat → Nat → Int32) (J : Nat → Nat → Int64) (x0 : Int32) (x1 : Int32) (x2 : Int32) (w : Int32), d_bits_4 n F A J x0 x1 x2 = some w → k_run t lg (d) 226 4 [(0, .int x0), (1, .int x1), (2, .int x2)] [] (m_h c B F A J) (some (.int w), m_h c B F A J) := fun _ _ _ _ _ _ _ h => ih h
    unfold d_bits_4 at hD
    refine k_runB (pc' := 7) (loc' := [(0, .int x0), (1, .int x1), (2, .int x2)]) (st' := [.int 12, .int x2]) 2 rfl ?_
    refine k_ic rfl (fun c7_0 => ?_) (fun c7_0 => ?_)
    · rw [c7_0, cond_true] at hD
      refine k_runB (pc' := 25) (loc' := [(0, .int x0), (1, .int x1), (2, .int x2)]) (st' := [.int x1]) 1 rfl ?_
      cases hD
      exact k_iret rfl rfl
    · rw [c7_0, cond_false] at hD
      refine k_runB (pc' := 4) (loc' := [(0, .int x0), (1, .int (x1 + ((x0 >>> (x2 &&& 31)) &&& 1))), (2, .int (x2 + 1))]) (st' := []) 10 rfl ?_
      refine k_wk [0, 1, 2] (loc' := [(0, .int x0), (1, .int (x1 + ((x0 >>> (x2 &&& 31)) &&& 1))), (2, .int (x2 + 1))]) rfl rfl ?_
      exact hK4 _ _ _ _ _ _ _ hD
/-- SleepWorkModel.bits(I)I -/
def d_bits (n : Nat) (F : Nat → Int32) (A : Nat → Nat → Int32) (J : Nat → Nat → Int64) (x0 : Int32) : Option Int32 :=
  d_bits_4 n F A J x0 0 0
theorem t_d_bits {n : Nat} {x0 : Int32} {r : Int32} : d_bits n F A J x0 = some r → k_run t lg (d) 226 0 [(0, .int x0)] [] (m_h c B F A J) (some (.int r), m_h c B F A J) := by
  intro hD
  unfold d_bits at hD
  refine k_runB (pc' := 4) (loc' := [(0, .int x0), (1, .int 0), (2, .int 0)]) (st' := []) 4 rfl ?_
  refine k_wk [0, 1, 2] (loc' := [(0, .int x0), (1, .int 0), (2, .int 0)]) rfl rfl ?_
  exact t_d_bits_4  hD
def d_bars_90 (K18 : (Nat → Int32) → (Nat → Nat → Int32) → (Nat → Nat → Int64) → Int32 → Int32 → Int32 → Int32 → Option (Int32 × (Nat → Int32) × (Nat → Nat → Int32) × (Nat → Nat → Int64))) (n : Nat) (F : Nat → Int32) (A : Nat → Nat → Int32) (J : Nat → Nat → Int64) (x1 : Int32) (x2 : Int32) (x3 : Int32) (x4 : Int32) : Option (Int32 × (Nat → Int32) × (Nat → Nat → Int32) × (Nat → Nat → Int64)) :=
    K18 F A J x1 x2 x3 (x4 + 1)
theorem t_d_bars_90 (ht : ∀ k, t.1 12 k = k_ty 12 k) {n : Nat} {K18 : (Nat → Int32) → (Nat → Nat → Int32) → (Nat → Nat → Int64) → Int32 → Int32 → Int32 → Int32 → Option (Int32 × (Nat → Int32) × (Nat → Nat → Int32) × (Nat → Nat → Int64))} (hK18 : ∀ (F : Nat → Int32) (A : Nat → Nat → Int32) (J : Nat → Nat → Int64) (x1 : Int32) (x2 : Int32) (x3 : Int32) (x4 : Int32) (w : Int32 × (Nat → Int32) × (Nat → Nat → Int32) × (Nat → Nat → Int64)), K18 F A J x1 x2 x3 x4 = some w → k_run t lg (d + 5) 227 18 [(0, .ref 40960), (1, .int x1), (2, .int x2), (3, .int x3), (4, .int x4)] [] (m_h c B F A J) (some (.int w.1), m_h c B w.2.1 w.2.2.1 w.2.2.2)) {F : Nat → Int32} {A : Nat → Nat → Int32} {J : Nat → Nat → Int64} {x1 : Int32} {x2 : Int32} {x3 : Int32} {x4 : Int32} {w : Int32 × (Nat → Int32) × (Nat → Nat → Int32) × (Nat → Nat → Int64)} : d_bars_90 K18 n F A J x1 x2 x3 x4 = some w → k_run t lg (d + 5) 227 90 [(0, .ref 40960), (1, .int x1), (2, .int x2), (3, .int x3), (4, .int x4)] [] (m_h c B F A J) (some (.int w.1), m_h c B w.2.1 w.2.2.1 w.2.2.2) := by
  intro hD
  unfold d_bars_90 at hD
  refine k_runB (pc' := 18) (loc' := [(0, .ref 40960), (1, .int x1), (2, .int x2), (3, .int x3), (4, .int (x4 + 1))]) (st' := []) 2 rfl ?_
  refine k_wk [0, 1, 2, 3, 4] (loc' := [(0, .ref 40960), (1, .int x1), (2, .int x2), (3, .int x3), (4, .int (x4 + 1))]) rfl rfl ?_
  exact hK18 _ _ _ _ _ _ _ _ hD
def d_bars_84 (K18 : (Nat → Int32) → (Nat → Nat → Int32) → (Nat → Nat → Int64) → Int32 → Int32 → Int32 → Int32 → Option (Int32 × (Nat → Int32) × (Nat → Nat → Int32) × (Nat → Nat → Int64))) (n : Nat) (F : Nat → Int32) (A : Nat → Nat → Int32) (J : Nat → Nat → Int64) (x1 : Int32) (x4 : Int32) (x5 : Int32) : Option (Int32 × (Nat → Int32) × (Nat → Nat → Int32) × (Nat → Nat → Int64)) :=
    d_bars_90 K18 n F A J x1 x4 x5 x4
theorem t_d_bars_84 (ht : ∀ k, t.1 12 k = k_ty 12 k) {n : Nat} {K18 : (Nat → Int32) → (Nat → Nat → Int32) → (Nat → Nat → Int64) → Int32 → Int32 → Int32 → Int32 → Option (Int32 × (Nat → Int32) × (Nat → Nat → Int32) × (Nat → Nat → Int64))} (hK18 : ∀ (F : Nat → Int32) (A : Nat → Nat → Int32) (J : Nat → Nat → Int64) (x1 : Int32) (x2 : Int32) (x3 : Int32) (x4 : Int32) (w : Int32 × (Nat → Int32) × (Nat → Nat → Int32) × (Nat → Nat → Int64)), K18 F A J x1 x2 x3 x4 = some w → k_run t lg (d + 5) 227 18 [(0, .ref 40960), (1, .int x1), (2, .int x2), (3, .int x3), (4, .int x4)] [] (m_h c B F A J) (some (.int w.1), m_h c B w.2.1 w.2.2.1 w.2.2.2)) {F : Nat → Int32} {A : Nat → Nat → Int32} {J : Nat → Nat → Int64} {x1 : Int32} {x4 : Int32} {x5 : Int32} {w : Int32 × (Nat → Int32) × (Nat → Nat → Int32) × (Nat → Nat → Int64)} : d_bars_84 K18 n F A J x1 x4 x5 = some w → k_run t lg (d + 5) 227 84 [(0, .ref 40960), (1, .int x1), (4, .int x4), (5, .int x5)] [] (m_h c B F A J) (some (.int w.1), m_h c B w.2.1 w.2.2.1 w.2.2.2) := by
  intro hD
  unfold d_bars_84 at hD
  refine k_runB (pc' := 90) (loc' := [(0, .ref 40960), (1, .int x1), (2, .int x4), (3, .int x5), (4, .int x4), (5, .int x5)]) (st' := []) 4 rfl ?_
  refine k_wk [0, 1, 2, 3, 4] (loc' := [(0, .ref 40960), (1, .int x1), (2, .int x4), (3, .int x5), (4, .int x4)]) rfl rfl ?_
  exact t_d_bars_90 ht hK18 hD
def d_bars_18 : Nat → (Nat → Int32) → (Nat → Nat → Int32) → (Nat → Nat → Int64) → Int32 → Int32 → Int32 → Int32 → Option (Int32 × (Nat → Int32) × (Nat → Nat → Int32) × (Nat → Nat → Int64))
  | 0, _, _, _, _, _, _, _ => none
  | n + 1, F, A, J, x1, x2, x3, x4 => (m_ld (A 12) 2 (F 18)).bind fun v3 =>
    cond (g_cnd .ge x4 (1 <<< (v3 &&& 31)))
    (cond (g_cnd .ne x1 0)
    (some (x2, F, A, J))
    (some (x3, F, A, J)))
    ((d_takes n F A J).bind fun (_, F7, A8, J9) =>
    (m_st A8 48 100 78 x4).bind fun A10 =>
    (d_wholeNight n F7 A10 J9).bind fun (v11, F12, A13, J14) =>
    cond (g_cnd .lt x2 0)
    (d_bars_84 (d_bars_18 n) n F12 A13 J14 x1 x4 v11)
    (cond (g_cnd .lt v11 x3)
    (d_bars_90 (d_bars_18 n) n F12 A13 J14 x1 x2 x3 x4)
    (cond (g_cnd .ne v11 x3)
    (d_bars_84 (d_bars_18 n) n F12 A13 J14 x1 x4 v11)
    ((d_bits n F12 A13 J14 x4).bind fun v18 =>
    (d_bits n F12 A13 J14 x2).bind fun v19 =>
    cond (g_cnd .lt v18 v19)
    (d_bars_84 (d_bars_18 n) n F12 A13 J14 x1 x4 v11)
    (d_bars_90 (d_bars_18 n) n F12 A13 J14 x1 x2 x3 x4)))))
theorem t_d_bars_18 (ht : ∀ k, t.1 12 k = k_ty 12 k) {n : Nat}  {F : Nat → Int32} {A : Nat → Nat → Int32} {J : Nat → Nat → Int64} {x1 : Int32} {x2 : Int32} {x3 : Int32} {x4 : Int32} {w : Int32 × (Nat → Int32) × (Nat → Nat → Int32) × (Nat → Nat → Int64)} : d_bars_18 n F A J x1 x2 x3 x4 = some w → k_run t lg (d + 5) 227 18 [(0, .ref 40960), (1, .int x1), (2, .int x2), (3, .int x3), (4, .int x4)] [] (m_h c B F A J) (some (.int w.1), m_h c B w.2.1 w.2.2.1 w.2.2.2) := by
  induction n generalizing F A J x1 x2 x3 x4 w with
  | zero => intro hD; cases hD
  | succ n ih =>
    intro hD
    have hK18 : ∀ (F : Nat → Int32) (A : Nat → Nat → Int32) (J : Nat → Nat → Int64) (x1 : Int32) (x2 : Int32) (x3 : Int32) (x4 : Int32) (w : Int32 × (Nat → Int32) × (Nat → Nat → Int32) × (Nat → Nat → Int64)), d_bars_18 n F A J x1 x2 x3 x4 = some w → k_run t lg (d + 5) 227 18 [(0, .ref 40960), (1, .int x1), (2, .int x2), (3, .int x3), (4, .int x4)] [] (m_h c B F A J) (some (.int w.1), m_h c B w.2.1 w.2.2.1 w.2.2.2) := fun _ _ _ _ _ _ _ _ h => ih h
    unfold d_bars_18 at hD
    refine k_runB (pc' := 29) (loc' := [(0, .ref 40960), (1, .int x1), (2, .int x2), (3, .int x3), (4, .int x4)]) (st' := [.int (F 18), .ref 40972, .int 1, .int x4]) 6 rfl ?_
    obtain ⟨v3, hv3, hD⟩ := Option.bind_eq_some_iff.mp hD
    refine k_ldI rfl rfl hv3 ?_
    refine k_runB (pc' := 31) (loc' := [(0, .ref 40960), (1, .int x1), (2, .int x2), (3, .int x3), (4, .int x4)]) (st' := [.int (1 <<< (v3 &&& 31)), .int x4]) 1 rfl ?_
    refine k_ic rfl (fun c31_3 => ?_) (fun c31_3 => ?_)
    · rw [c31_3, cond_true] at hD
      refine k_runB (pc' := 97) (loc' := [(0, .ref 40960), (1, .int x1), (2, .int x2), (3, .int x3), (4, .int x4)]) (st' := [.int x1]) 1 rfl ?_
      refine k_if rfl (fun c97_4 => ?_) (fun c97_4 => ?_)
      · rw [c97_4, cond_true] at hD
        refine k_runB (pc' := 105) (loc' := [(0, .ref 40960), (1, .int x1), (2, .int x2), (3, .int x3), (4, .int x4)]) (st' := [.int x2]) 1 rfl ?_
        cases hD
        exact k_iret rfl rfl
      · rw [c97_4, cond_false] at hD
        refine k_runB (pc' := 105) (loc' := [(0, .ref 40960), (1, .int x1), (2, .int x2), (3, .int x3), (4, .int x4)]) (st' := [.int x3]) 2 rfl ?_
        cases hD
        exact k_iret rfl rfl
    · rw [c31_3, cond_false] at hD
      refine k_runB (pc' := 35) (loc' := [(0, .ref 40960), (1, .int x1), (2, .int x2), (3, .int x3), (4, .int x4)]) (st' := [.ref 40960]) 1 rfl ?_
      obtain ⟨⟨v6, F7, A8, J9⟩, hv6, hD⟩ := Option.bind_eq_some_iff.mp hD
      dsimp only at hD
      refine k_runC rfl rfl rfl rfl (t_d_takes (d := d + 4) hv6) ?_
      refine k_runB (pc' := 46) (loc' := [(0, .ref 40960), (1, .int x1), (2, .int x2), (3, .int x3), (4, .int x4)]) (st' := [.int x4, .int 78, .ref 41008]) 4 rfl ?_
      obtain ⟨A10, hA10, hD⟩ := Option.bind_eq_some_iff.mp hD
      refine k_stI 48 rfl rfl (fun _ => rfl) hA10 ?_
      refine k_runB (pc' := 48) (loc' := [(0, .ref 40960), (1, .int x1), (2, .int x2), (3, .int x3), (4, .int x4)]) (st' := [.ref 40960]) 1 rfl ?_
      obtain ⟨⟨v11, F12, A13, J14⟩, hv11, hD⟩ := Option.bind_eq_some_iff.mp hD
      dsimp only at hD
      refine k_runC rfl rfl rfl rfl (t_d_wholeNight (d := d) ht hv11) ?_
      refine k_runB (pc' := 54) (loc' := [(0, .ref 40960), (1, .int x1), (2, .int x2), (3, .int x3), (4, .int x4), (5, .int v11)]) (st' := [.int x2]) 2 rfl ?_
      refine k_if rfl (fun c54_14 => ?_) (fun c54_14 => ?_)
      · rw [c54_14, cond_true] at hD
        refine k_wk [0, 1, 4, 5] (loc' := [(0, .ref 40960), (1, .int x1), (4, .int x4), (5, .int v11)]) rfl rfl ?_
        exact t_d_bars_84 ht hK18 hD
      · rw [c54_14, cond_false] at hD
        refine k_runB (pc' := 60) (loc' := [(0, .ref 40960), (1, .int x1), (2, .int x2), (3, .int x3), (4, .int x4), (5, .int v11)]) (st' := [.int x3, .int v11]) 2 rfl ?_
        refine k_ic rfl (fun c60_15 => ?_) (fun c60_15 => ?_)
        · rw [c60_15, cond_true] at hD
          refine k_wk [0, 1, 2, 3, 4] (loc' := [(0, .ref 40960), (1, .int x1), (2, .int x2), (3, .int x3), (4, .int x4)]) rfl rfl ?_
          exact t_d_bars_90 ht hK18 hD
        · rw [c60_15, cond_false] at hD
          refine k_runB (pc' := 66) (loc' := [(0, .ref 40960), (1, .int x1), (2, .int x2), (3, .int x3), (4, .int x4), (5, .int v11)]) (st' := [.int x3, .int v11]) 2 rfl ?_
          refine k_ic rfl (fun c66_16 => ?_) (fun c66_16 => ?_)
          · rw [c66_16, cond_true] at hD
            refine k_wk [0, 1, 4, 5] (loc' := [(0, .ref 40960), (1, .int x1), (4, .int x4), (5, .int v11)]) rfl rfl ?_
            exact t_d_bars_84 ht hK18 hD
          · rw [c66_16, cond_false] at hD
            refine k_runB (pc' := 71) (loc' := [(0, .ref 40960), (1, .int x1), (2, .int x2), (3, .int x3), (4, .int x4), (5, .int v11)]) (st' := [.int x4]) 1 rfl ?_
            obtain ⟨v18, hv18, hD⟩ := Option.bind_eq_some_iff.mp hD
            refine k_runC rfl rfl rfl rfl (t_d_bits (d := d + 4) hv18) ?_
            refine k_runB (pc' := 75) (loc' := [(0, .ref 40960), (1, .int x1), (2, .int x2), (3, .int x3), (4, .int x4), (5, .int v11)]) (st' := [.int x2, .int v18]) 1 rfl ?_
            obtain ⟨v19, hv19, hD⟩ := Option.bind_eq_some_iff.mp hD
            refine k_runC rfl rfl rfl rfl (t_d_bits (d := d + 4) hv19) ?_
            refine k_ic rfl (fun c78_19 => ?_) (fun c78_19 => ?_)
            · rw [c78_19, cond_true] at hD
              refine k_wk [0, 1, 4, 5] (loc' := [(0, .ref 40960), (1, .int x1), (4, .int x4), (5, .int v11)]) rfl rfl ?_
              exact t_d_bars_84 ht hK18 hD
            · rw [c78_19, cond_false] at hD
              refine k_runB (pc' := 90) (loc' := [(0, .ref 40960), (1, .int x1), (2, .int x2), (3, .int x3), (4, .int x4), (5, .int v11)]) (st' := []) 1 rfl ?_
              refine k_wk [0, 1, 2, 3, 4] (loc' := [(0, .ref 40960), (1, .int x1), (2, .int x2), (3, .int x3), (4, .int x4)]) rfl rfl ?_
              exact t_d_bars_90 ht hK18 hD
/-- SleepWorkModel.bars(I)I -/
def d_bars (n : Nat) (F : Nat → Int32) (A : Nat → Nat → Int32) (J : Nat → Nat → Int64) (x1 : Int32) : Option (Int32 × (Nat → Int32) × (Nat → Nat → Int32) × (Nat → Nat → Int64)) :=
  (d_in x1 0 1).bind fun v1 =>
  cond (g_cnd .ne v1 0)
  (d_bars_18 n F A J x1 ((-1)) 0 0)
  (some ((-1), F, A, J))
theorem t_d_bars (ht : ∀ k, t.1 12 k = k_ty 12 k) {n : Nat} {x1 : Int32} {r : Int32} {F' : Nat → Int32} {A' : Nat → Nat → Int32} {J' : Nat → Nat → Int64} : d_bars n F A J x1 = some (r, F', A', J') → k_run t lg (d + 5) 227 0 [(0, .ref 40960), (1, .int x1)] [] (m_h c B F A J) (some (.int r), m_h c B F' A' J') := by
  intro hD
  unfold d_bars at hD
  refine k_runB (pc' := 3) (loc' := [(0, .ref 40960), (1, .int x1)]) (st' := [.int 1, .int 0, .int x1]) 3 rfl ?_
  obtain ⟨v1, hv1, hD⟩ := Option.bind_eq_some_iff.mp hD
  refine k_runC rfl rfl rfl rfl (t_d_in (d := d + 4) hv1) ?_
  refine k_if rfl (fun c6_1 => ?_) (fun c6_1 => ?_)
  · rw [c6_1, cond_true] at hD
    refine k_runB (pc' := 18) (loc' := [(0, .ref 40960), (1, .int x1), (2, .int ((-1))), (3, .int 0), (4, .int 0)]) (st' := []) 6 rfl ?_
    refine k_wk [0, 1, 2, 3, 4] (loc' := [(0, .ref 40960), (1, .int x1), (2, .int ((-1))), (3, .int 0), (4, .int 0)]) rfl rfl ?_
    exact t_d_bars_18 ht  hD
  · rw [c6_1, cond_false] at hD
    refine k_runB (pc' := 10) (loc' := [(0, .ref 40960), (1, .int x1)]) (st' := [.int ((-1))]) 1 rfl ?_
    cases hD
    exact k_iret rfl rfl
end MD
