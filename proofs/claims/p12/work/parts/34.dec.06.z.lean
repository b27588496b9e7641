section Qz7
/-! the reference's methods as functions (printed by wip/dec.py) -/
section MD
variable {t : gT} {lg : Nat → Nat} {d : Nat} {c : Nat × Nat} {B : Nat → List gE} {F : Nat → Int32} {A : Nat → Nat → Int32} {J : Nat → Nat → Int64}
def d_options_4 : Nat → (Nat → Int32) → (Nat → Nat → Int32) → (Nat → Nat → Int64) → Int32 → Int32 → Option Int32
  | 0, _, _, _, _, _ => none
  | n + 1, F, A, J, x1, x2 => (d_tasksNow F A J).bind fun v1 =>
    cond (g_cnd .ge x2 v1)
    (some (x1))
    ((d_stepsOf F A J x2).bind fun v3 =>
    (d_options_4 n) F A J (x1 + v3) (x2 + 1))
theorem t_d_options_4 {n : Nat}  {F : Nat → Int32} {A : Nat → Nat → Int32} {J : Nat → Nat → Int64} {x1 : Int32} {x2 : Int32} {w : Int32} : d_options_4 n F A J x1 x2 = some w → k_run t lg (d + 1) 218 4 [(0, .ref 40960), (1, .int x1), (2, .int x2)] [] (m_h c B F A J) (some (.int w), m_h c B F A J) := by
  induction n generalizing F A J x1 x2 w with
  | zero => intro hD; cases hD
  | succ n ih =>
    intro hD
    have hK4 : ∀ (F : Nat → Int32) (A : Nat → Nat → Int32) (J : Nat → Nat → Int64) (x1 : Int32) (x2 : Int32) (w : Int32), d_options_4 n F A J x1 x2 = some w → k_run t lg (d + 1) 218 4 [(0, .ref 40960), (1, .int x1), (2, .int x2)] [] (m_h c B F A J) (some (.int w), m_h c B F A J) := fun _ _ _ _ _ _ h => ih h
    unfold d_options_4 at hD
    refine k_runB (pc' := 6) (loc' := [(0, .ref 40960), (1, .int x1), (2, .int x2)]) (st' := [.ref 40960, .int x2]) 2 rfl ?_
    obtain ⟨v1, hv1, hD⟩ := Option.bind_eq_some_iff.mp hD
    refine k_runC rfl rfl rfl rfl (t_d_tasksNow (d := d) hv1) ?_
    refine k_ic rfl (fun c9_1 => ?_) (fun c9_1 => ?_)
    · rw [c9_1, cond_true] at hD
      refine k_runB (pc' := 27) (loc' := [(0, .ref 40960), (1, .int x1), (2, .int x2)]) (st' := [.int x1]) 1 rfl ?_
      cases hD
      exact k_iret rfl rfl
    · rw [c9_1, cond_false] at hD
      refine k_runB (pc' := 15) (loc' := [(0, .ref 40960), (1, .int x1), (2, .int x2)]) (st' := [.int x2, .ref 40960, .int x1]) 3 rfl ?_
      obtain ⟨v3, hv3, hD⟩ := Option.bind_eq_some_iff.mp hD
      refine k_runC rfl rfl rfl rfl (t_d_stepsOf (d := d) hv3) ?_
      refine k_runB (pc' := 4) (loc' := [(0, .ref 40960), (1, .int (x1 + v3)), (2, .int (x2 + 1))]) (st' := []) 4 rfl ?_
      refine k_wk [0, 1, 2] (loc' := [(0, .ref 40960), (1, .int (x1 + v3)), (2, .int (x2 + 1))]) rfl rfl ?_
      exact hK4 _ _ _ _ _ _ hD
/-- SleepWorkModel.options()I -/
def d_options (n : Nat) (F : Nat → Int32) (A : Nat → Nat → Int32) (J : Nat → Nat → Int64) : Option Int32 :=
  d_options_4 n F A J 1 0
theorem t_d_options {n : Nat} {r : Int32} : d_options n F A J = some r → k_run t lg (d + 1) 218 0 [(0, .ref 40960)] [] (m_h c B F A J) (some (.int r), m_h c B F A J) := by
  intro hD
  unfold d_options at hD
  refine k_runB (pc' := 4) (loc' := [(0, .ref 40960), (1, .int 1), (2, .int 0)]) (st' := []) 4 rfl ?_
  refine k_wk [0, 1, 2] (loc' := [(0, .ref 40960), (1, .int 1), (2, .int 0)]) rfl rfl ?_
  exact t_d_options_4  hD
/-- SleepWorkModel.codeOf(II)I -/
def d_codeOf (n : Nat) (F : Nat → Int32) (A : Nat → Nat → Int32) (J : Nat → Nat → Int64) (x1 : Int32) (x2 : Int32) : Option (Int32 × (Nat → Int32) × (Nat → Nat → Int32) × (Nat → Nat → Int64)) :=
  (d_leaves n F A J x1 x2).bind fun (v1, F2, A3, J4) =>
  cond (g_cnd .eq v1 0)
  (some ((-2), F2, A3, J4))
  ((m_ld (A3 48) 100 (42 + x1)).bind fun v6 =>
  cond (g_cnd .lt v6 0)
  (some ((-2), F2, A3, J4))
  ((m_ld (A3 48) 100 (42 + x1)).bind fun v8 =>
  (m_ld (A3 48) 100 (48 + x1)).bind fun v9 =>
  some ((10 * v8) + v9, F2, A3, J4)))
theorem t_d_codeOf {n : Nat} {x1 : Int32} {x2 : Int32} {r : Int32} {F' : Nat → Int32} {A' : Nat → Nat → Int32} {J' : Nat → Nat → Int64} : d_codeOf n F A J x1 x2 = some (r, F', A', J') → k_run t lg (d + 2) 219 0 [(0, .ref 40960), (1, .int x1), (2, .int x2)] [] (m_h c B F A J) (some (.int r), m_h c B F' A' J') := by
  intro hD
  unfold d_codeOf at hD
  refine k_runB (pc' := 3) (loc' := [(0, .ref 40960), (1, .int x1), (2, .int x2)]) (st' := [.int x2, .int x1, .ref 40960]) 3 rfl ?_
  obtain ⟨⟨v1, F2, A3, J4⟩, hv1, hD⟩ := Option.bind_eq_some_iff.mp hD
  dsimp only at hD
  refine k_runC rfl rfl rfl rfl (t_d_leaves (d := d) hv1) ?_
  refine k_if rfl (fun c6_4 => ?_) (fun c6_4 => ?_)
  · rw [c6_4, cond_true] at hD
    refine k_runB (pc' := 48) (loc' := [(0, .ref 40960), (1, .int x1), (2, .int x2)]) (st' := [.int ((-2))]) 1 rfl ?_
    cases hD
    exact k_iret rfl rfl
  · rw [c6_4, cond_false] at hD
    refine k_runB (pc' := 17) (loc' := [(0, .ref 40960), (1, .int x1), (2, .int x2)]) (st' := [.int (42 + x1), .ref 41008]) 5 rfl ?_
    obtain ⟨v6, hv6, hD⟩ := Option.bind_eq_some_iff.mp hD
    refine k_ldI rfl rfl hv6 ?_
    refine k_if rfl (fun c18_6 => ?_) (fun c18_6 => ?_)
    · rw [c18_6, cond_true] at hD
      refine k_runB (pc' := 48) (loc' := [(0, .ref 40960), (1, .int x1), (2, .int x2)]) (st' := [.int ((-2))]) 1 rfl ?_
      cases hD
      exact k_iret rfl rfl
    · rw [c18_6, cond_false] at hD
      refine k_runB (pc' := 31) (loc' := [(0, .ref 40960), (1, .int x1), (2, .int x2)]) (st' := [.int (42 + x1), .ref 41008, .int 10]) 6 rfl ?_
      obtain ⟨v8, hv8, hD⟩ := Option.bind_eq_some_iff.mp hD
      refine k_ldI rfl rfl hv8 ?_
      refine k_runB (pc' := 41) (loc' := [(0, .ref 40960), (1, .int x1), (2, .int x2)]) (st' := [.int (48 + x1), .ref 41008, .int (10 * v8)]) 6 rfl ?_
      obtain ⟨v9, hv9, hD⟩ := Option.bind_eq_some_iff.mp hD
      refine k_ldI rfl rfl hv9 ?_
      refine k_runB (pc' := 48) (loc' := [(0, .ref 40960), (1, .int x1), (2, .int x2)]) (st' := [.int ((10 * v8) + v9)]) 2 rfl ?_
      cases hD
      exact k_iret rfl rfl
/-- SleepWorkModel.gainBy(II)I -/
def d_gainBy (n : Nat) (F : Nat → Int32) (A : Nat → Nat → Int32) (J : Nat → Nat → Int64) (x1 : Int32) (x2 : Int32) : Option (Int32 × (Nat → Int32) × (Nat → Nat → Int32) × (Nat → Nat → Int64)) :=
  (d_takes n F A J).bind fun (_, F2, A3, J4) =>
  (d_leaves n F2 A3 J4 x1 x2).bind fun (v5, F6, A7, J8) =>
  (d_wholeNight n F6 A7 J8).bind fun (v9, F10, A11, J12) =>
  some (v9, F10, A11, J12)
theorem t_d_gainBy (ht : ∀ k, t.1 12 k = k_ty 12 k) {n : Nat} {x1 : Int32} {x2 : Int32} {r : Int32} {F' : Nat → Int32} {A' : Nat → Nat → Int32} {J' : Nat → Nat → Int64} : d_gainBy n F A J x1 x2 = some (r, F', A', J') → k_run t lg (d + 5) 220 0 [(0, .ref 40960), (1, .int x1), (2, .int x2)] [] (m_h c B F A J) (some (.int r), m_h c B F' A' J') := by
  intro hD
  unfold d_gainBy at hD
  refine k_runB (pc' := 1) (loc' := [(0, .ref 40960), (1, .int x1), (2, .int x2)]) (st' := [.ref 40960]) 1 rfl ?_
  obtain ⟨⟨v1, F2, A3, J4⟩, hv1, hD⟩ := Option.bind_eq_some_iff.mp hD
  dsimp only at hD
  refine k_runC rfl rfl rfl rfl (t_d_takes (d := d + 4) hv1) ?_
  refine k_runB (pc' := 7) (loc' := [(0, .ref 40960), (1, .int x1), (2, .int x2)]) (st' := [.int x2, .int x1, .ref 40960]) 3 rfl ?_
  obtain ⟨⟨v5, F6, A7, J8⟩, hv5, hD⟩ := Option.bind_eq_some_iff.mp hD
  dsimp only at hD
  refine k_runC rfl rfl rfl rfl (t_d_leaves (d := d + 3) hv5) ?_
  refine k_runB (pc' := 12) (loc' := [(0, .ref 40960), (1, .int x1), (2, .int x2)]) (st' := [.ref 40960]) 2 rfl ?_
  obtain ⟨⟨v9, F10, A11, J12⟩, hv9, hD⟩ := Option.bind_eq_some_iff.mp hD
  dsimp only at hD
  refine k_runC rfl rfl rfl rfl (t_d_wholeNight (d := d) ht hv9) ?_
  cases hD
  exact k_iret rfl rfl
def d_bestOption_50 (K14 : (Nat → Int32) → (Nat → Nat → Int32) → (Nat → Nat → Int64) → Int32 → Int32 → Int32 → Option (Int32 × (Nat → Int32) × (Nat → Nat → Int32) × (Nat → Nat → Int64))) (n : Nat) (F : Nat → Int32) (A : Nat → Nat → Int32) (J : Nat → Nat → Int64) (x1 : Int32) (x2 : Int32) (x3 : Int32) : Option (Int32 × (Nat → Int32) × (Nat → Nat → Int32) × (Nat → Nat → Int64)) :=
    K14 F A J x1 x2 (x3 + 1)
theorem t_d_bestOption_50 (ht : ∀ k, t.1 12 k = k_ty 12 k) {n : Nat} {K14 : (Nat → Int32) → (Nat → Nat → Int32) → (Nat → Nat → Int64) → Int32 → Int32 → Int32 → Option (Int32 × (Nat → Int32) × (Nat → Nat → Int32) × (Nat → Nat → Int64))} (hK14 : ∀ (F : Nat → Int32) (A : Nat → Nat → Int32) (J : Nat → Nat → Int64) (x1 : Int32) (x2 : Int32) (x3 : Int32) (w : Int32 × (Nat → Int32) × (Nat → Nat → Int32) × (Nat → Nat → Int64)), K14 F A J x1 x2 x3 = some w → k_run t lg (d + 6) 221 14 [(0, .ref 40960), (1, .int x1), (2, .int x2), (3, .int x3)] [] (m_h c B F A J) (some (.int w.1), m_h c B w.2.1 w.2.2.1 w.2.2.2)) {F : Nat → Int32} {A : Nat → Nat → Int32} {J : Nat → Nat → Int64} {x1 : Int32} {x2 : Int32} {x3 : Int32} {w : Int32 × (Nat → Int32) × (Nat → Nat → Int32) × (Nat → Nat → Int64)} : d_bestOption_50 K14 n F A J x1 x2 x3 = some w → k_run t lg (d + 6) 221 50 [(0, .ref 40960), (1, .int x1), (2, .int x2), (3, .int x3)] [] (m_h c B F A J) (some (.int w.1), m_h c B w.2.1 w.2.2.1 w.2.2.2) := by
  intro hD
  unfold d_bestOption_50 at hD
  refine k_runB (pc' := 14) (loc' := [(0, .ref 40960), (1, .int x1), (2, .int x2), (3, .int (x3 + 1))]) (st' := []) 2 rfl ?_
  refine k_wk [0, 1, 2, 3] (loc' := [(0, .ref 40960), (1, .int x1), (2, .int x2), (3, .int (x3 + 1))]) rfl rfl ?_
  exact hK14 _ _ _ _ _ _ _ hD
def d_bestOption_14 : Nat → (Nat → Int32) → (Nat → Nat → Int32) → (Nat → Nat → Int64) → Int32 → Int32 → Int32 → Option (Int32 × (Nat → Int32) × (Nat → Nat → Int32) × (Nat → Nat → Int64))
  | 0, _, _, _, _, _, _ => none
  | n + 1, F, A, J, x1, x2, x3 => (d_options n F A J).bind fun v6 =>
    cond (g_cnd .ge x3 v6)
    (some (x2, F, A, J))
    ((d_gainBy n F A J x1 x3).bind fun (v8, F9, A10, J11) =>
    cond (g_cnd .gt v8 (F9 76))
    ((m_pf F9 76 v8).bind fun F13 =>
    (d_bestOption_14 n) F13 A10 J11 x1 x3 (x3 + 1))
    (d_bestOption_50 (d_bestOption_14 n) n F9 A10 J11 x1 x2 x3))
theorem t_d_bestOption_14 (ht : ∀ k, t.1 12 k = k_ty 12 k) {n : Nat}  {F : Nat → Int32} {A : Nat → Nat → Int32} {J : Nat → Nat → Int64} {x1 : Int32} {x2 : Int32} {x3 : Int32} {w : Int32 × (Nat → Int32) × (Nat → Nat → Int32) × (Nat → Nat → Int64)} : d_bestOption_14 n F A J x1 x2 x3 = some w → k_run t lg (d + 6) 221 14 [(0, .ref 40960), (1, .int x1), (2, .int x2), (3, .int x3)] [] (m_h c B F A J) (some (.int w.1), m_h c B w.2.1 w.2.2.1 w.2.2.2) := by
  induction n generalizing F A J x1 x2 x3 w with
  | zero => intro hD; cases hD
  | succ n ih =>
    intro hD
    have hK14 : ∀ (F : Nat → Int32) (A : Nat → Nat → Int32) (J : Nat → Nat → Int64) (x1 : Int32) (x2 : Int32) (x3 : Int32) (w : Int32 × (Nat → Int32) × (Nat → Nat → Int32) × (Nat → Nat → Int64)), d_bestOption_14 n F A J x1 x2 x3 = some w → k_run t lg (d + 6) 221 14 [(0, .ref 40960), (1, .int x1), (2, .int x2), (3, .int x3)] [] (m_h c B F A J) (some (.int w.1), m_h c B w.2.1 w.2.2.1 w.2.2.2) := fun _ _ _ _ _ _ _ h => ih h
    unfold d_bestOption_14 at hD
    refine k_runB (pc' := 16) (loc' := [(0, .ref 40960), (1, .int x1), (2, .int x2), (3, .int x3)]) (st' := [.ref 40960, .int x3]) 2 rfl ?_
    obtain ⟨v6, hv6, hD⟩ := Option.bind_eq_some_iff.mp hD
    refine k_runC rfl rfl rfl rfl (t_d_options (d := d + 4) hv6) ?_
    refine k_ic rfl (fun c19_6 => ?_) (fun c19_6 => ?_)
    · rw [c19_6, cond_true] at hD
      refine k_runB (pc' := 57) (loc' := [(0, .ref 40960), (1, .int x1), (2, .int x2), (3, .int x3)]) (st' := [.int x2]) 1 rfl ?_
      cases hD
      exact k_iret rfl rfl
    · rw [c19_6, cond_false] at hD
      refine k_runB (pc' := 25) (loc' := [(0, .ref 40960), (1, .int x1), (2, .int x2), (3, .int x3)]) (st' := [.int x3, .int x1, .ref 40960]) 3 rfl ?_
      obtain ⟨⟨v8, F9, A10, J11⟩, hv8, hD⟩ := Option.bind_eq_some_iff.mp hD
      dsimp only at hD
      refine k_runC rfl rfl rfl rfl (t_d_gainBy (d := d) ht hv8) ?_
      refine k_runB (pc' := 36) (loc' := [(0, .ref 40960), (1, .int x1), (2, .int x2), (3, .int x3), (4, .int v8)]) (st' := [.int (F9 76), .int v8]) 4 rfl ?_
      refine k_ic rfl (fun c36_11 => ?_) (fun c36_11 => ?_)
      · rw [c36_11, cond_true] at hD
        refine k_runB (pc' := 47) (loc' := [(0, .ref 40960), (1, .int x1), (2, .int x3), (3, .int x3), (4, .int v8)]) (st' := [.int v8, .ref 40960]) 4 rfl ?_
        obtain ⟨F13, hF13, hD⟩ := Option.bind_eq_some_iff.mp hD
        refine k_ptI rfl (ht 76) rfl rfl hF13 ?_
        refine k_runB (pc' := 14) (loc' := [(0, .ref 40960), (1, .int x1), (2, .int x3), (3, .int (x3 + 1)), (4, .int v8)]) (st' := []) 2 rfl ?_
        refine k_wk [0, 1, 2, 3] (loc' := [(0, .ref 40960), (1, .int x1), (2, .int x3), (3, .int (x3 + 1))]) rfl rfl ?_
        exact hK14 _ _ _ _ _ _ _ hD
      · rw [c36_11, cond_false] at hD
        refine k_runB (pc' := 50) (loc' := [(0, .ref 40960), (1, .int x1), (2, .int x2), (3, .int x3), (4, .int v8)]) (st' := []) 1 rfl ?_
        refine k_wk [0, 1, 2, 3] (loc' := [(0, .ref 40960), (1, .int x1), (2, .int x2), (3, .int x3)]) rfl rfl ?_
        exact t_d_bestOption_50 ht hK14 hD
/-- SleepWorkModel.bestOption(I)I -/
def d_bestOption (n : Nat) (F : Nat → Int32) (A : Nat → Nat → Int32) (J : Nat → Nat → Int64) (x1 : Int32) : Option (Int32 × (Nat → Int32) × (Nat → Nat → Int32) × (Nat → Nat → Int64)) :=
  (d_gainBy n F A J x1 0).bind fun (v1, F2, A3, J4) =>
  (m_pf F2 76 v1).bind fun F5 =>
  d_bestOption_14 n F5 A3 J4 x1 0 1
theorem t_d_bestOption (ht : ∀ k, t.1 12 k = k_ty 12 k) {n : Nat} {x1 : Int32} {r : Int32} {F' : Nat → Int32} {A' : Nat → Nat → Int32} {J' : Nat → Nat → Int64} : d_bestOption n F A J x1 = some (r, F', A', J') → k_run t lg (d + 6) 221 0 [(0, .ref 40960), (1, .int x1)] [] (m_h c B F A J) (some (.int r), m_h c B F' A' J') := by
  intro hD
  unfold d_bestOption at hD
  refine k_runB (pc' := 6) (loc' := [(0, .ref 40960), (1, .int x1), (2, .int 0)]) (st' := [.int 0, .int x1, .ref 40960, .ref 40960]) 6 rfl ?_
  obtain ⟨⟨v1, F2, A3, J4⟩, hv1, hD⟩ := Option.bind_eq_some_iff.mp hD
  dsimp only at hD
  refine k_runC rfl rfl rfl rfl (t_d_gainBy (d := d) ht hv1) ?_
  obtain ⟨F5, hF5, hD⟩ := Option.bind_eq_some_iff.mp hD
  refine k_ptI rfl (ht 76) rfl rfl hF5 ?_
  refine k_runB (pc' := 14) (loc' := [(0, .ref 40960), (1, .int x1), (2, .int 0), (3, .int 1)]) (st' := []) 2 rfl ?_
  refine k_wk [0, 1, 2, 3] (loc' := [(0, .ref 40960), (1, .int x1), (2, .int 0), (3, .int 1)]) rfl rfl ?_
  exact t_d_bestOption_14 ht  hD
/-- SleepWorkModel.best(II)I -/
def d_best (n : Nat) (F : Nat → Int32) (A : Nat → Nat → Int32) (J : Nat → Nat → Int64) (x1 : Int32) (x2 : Int32) : Option (Int32 × (Nat → Int32) × (Nat → Nat → Int32) × (Nat → Nat → Int64)) :=
  (d_isMan F A J x1).bind fun v1 =>
  cond (g_cnd .eq v1 0)
  (some ((-1), F, A, J))
  ((d_in x2 0 1).bind fun v3 =>
  cond (g_cnd .ne v3 0)
  ((d_bestOption n F A J x1).bind fun (v5, F6, A7, J8) =>
  cond (g_cnd .ne x2 0)
  ((d_codeOf n F6 A7 J8 x1 v5).bind fun (v10, F11, A12, J13) =>
  some (v10, F11, A12, J13))
  (some (F6 76, F6, A7, J8)))
  (some ((-1), F, A, J)))
theorem t_d_best (ht : ∀ k, t.1 12 k = k_ty 12 k) {n : Nat} {x1 : Int32} {x2 : Int32} {r : Int32} {F' : Nat → Int32} {A' : Nat → Nat → Int32} {J' : Nat → Nat → Int64} : d_best n F A J x1 x2 = some (r, F', A', J') → k_run t lg (d + 7) 222 0 [(0, .ref 40960), (1, .int x1), (2, .int x2)] [] (m_h c B F A J) (some (.int r), m_h c B F' A' J') := by
  intro hD
  unfold d_best at hD
  refine k_runB (pc' := 2) (loc' := [(0, .ref 40960), (1, .int x1), (2, .int x2)]) (st' := [.int x1, .ref 40960]) 2 rfl ?_
  obtain ⟨v1, hv1, hD⟩ := Option.bind_eq_some_iff.mp hD
  refine k_runC rfl rfl rfl rfl (t_d_isMan (d := d + 5) hv1) ?_
  refine k_if rfl (fun c5_1 => ?_) (fun c5_1 => ?_)
  · rw [c5_1, cond_true] at hD
    refine k_runB (pc' := 18) (loc' := [(0, .ref 40960), (1, .int x1), (2, .int x2)]) (st' := [.int ((-1))]) 1 rfl ?_
    cases hD
    exact k_iret rfl rfl
  · rw [c5_1, cond_false] at hD
    refine k_runB (pc' := 11) (loc' := [(0, .ref 40960), (1, .int x1), (2, .int x2)]) (st' := [.int 1, .int 0, .int x2]) 3 rfl ?_
    obtain ⟨v3, hv3, hD⟩ := Option.bind_eq_some_iff.mp hD
    refine k_runC rfl rfl rfl rfl (t_d_in (d := d + 6) hv3) ?_
    refine k_if rfl (fun c14_3 => ?_) (fun c14_3 => ?_)
    · rw [c14_3, cond_true] at hD
      refine k_runB (pc' := 21) (loc' := [(0, .ref 40960), (1, .int x1), (2, .int x2)]) (st' := [.int x1, .ref 40960]) 2 rfl ?_
      obtain ⟨⟨v5, F6, A7, J8⟩, hv5, hD⟩ := Option.bind_eq_some_iff.mp hD
      dsimp only at hD
      refine k_runC rfl rfl rfl rfl (t_d_bestOption (d := d) ht hv5) ?_
      refine k_runB (pc' := 26) (loc' := [(0, .ref 40960), (1, .int x1), (2, .int x2), (3, .int v5)]) (st' := [.int x2]) 2 rfl ?_
      refine k_if rfl (fun c26_8 => ?_) (fun c26_8 => ?_)
      · rw [c26_8, cond_true] at hD
        refine k_runB (pc' := 39) (loc' := [(0, .ref 40960), (1, .int x1), (2, .int x2), (3, .int v5)]) (st' := [.int v5, .int x1, .ref 40960]) 3 rfl ?_
        obtain ⟨⟨v10, F11, A12, J13⟩, hv10, hD⟩ := Option.bind_eq_some_iff.mp hD
        dsimp only at hD
        refine k_runC rfl rfl rfl rfl (t_d_codeOf (d := d + 4) hv10) ?_
        cases hD
        exact k_iret rfl rfl
      · rw [c26_8, cond_false] at hD
        refine k_runB (pc' := 42) (loc' := [(0, .ref 40960), (1, .int x1), (2, .int x2), (3, .int v5)]) (st' := [.int (F6 76)]) 3 rfl ?_
        cases hD
        exact k_iret rfl rfl
    · rw [c14_3, cond_false] at hD
      refine k_runB (pc' := 18) (loc' := [(0, .ref 40960), (1, .int x1), (2, .int x2)]) (st' := [.int ((-1))]) 1 rfl ?_
      cases hD
      exact k_iret rfl rfl
def d_bestOfTwo_118 (K44 : (Nat → Int32) → (Nat → Nat → Int32) → (Nat → Nat → Int64) → Int32 → Int32 → Int32 → Int32 → Int32 → Int32 → Int32 → Option (Int32 × (Nat → Int32) × (Nat → Nat → Int32) × (Nat → Nat → Int64))) (K56 : (Nat → Int32) → (Nat → Nat → Int32) → (Nat → Nat → Int64) → Int32 → Int32 → Int32 → Int32 → Int32 → Int32 → Int32 → Int32 → Option (Int32 × (Nat → Int32) × (Nat → Nat → Int32) × (Nat → Nat → Int64))) (n : Nat) (F : Nat → Int32) (A : Nat → Nat → Int32) (J : Nat → Nat → Int64) (x1 : Int32) (x2 : Int32) (x3 : Int32) (x4 : Int32) (x5 : Int32) (x6 : Int32) (x7 : Int32) (x8 : Int32) : Option (Int32 × (Nat → Int32) × (Nat → Nat → Int32) × (Nat → Nat → Int64)) :=
    K56 F A J x1 x2 x3 x4 x5 x6 x7 (x8 + 1)
theorem t_d_bestOfTwo_118 (ht : ∀ k, t.1 12 k = k_ty 12 k) {n : Nat} {K44 : (Nat → Int32) → (Nat → Nat → Int32) → (Nat → Nat → Int64) → Int32 → Int32 → Int32 → Int32 → Int32 → Int32 → Int32 → Option (Int32 × (Nat → Int32) × (Nat → Nat → Int32) × (Nat → Nat → Int64))} {K56 : (Nat → Int32) → (Nat → Nat → Int32) → (Nat → Nat → Int64) → Int32 → Int32 → Int32 → Int32 → Int32 → Int32 → Int32 → Int32 → Option (Int32 × (Nat → Int32) × (Nat → Nat → Int32) × (Nat → Nat → Int64))} (hK44 : ∀ (F : Nat → Int32) (A : Nat → Nat → Int32) (J : Nat → Nat → Int64) (x1 : Int32) (x2 : Int32) (x3 : Int32) (x4 : Int32) (x5 : Int32) (x6 : Int32) (x7 : Int32) (w : Int32 × (Nat → Int32) × (Nat → Nat → Int32) × (Nat → Nat → Int64)), K44 F A J x1 x2 x3 x4 x5 x6 x7 = some w → k_run t lg (d + 5) 223 44 [(0, .ref 40960), (1, .int x1), (2, .int x2), (3, .int x3), (4, .int x4), (5, .int x5), (6, .int x6), (7, .int x7)] [] (m_h c B F A J) (some (.int w.1), m_h c B w.2.1 w.2.2.1 w.2.2.2)) (hK56 : ∀ (F : Nat → Int32) (A : Nat → Nat → Int32) (J : Nat → Nat → Int64) (x1 : Int32) (x2 : Int32) (x3 : Int32) (x4 : Int32) (x5 : Int32) (x6 : Int32) (x7 : Int32) (x8 : Int32) (w : Int32 × (Nat → Int32) × (Nat → Nat → Int32) × (Nat → Nat → Int64)), K56 F A J x1 x2 x3 x4 x5 x6 x7 x8 = some w → k_run t lg (d + 5) 223 56 [(0, .ref 40960), (1, .int x1), (2, .int x2), (3, .int x3), (4, .int x4), (5, .int x5), (6, .int x6), (7, .int x7), (8, .int x8)] [] (m_h c B F A J) (some (.int w.1), m_h c B w.2.1 w.2.2.1 w.2.2.2)) {F : Nat → Int32} {A : Nat → Nat → Int32} {J : Nat → Nat → Int64} {x1 : Int32} {x2 : Int32} {x3 : Int32} {x4 : Int32} {x5 : Int32} {x6 : Int32} {x7 : Int32} {x8 : Int32} {w : Int32 × (Nat → Int32) × (Nat → Nat → Int32) × (Nat → Nat → Int64)} : d_bestOfTwo_118 K44 K56 n F A J x1 x2 x3 x4 x5 x6 x7 x8 = some w → k_run t lg (d + 5) 223 118 [(0, .ref 40960), (1, .int x1), (2, .int x2), (3, .int x3), (4, .int x4), (5, .int x5), (6, .int x6), (7, .int x7), (8, .int x8)] [] (m_h c B F A J) (some (.int w.1), m_h c B w.2.1 w.2.2.1 w.2.2.2) := by
  intro hD
  unfold d_bestOfTwo_118 at hD
  refine k_runB (pc' := 56) (loc' := [(0, .ref 40960), (1, .int x1), (2, .int x2), (3, .int x3), (4, .int x4), (5, .int x5), (6, .int x6), (7, .int x7), (8, .int (x8 + 1))]) (st' := []) 2 rfl ?_
  refine k_wk [0, 1, 2, 3, 4, 5, 6, 7, 8] (loc' := [(0, .ref 40960), (1, .int x1), (2, .int x2), (3, .int x3), (4, .int x4), (5, .int x5), (6, .int x6), (7, .int x7), (8, .int (x8 + 1))]) rfl rfl ?_
  exact hK56 _ _ _ _ _ _ _ _ _ _ _ _ hD
def d_bestOfTwo_106 (K44 : (Nat → Int32) → (Nat → Nat → Int32) → (Nat → Nat → Int64) → Int32 → Int32 → Int32 → Int32 → Int32 → Int32 → Int32 → Option (Int32 × (Nat → Int32) × (Nat → Nat → Int32) × (Nat → Nat → Int64))) (K56 : (Nat → Int32) → (Nat → Nat → Int32) → (Nat → Nat → Int64) → Int32 → Int32 → Int32 → Int32 → Int32 → Int32 → Int32 → Int32 → Option (Int32 × (Nat → Int32) × (Nat → Nat → Int32) × (Nat → Nat → Int64))) (n : Nat) (F : Nat → Int32) (A : Nat → Nat → Int32) (J : Nat → Nat → Int64) (x1 : Int32) (x2 : Int32) (x3 : Int32) (x7 : Int32) (x8 : Int32) (x9 : Int32) : Option (Int32 × (Nat → Int32) × (Nat → Nat → Int32) × (Nat → Nat → Int64)) :=
    d_bestOfTwo_118 K44 K56 n F A J x1 x2 x3 x7 x8 x9 x7 x8
theorem t_d_bestOfTwo_106 (ht : ∀ k, t.1 12 k = k_ty 12 k) {n : Nat} {K44 : (Nat → Int32) → (Nat → Nat → Int32) → (Nat → Nat → Int64) → Int32 → Int32 → Int32 → Int32 → Int32 → Int32 → Int32 → Option (Int32 × (Nat → Int32) × (Nat → Nat → Int32) × (Nat → Nat → Int64))} {K56 : (Nat → Int32) → (Nat → Nat → Int32) → (Nat → Nat → Int64) → Int32 → Int32 → Int32 → Int32 → Int32 → Int32 → Int32 → Int32 → Option (Int32 × (Nat → Int32) × (Nat → Nat → Int32) × (Nat → Nat → Int64))} (hK44 : ∀ (F : Nat → Int32) (A : Nat → Nat → Int32) (J : Nat → Nat → Int64) (x1 : Int32) (x2 : Int32) (x3 : Int32) (x4 : Int32) (x5 : Int32) (x6 : Int32) (x7 : Int32) (w : Int32 × (Nat → Int32) × (Nat → Nat → Int32) × (Nat → Nat → Int64)), K44 F A J x1 x2 x3 x4 x5 x6 x7 = some w → k_run t lg (d + 5) 223 44 [(0, .ref 40960), (1, .int x1), (2, .int x2), (3, .int x3), (4, .int x4), (5, .int x5), (6, .int x6), (7, .int x7)] [] (m_h c B F A J) (some (.int w.1), m_h c B w.2.1 w.2.2.1 w.2.2.2)) (hK56 : ∀ (F : Nat → Int32) (A : Nat → Nat → Int32) (J : Nat → Nat → Int64) (x1 : Int32) (x2 : Int32) (x3 : Int32) (x4 : Int32) (x5 : Int32) (x6 : Int32) (x7 : Int32) (x8 : Int32) (w : Int32 × (Nat → Int32) × (Nat → Nat → Int32) × (Nat → Nat → Int64)), K56 F A J x1 x2 x3 x4 x5 x6 x7 x8 = some w → k_run t lg (d + 5) 223 56 [(0, .ref 40960), (1, .int x1), (2, .int x2), (3, .int x3), (4, .int x4), (5, .int x5), (6, .int x6), (7, .int x7), (8, .int x8)] [] (m_h c B F A J) (some (.int w.1), m_h c B w.2.1 w.2.2.1 w.2.2.2)) {F : Nat → Int32} {A : Nat → Nat → Int32} {J : Nat → Nat → Int64} {x1 : Int32} {x2 : Int32} {x3 : Int32} {x7 : Int32} {x8 : Int32} {x9 : Int32} {w : Int32 × (Nat → Int32) × (Nat → Nat → Int32) × (Nat → Nat → Int64)} : d_bestOfTwo_106 K44 K56 n F A J x1 x2 x3 x7 x8 x9 = some w → k_run t lg (d + 5) 223 106 [(0, .ref 40960), (1, .int x1), (2, .int x2), (3, .int x3), (7, .int x7), (8, .int x8), (9, .int x9)] [] (m_h c B F A J) (some (.int w.1), m_h c B w.2.1 w.2.2.1 w.2.2.2) := by
  intro hD
  unfold d_bestOfTwo_106 at hD
  refine k_runB (pc' := 118) (loc' := [(0, .ref 40960), (1, .int x1), (2, .int x2), (3, .int x3), (4, .int x7), (5, .int x8), (6, .int x9), (7, .int x7), (8, .int x8), (9, .int x9)]) (st' := []) 6 rfl ?_
  refine k_wk [0, 1, 2, 3, 4, 5, 6, 7, 8] (loc' := [(0, .ref 40960), (1, .int x1), (2, .int x2), (3, .int x3), (4, .int x7), (5, .int x8), (6, .int x9), (7, .int x7), (8, .int x8)]) rfl rfl ?_
  exact t_d_bestOfTwo_118 ht hK44 hK56 hD
def d_bestOfTwo_56 (K44 : (Nat → Int32) → (Nat → Nat → Int32) → (Nat → Nat → Int64) → Int32 → Int32 → Int32 → Int32 → Int32 → Int32 → Int32 → Option (Int32 × (Nat → Int32) × (Nat → Nat → Int32) × (Nat → Nat → Int64))) : Nat → (Nat → Int32) → (Nat → Nat → Int32) → (Nat → Nat → Int64) → Int32 → Int32 → Int32 → Int32 → Int32 → Int32 → Int32 → Int32 → Option (Int32 × (Nat → Int32) × (Nat → Nat → Int32) × (Nat → Nat → Int64))
  | 0, _, _, _, _, _, _, _, _, _, _, _ => none
  | n + 1, F, A, J, x1, x2, x3, x4, x5, x6, x7, x8 => (d_options n F A J).bind fun v20 =>
    cond (g_cnd .ge x8 v20)
    (K44 F A J x1 x2 x3 x4 x5 x6 (x7 + 1))
    ((d_takes n F A J).bind fun (_, F23, A24, J25) =>
    (d_leaves n F23 A24 J25 x1 x7).bind fun (v26, F27, A28, J29) =>
    (d_leaves n F27 A28 J29 x2 x8).bind fun (v30, F31, A32, J33) =>
    (d_wholeNight n F31 A32 J33).bind fun (v34, F35, A36, J37) =>
    cond (g_cnd .lt x4 0)
    (d_bestOfTwo_106 K44 (d_bestOfTwo_56 K44 n) n F35 A36 J37 x1 x2 x3 x7 x8 v34)
    (cond (g_cnd .gt v34 x6)
    (d_bestOfTwo_106 K44 (d_bestOfTwo_56 K44 n) n F35 A36 J37 x1 x2 x3 x7 x8 v34)
    (d_bestOfTwo_118 K44 (d_bestOfTwo_56 K44 n) n F35 A36 J37 x1 x2 x3 x4 x5 x6 x7 x8)))
theorem t_d_bestOfTwo_56 (ht : ∀ k, t.1 12 k = k_ty 12 k) {n : Nat} {K44 : (Nat → Int32) → (Nat → Nat → Int32) → (Nat → Nat → Int64) → Int32 → Int32 → Int32 → Int32 → Int32 → Int32 → Int32 → Option (Int32 × (Nat → Int32) × (Nat → Nat → Int32) × (Nat → Nat → Int64))} (hK44 : ∀ (F : Nat → Int32) (A : Nat → Nat → Int32) (J : Nat → Nat → Int64) (x1 : Int32) (x2 : Int32) (x3 : Int32) (x4 : Int32) (x5 : Int32) (x6 : Int32) (x7 : Int32) (w : Int32 × (Nat → Int32) × (Nat → Nat → Int32) × (Nat → Nat → Int64)), K44 F A J x1 x2 x3 x4 x5 x6 x7 = some w → k_run t lg (d + 5) 223 44 [(0, .ref 40960), (1, .int x1), (2, .int x2), (3, .int x3), (4, .int x4), (5, .int x5), (6, .int x6), (7, .int x7)] [] (m_h c B F A J) (some (.int w.1), m_h c B w.2.1 w.2.2.1 w.2.2.2)) {F : Nat → Int32} {A : Nat → Nat → Int32} {J : Nat → Nat → Int64} {x1 : Int32} {x2 : Int32} {x3 : Int32} {x4 : Int32} {x5 : Int32} {x6 : Int32} {x7 : Int32} {x8 : Int32} {w : Int32 × (Nat → Int32) × (Nat → Nat → Int32) × (Nat → Nat → Int64)} : d_bestOfTwo_56 K44 n F A J x1 x2 x3 x4 x5 x6 x7 x8 = some w → k_run t lg (d + 5) 223 56 [(0, .ref 40960), (1, .int x1), (2, .int x2), (3, .int x3), (4, .int x4), (5, .int x5), (6, .int x6), (7, .int x7), (8, .int x8)] [] (m_h c B F A J) (some (.int w.1), m_h c B w.2.1 w.2.2.1 w.2.2.2) := by
  induction n generalizing F A J x1 x2 x3 x4 x5 x6 x7 x8 w with
  | zero => intro hD; cases hD
  | succ n ih =>
    intro hD
    have hK56 : ∀ (F : Nat → Int32) (A : Nat → Nat → Int32) (J : Nat → Nat → Int64) (x1 : Int32) (x2 : Int32) (x3 : Int32) (x4 : Int32) (x5 : Int32) (x6 : Int32) (x7 : Int32) (x8 : Int32) (w : Int32 × (Nat → Int32) × (Nat → Nat → Int32) × (Nat → Nat → Int64)), d_bestOfTwo_56 K44 n F A J x1 x2 x3 x4 x5 x6 x7 x8 = some w → k_run t lg (d + 5) 223 56 [(0, .ref 40960), (1, .int x1), (2, .int x2), (3, .int x3), (4, .int x4), (5, .int x5), (6, .int x6), (7, .int x7), (8, .int x8)] [] (m_h c B F A J) (some (.int w.1), m_h c B w.2.1 w.2.2.1 w.2.2.2) := fun _ _ _ _ _ _ _ _ _ _ _ _ h => ih h
    unfold d_bestOfTwo_56 at hD
    refine k_runB (pc' := 59) (loc' := [(0, .ref 40960), (1, .int x1), (2, .int x2), (3, .int x3), (4, .int x4), (5, .int x5), (6, .int x6), (7, .int x7), (8, .int x8)]) (st' := [.ref 40960, .int x8]) 2 rfl ?_
    obtain ⟨v20, hv20, hD⟩ := Option.bind_eq_some_iff.mp hD
    refine k_runC rfl rfl rfl rfl (t_d_options (d := d + 3) hv20) ?_
    refine k_ic rfl (fun c62_20 => ?_) (fun c62_20 => ?_)
    · rw [c62_20, cond_true] at hD
      refine k_runB (pc' := 44) (loc' := [(0, .ref 40960), (1, .int x1), (2, .int x2), (3, .int x3), (4, .int x4), (5, .int x5), (6, .int x6), (7, .int (x7 + 1)), (8, .int x8)]) (st' := []) 2 rfl ?_
      refine k_wk [0, 1, 2, 3, 4, 5, 6, 7] (loc' := [(0, .ref 40960), (1, .int x1), (2, .int x2), (3, .int x3), (4, .int x4), (5, .int x5), (6, .int x6), (7, .int (x7 + 1))]) rfl rfl ?_
      exact hK44 _ _ _ _ _ _ _ _ _ _ _ hD
    · rw [c62_20, cond_false] at hD
      refine k_runB (pc' := 66) (loc' := [(0, .ref 40960), (1, .int x1), (2, .int x2), (3, .int x3), (4, .int x4), (5, .int x5), (6, .int x6), (7, .int x7), (8, .int x8)]) (st' := [.ref 40960]) 1 rfl ?_
      obtain ⟨⟨v22, F23, A24, J25⟩, hv22, hD⟩ := Option.bind_eq_some_iff.mp hD
      dsimp only at hD
      refine k_runC rfl rfl rfl rfl (t_d_takes (d := d + 4) hv22) ?_
      refine k_runB (pc' := 73) (loc' := [(0, .ref 40960), (1, .int x1), (2, .int x2), (3, .int x3), (4, .int x4), (5, .int x5), (6, .int x6), (7, .int x7), (8, .int x8)]) (st' := [.int x7, .int x1, .ref 40960]) 3 rfl ?_
      obtain ⟨⟨v26, F27, A28, J29⟩, hv26, hD⟩ := Option.bind_eq_some_iff.mp hD
      dsimp only at hD
      refine k_runC rfl rfl rfl rfl (t_d_leaves (d := d + 3) hv26) ?_
      refine k_runB (pc' := 81) (loc' := [(0, .ref 40960), (1, .int x1), (2, .int x2), (3, .int x3), (4, .int x4), (5, .int x5), (6, .int x6), (7, .int x7), (8, .int x8)]) (st' := [.int x8, .int x2, .ref 40960]) 4 rfl ?_
      obtain ⟨⟨v30, F31, A32, J33⟩, hv30, hD⟩ := Option.bind_eq_some_iff.mp hD
      dsimp only at hD
      refine k_runC rfl rfl rfl rfl (t_d_leaves (d := d + 3) hv30) ?_
      refine k_runB (pc' := 86) (loc' := [(0, .ref 40960), (1, .int x1), (2, .int x2), (3, .int x3), (4, .int x4), (5, .int x5), (6, .int x6), (7, .int x7), (8, .int x8)]) (st' := [.ref 40960]) 2 rfl ?_
      obtain ⟨⟨v34, F35, A36, J37⟩, hv34, hD⟩ := Option.bind_eq_some_iff.mp hD
      dsimp only at hD
      refine k_runC rfl rfl rfl rfl (t_d_wholeNight (d := d) ht hv34) ?_
      refine k_runB (pc' := 93) (loc' := [(0, .ref 40960), (1, .int x1), (2, .int x2), (3, .int x3), (4, .int x4), (5, .int x5), (6, .int x6), (7, .int x7), (8, .int x8), (9, .int v34)]) (st' := [.int x4]) 2 rfl ?_
      refine k_if rfl (fun c93_37 => ?_) (fun c93_37 => ?_)
      · rw [c93_37, cond_true] at hD
        refine k_wk [0, 1, 2, 3, 7, 8, 9] (loc' := [(0, .ref 40960), (1, .int x1), (2, .int x2), (3, .int x3), (7, .int x7), (8, .int x8), (9, .int v34)]) rfl rfl ?_
        exact t_d_bestOfTwo_106 ht hK44 hK56 hD
      · rw [c93_37, cond_false] at hD
        refine k_runB (pc' := 100) (loc' := [(0, .ref 40960), (1, .int x1), (2, .int x2), (3, .int x3), (4, .int x4), (5, .int x5), (6, .int x6), (7, .int x7), (8, .int x8), (9, .int v34)]) (st' := [.int x6, .int v34]) 2 rfl ?_
        refine k_ic rfl (fun c100_38 => ?_) (fun c100_38 => ?_)
        · rw [c100_38, cond_true] at hD
          refine k_wk [0, 1, 2, 3, 7, 8, 9] (loc' := [(0, .ref 40960), (1, .int x1), (2, .int x2), (3, .int x3), (7, .int x7), (8, .int x8), (9, .int v34)]) rfl rfl ?_
          exact t_d_bestOfTwo_106 ht hK44 hK56 hD
        · rw [c100_38, cond_false] at hD
          refine k_runB (pc' := 118) (loc' := [(0, .ref 40960), (1, .int x1), (2, .int x2), (3, .int x3), (4, .int x4), (5, .int x5), (6, .int x6), (7, .int x7), (8, .int x8), (9, .int v34)]) (st' := []) 1 rfl ?_
          refine k_wk [0, 1, 2, 3, 4, 5, 6, 7, 8] (loc' := [(0, .ref 40960), (1, .int x1), (2, .int x2), (3, .int x3), (4, .int x4), (5, .int x5), (6, .int x6), (7, .int x7), (8, .int x8)]) rfl rfl ?_
          exact t_d_bestOfTwo_118 ht hK44 hK56 hD
def d_bestOfTwo_44 : Nat → (Nat → Int32) → (Nat → Nat → Int32) → (Nat → Nat → Int64) → Int32 → Int32 → Int32 → Int32 → Int32 → Int32 → Int32 → Option (Int32 × (Nat → Int32) × (Nat → Nat → Int32) × (Nat → Nat → Int64))
  | 0, _, _, _, _, _, _, _, _, _, _ => none
  | n + 1, F, A, J, x1, x2, x3, x4, x5, x6, x7 => (d_options n F A J).bind fun v8 =>
    cond (g_cnd .ge x7 v8)
    (cond (g_cnd .ne x3 0)
    (cond (g_cnd .ne x3 1)
    ((d_codeOf n F A J x2 x5).bind fun (v12, F13, A14, J15) =>
    some (v12, F13, A14, J15))
    ((d_codeOf n F A J x1 x4).bind fun (v16, F17, A18, J19) =>
    some (v16, F17, A18, J19)))
    (some (x6, F, A, J)))
    (d_bestOfTwo_56 (d_bestOfTwo_44 n) n F A J x1 x2 x3 x4 x5 x6 x7 0)
theorem t_d_bestOfTwo_44 (ht : ∀ k, t.1 12 k = k_ty 12 k) {n : Nat}  {F : Nat → Int32} {A : Nat → Nat → Int32} {J : Nat → Nat → Int64} {x1 : Int32} {x2 : Int32} {x3 : Int32} {x4 : Int32} {x5 : Int32} {x6 : Int32} {x7 : Int32} {w : Int32 × (Nat → Int32) × (Nat → Nat → Int32) × (Nat → Nat → Int64)} : d_bestOfTwo_44 n F A J x1 x2 x3 x4 x5 x6 x7 = some w → k_run t lg (d + 5) 223 44 [(0, .ref 40960), (1, .int x1), (2, .int x2), (3, .int x3), (4, .int x4), (5, .int x5), (6, .int x6), (7, .int x7)] [] (m_h c B F A J) (some (.int w.1), m_h c B w.2.1 w.2.2.1 w.2.2.2) := by
  induction n generalizing F A J x1 x2 x3 x4 x5 x6 x7 w with
  | zero => intro hD; cases hD
  | succ n ih =>
    intro hD
    have hK44 : ∀ (F : Nat → Int32) (A : Nat → Nat → Int32) (J : Nat → Nat → Int64) (x1 : Int32) (x2 : Int32) (x3 : Int32) (x4 : Int32) (x5 : Int32) (x6 : Int32) (x7 : Int32) (w : Int32 × (Nat → Int32) × (Nat → Nat → Int32) × (Nat → Nat → Int64)), d_bestOfTwo_44 n F A J x1 x2 x3 x4 x5 x6 x7 = some w → k_run t lg (d + 5) 223 44 [(0, .ref 40960), (1, .int x1), (2, .int x2), (3, .int x3), (4, .int x4), (5, .int x5), (6, .int x6), (7, .int x7)] [] (m_h c B F A J) (some (.int w.1), m_h c B w.2.1 w.2.2.1 w.2.2.2) := fun _ _ _ _ _ _ _ _ _ _ _ h => ih h
    unfold d_bestOfTwo_44 at hD
    refine k_runB (pc' := 47) (loc' := [(0, .ref 40960), (1, .int x1), (2, .int x2), (3, .int x3), (4, .int x4), (5, .int x5), (6, .int x6), (7, .int x7)]) (st' := [.ref 40960, .int x7]) 2 rfl ?_
    obtain ⟨v8, hv8, hD⟩ := Option.bind_eq_some_iff.mp hD
    refine k_runC rfl rfl rfl rfl (t_d_options (d := d + 3) hv8) ?_
    refine k_ic rfl (fun c50_8 => ?_) (fun c50_8 => ?_)
    · rw [c50_8, cond_true] at hD
      refine k_runB (pc' := 131) (loc' := [(0, .ref 40960), (1, .int x1), (2, .int x2), (3, .int x3), (4, .int x4), (5, .int x5), (6, .int x6), (7, .int x7)]) (st' := [.int x3]) 1 rfl ?_
      refine k_if rfl (fun c131_9 => ?_) (fun c131_9 => ?_)
      · rw [c131_9, cond_true] at hD
        refine k_runB (pc' := 141) (loc' := [(0, .ref 40960), (1, .int x1), (2, .int x2), (3, .int x3), (4, .int x4), (5, .int x5), (6, .int x6), (7, .int x7)]) (st' := [.int 1, .int x3]) 2 rfl ?_
        refine k_ic rfl (fun c141_10 => ?_) (fun c141_10 => ?_)
        · rw [c141_10, cond_true] at hD
          refine k_runB (pc' := 158) (loc' := [(0, .ref 40960), (1, .int x1), (2, .int x2), (3, .int x3), (4, .int x4), (5, .int x5), (6, .int x6), (7, .int x7)]) (st' := [.int x5, .int x2, .ref 40960]) 3 rfl ?_
          obtain ⟨⟨v12, F13, A14, J15⟩, hv12, hD⟩ := Option.bind_eq_some_iff.mp hD
          dsimp only at hD
          refine k_runC rfl rfl rfl rfl (t_d_codeOf (d := d + 2) hv12) ?_
          cases hD
          exact k_iret rfl rfl
        · rw [c141_10, cond_false] at hD
          refine k_runB (pc' := 148) (loc' := [(0, .ref 40960), (1, .int x1), (2, .int x2), (3, .int x3), (4, .int x4), (5, .int x5), (6, .int x6), (7, .int x7)]) (st' := [.int x4, .int x1, .ref 40960]) 3 rfl ?_
          obtain ⟨⟨v16, F17, A18, J19⟩, hv16, hD⟩ := Option.bind_eq_some_iff.mp hD
          dsimp only at hD
          refine k_runC rfl rfl rfl rfl (t_d_codeOf (d := d + 2) hv16) ?_
          refine k_runB (pc' := 161) (loc' := [(0, .ref 40960), (1, .int x1), (2, .int x2), (3, .int x3), (4, .int x4), (5, .int x5), (6, .int x6), (7, .int x7)]) (st' := [.int v16]) 1 rfl ?_
          cases hD
          exact k_iret rfl rfl
      · rw [c131_9, cond_false] at hD
        refine k_runB (pc' := 161) (loc' := [(0, .ref 40960), (1, .int x1), (2, .int x2), (3, .int x3), (4, .int x4), (5, .int x5), (6, .int x6), (7, .int x7)]) (st' := [.int x6]) 2 rfl ?_
        cases hD
        exact k_iret rfl rfl
    · rw [c50_8, cond_false] at hD
      refine k_runB (pc' := 56) (loc' := [(0, .ref 40960), (1, .int x1), (2, .int x2), (3, .int x3), (4, .int x4), (5, .int x5), (6, .int x6), (7, .int x7), (8, .int 0)]) (st' := []) 2 rfl ?_
      refine k_wk [0, 1, 2, 3, 4, 5, 6, 7, 8] (loc' := [(0, .ref 40960), (1, .int x1), (2, .int x2), (3, .int x3), (4, .int x4), (5, .int x5), (6, .int x6), (7, .int x7), (8, .int 0)]) rfl rfl ?_
      exact t_d_bestOfTwo_56 ht hK44 hD
/-- SleepWorkModel.bestOfTwo(III)I -/
def d_bestOfTwo (n : Nat) (F : Nat → Int32) (A : Nat → Nat → Int32) (J : Nat → Nat → Int64) (x1 : Int32) (x2 : Int32) (x3 : Int32) : Option (Int32 × (Nat → Int32) × (Nat → Nat → Int32) × (Nat → Nat → Int64)) :=
  (d_isMan F A J x1).bind fun v1 =>
  cond (g_cnd .eq v1 0)
  (some ((-1), F, A, J))
  ((d_isMan F A J x2).bind fun v3 =>
  cond (g_cnd .eq v3 0)
  (some ((-1), F, A, J))
  (cond (g_cnd .eq x1 x2)
  (some ((-1), F, A, J))
  ((d_in x3 0 2).bind fun v6 =>
  cond (g_cnd .ne v6 0)
  (d_bestOfTwo_44 n F A J x1 x2 x3 ((-1)) 0 0 0)
  (some ((-1), F, A, J)))))
theorem t_d_bestOfTwo (ht : ∀ k, t.1 12 k = k_ty 12 k) {n : Nat} {x1 : Int32} {x2 : Int32} {x3 : Int32} {r : Int32} {F' : Nat → Int32} {A' : Nat → Nat → Int32} {J' : Nat → Nat → Int64} : d_bestOfTwo n F A J x1 x2 x3 = some (r, F', A', J') → k_run t lg (d + 5) 223 0 [(0, .ref 40960), (1, .int x1), (2, .int x2), (3, .int x3)] [] (m_h c B F A J) (some (.int r), m_h c B F' A' J') := by
  intro hD
  unfold d_bestOfTwo at hD
  refine k_runB (pc' := 2) (loc' := [(0, .ref 40960), (1, .int x1), (2, .int x2), (3, .int x3)]) (st' := [.int x1, .ref 40960]) 2 rfl ?_
  obtain ⟨v1, hv1, hD⟩ := Option.bind_eq_some_iff.mp hD
  refine k_runC rfl rfl rfl rfl (t_d_isMan (d := d + 3) hv1) ?_
  refine k_if rfl (fun c5_1 => ?_) (fun c5_1 => ?_)
  · rw [c5_1, cond_true] at hD
    refine k_runB (pc' := 31) (loc' := [(0, .ref 40960), (1, .int x1), (2, .int x2), (3, .int x3)]) (st' := [.int ((-1))]) 1 rfl ?_
    cases hD
    exact k_iret rfl rfl
  · rw [c5_1, cond_false] at hD
    refine k_runB (pc' := 10) (loc' := [(0, .ref 40960), (1, .int x1), (2, .int x2), (3, .int x3)]) (st' := [.int x2, .ref 40960]) 2 rfl ?_
    obtain ⟨v3, hv3, hD⟩ := Option.bind_eq_some_iff.mp hD
    refine k_runC rfl rfl rfl rfl (t_d_isMan (d := d + 3) hv3) ?_
    refine k_if rfl (fun c13_3 => ?_) (fun c13_3 => ?_)
    · rw [c13_3, cond_true] at hD
      refine k_runB (pc' := 31) (loc' := [(0, .ref 40960), (1, .int x1), (2, .int x2), (3, .int x3)]) (st' := [.int ((-1))]) 1 rfl ?_
      cases hD
      exact k_iret rfl rfl
    · rw [c13_3, cond_false] at hD
      refine k_runB (pc' := 18) (loc' := [(0, .ref 40960), (1, .int x1), (2, .int x2), (3, .int x3)]) (st' := [.int x2, .int x1]) 2 rfl ?_
      refine k_ic rfl (fun c18_4 => ?_) (fun c18_4 => ?_)
      · rw [c18_4, cond_true] at hD
        refine k_runB (pc' := 31) (loc' := [(0, .ref 40960), (1, .int x1), (2, .int x2), (3, .int x3)]) (st' := [.int ((-1))]) 1 rfl ?_
        cases hD
        exact k_iret rfl rfl
      · rw [c18_4, cond_false] at hD
        refine k_runB (pc' := 24) (loc' := [(0, .ref 40960), (1, .int x1), (2, .int x2), (3, .int x3)]) (st' := [.int 2, .int 0, .int x3]) 3 rfl ?_
        obtain ⟨v6, hv6, hD⟩ := Option.bind_eq_some_iff.mp hD
        refine k_runC rfl rfl rfl rfl (t_d_in (d := d + 4) hv6) ?_
        refine k_if rfl (fun c27_6 => ?_) (fun c27_6 => ?_)
        · rw [c27_6, cond_true] at hD
          refine k_runB (pc' := 44) (loc' := [(0, .ref 40960), (1, .int x1), (2, .int x2), (3, .int x3), (4, .int ((-1))), (5, .int 0), (6, .int 0), (7, .int 0)]) (st' := []) 8 rfl ?_
          refine k_wk [0, 1, 2, 3, 4, 5, 6, 7] (loc' := [(0, .ref 40960), (1, .int x1), (2, .int x2), (3, .int x3), (4, .int ((-1))), (5, .int 0), (6, .int 0), (7, .int 0)]) rfl rfl ?_
          exact t_d_bestOfTwo_44 ht  hD
        · rw [c27_6, cond_false] at hD
          refine k_runB (pc' := 31) (loc' := [(0, .ref 40960), (1, .int x1), (2, .int x2), (3, .int x3)]) (st' := [.int ((-1))]) 1 rfl ?_
          cases hD
          exact k_iret rfl rfl
/-- SleepWorkModel.hire(I)I -/
def d_hire (n : Nat) (F : Nat → Int32) (A : Nat → Nat → Int32) (J : Nat → Nat → Int64) (x1 : Int32) : Option (Int32 × (Nat → Int32) × (Nat → Nat → Int32) × (Nat → Nat → Int64)) :=
  (d_isMan F A J x1).bind fun v1 =>
  cond (g_cnd .ne v1 0)
  ((d_bestOption n F A J x1).bind fun (v3, F4, A5, J6) =>
  (d_gainBy n F4 A5 J6 x1 0).bind fun (v7, F8, A9, J10) =>
  some ((F4 76) - v7, F8, A9, J10))
  (some ((-1000000), F, A, J))
theorem t_d_hire (ht : ∀ k, t.1 12 k = k_ty 12 k) {n : Nat} {x1 : Int32} {r : Int32} {F' : Nat → Int32} {A' : Nat → Nat → Int32} {J' : Nat → Nat → Int64} : d_hire n F A J x1 = some (r, F', A', J') → k_run t lg (d + 7) 224 0 [(0, .ref 40960), (1, .int x1)] [] (m_h c B F A J) (some (.int r), m_h c B F' A' J') := by
  intro hD
  unfold d_hire at hD
  refine k_runB (pc' := 2) (loc' := [(0, .ref 40960), (1, .int x1)]) (st' := [.int x1, .ref 40960]) 2 rfl ?_
  obtain ⟨v1, hv1, hD⟩ := Option.bind_eq_some_iff.mp hD
  refine k_runC rfl rfl rfl rfl (t_d_isMan (d := d + 5) hv1) ?_
  refine k_if rfl (fun c5_1 => ?_) (fun c5_1 => ?_)
  · rw [c5_1, cond_true] at hD
    refine k_runB (pc' := 14) (loc' := [(0, .ref 40960), (1, .int x1)]) (st' := [.int x1, .ref 40960]) 2 rfl ?_
    obtain ⟨⟨v3, F4, A5, J6⟩, hv3, hD⟩ := Option.bind_eq_some_iff.mp hD
    dsimp only at hD
    refine k_runC rfl rfl rfl rfl (t_d_bestOption (d := d) ht hv3) ?_
    refine k_runB (pc' := 25) (loc' := [(0, .ref 40960), (1, .int x1)]) (st' := [.int 0, .int x1, .ref 40960, .int (F4 76)]) 6 rfl ?_
    obtain ⟨⟨v7, F8, A9, J10⟩, hv7, hD⟩ := Option.bind_eq_some_iff.mp hD
    dsimp only at hD
    refine k_runC rfl rfl rfl rfl (t_d_gainBy (d := d + 1) ht hv7) ?_
    refine k_runB (pc' := 29) (loc' := [(0, .ref 40960), (1, .int x1)]) (st' := [.int ((F4 76) - v7)]) 1 rfl ?_
    cases hD
    exact k_iret rfl rfl
  · rw [c5_1, cond_false] at hD
    refine k_runB (pc' := 11) (loc' := [(0, .ref 40960), (1, .int x1)]) (st' := [.int ((-1000000))]) 1 rfl ?_
    cases hD
    exact k_iret rfl rfl
def d_hide_136 (K39 : (Nat → Int32) → (Nat → Nat → Int32) → (Nat → Nat → Int64) → Int32 → Int32 → Int32 → Int32 → Int32 → Option (Int32 × (Nat → Int32) × (Nat → Nat → Int32) × (Nat → Nat → Int64))) (n : Nat) (F : Nat → Int32) (A : Nat → Nat → Int32) (J : Nat → Nat → Int64) (x1 : Int32) (x2 : Int32) (x3 : Int32) (x4 : Int32) (x5 : Int32) : Option (Int32 × (Nat → Int32) × (Nat → Nat → Int32) × (Nat → Nat → Int64)) :=
    K39 F A J x1 x2 x3 x4 (x5 + 1)
theorem t_d_hide_136 (ht : ∀ k, t.1 12 k = k_ty 12 k) {n : Nat} {K39 : (Nat → Int32) → (Nat → Nat → Int32) → (Nat → Nat → Int64) → Int32 → Int32 → Int32 → Int32 → Int32 → Option (Int32 × (Nat → Int32) × (Nat → Nat → Int32) × (Nat → Nat → Int64))} (hK39 : ∀ (F : Nat → Int32) (A : Nat → Nat → Int32) (J : Nat → Nat → Int64) (x1 : Int32) (x2 : Int32) (x3 : Int32) (x4 : Int32) (x5 : Int32) (w : Int32 × (Nat → Int32) × (Nat → Nat → Int32) × (Nat → Nat → Int64)), K39 F A J x1 x2 x3 x4 x5 = some w → k_run t lg (d + 5) 225 39 [(0, .ref 40960), (1, .int x1), (2, .int x2), (3, .int x3), (4, .int x4), (5, .int x5)] [] (m_h c B F A J) (some (.int w.1), m_h c B w.2.1 w.2.2.1 w.2.2.2)) {F : Nat → Int32} {A : Nat → Nat → Int32} {J : Nat → Nat → Int64} {x1 : Int32} {x2 : Int32} {x3 : Int32} {x4 : Int32} {x5 : Int32} {w : Int32 × (Nat → Int32) × (Nat → Nat → Int32) × (Nat → Nat → Int64)} : d_hide_136 K39 n F A J x1 x2 x3 x4 x5 = some w → k_run t lg (d + 5) 225 136 [(0, .ref 40960), (1, .int x1), (2, .int x2), (3, .int x3), (4, .int x4), (5, .int x5)] [] (m_h c B F A J) (some (.int w.1), m_h c B w.2.1 w.2.2.1 w.2.2.2) := by
  intro hD
  unfold d_hide_136 at hD
  refine k_runB (pc' := 39) (loc' := [(0, .ref 40960), (1, .int x1), (2, .int x2), (3, .int x3), (4, .int x4), (5, .int (x5 + 1))]) (st' := []) 2 rfl ?_
  refine k_wk [0, 1, 2, 3, 4, 5] (loc' := [(0, .ref 40960), (1, .int x1), (2, .int x2), (3, .int x3), (4, .int x4), (5, .int (x5 + 1))]) rfl rfl ?_
  exact hK39 _ _ _ _ _ _ _ _ _ hD
def d_hide_129 (K39 : (Nat → Int32) → (Nat → Nat → Int32) → (Nat → Nat → Int64) → Int32 → Int32 → Int32 → Int32 → Int32 → Option (Int32 × (Nat → Int32) × (Nat → Nat → Int32) × (Nat → Nat → Int64))) (n : Nat) (F : Nat → Int32) (A : Nat → Nat → Int32) (J : Nat → Nat → Int64) (x1 : Int32) (x2 : Int32) (x5 : Int32) (x6 : Int32) (x7 : Int32) : Option (Int32 × (Nat → Int32) × (Nat → Nat → Int32) × (Nat → Nat → Int64)) :=
    d_hide_136 K39 n F A J x1 x2 x6 x7 x5
theorem t_d_hide_129 (ht : ∀ k, t.1 12 k = k_ty 12 k) {n : Nat} {K39 : (Nat → Int32) → (Nat → Nat → Int32) → (Nat → Nat → Int64) → Int32 → Int32 → Int32 → Int32 → Int32 → Option (Int32 × (Nat → Int32) × (Nat → Nat → Int32) × (Nat → Nat → Int64))} (hK39 : ∀ (F : Nat → Int32) (A : Nat → Nat → Int32) (J : Nat → Nat → Int64) (x1 : Int32) (x2 : Int32) (x3 : Int32) (x4 : Int32) (x5 : Int32) (w : Int32 × (Nat → Int32) × (Nat → Nat → Int32) × (Nat → Nat → Int64)), K39 F A J x1 x2 x3 x4 x5 = some w → k_run t lg (d + 5) 225 39 [(0, .ref 40960), (1, .int x1), (2, .int x2), (3, .int x3), (4, .int x4), (5, .int x5)] [] (m_h c B F A J) (some (.int w.1), m_h c B w.2.1 w.2.2.1 w.2.2.2)) {F : Nat → Int32} {A : Nat → Nat → Int32} {J : Nat → Nat → Int64} {x1 : Int32} {x2 : Int32} {x5 : Int32} {x6 : Int32} {x7 : Int32} {w : Int32 × (Nat → Int32) × (Nat → Nat → Int32) × (Nat → Nat → Int64)} : d_hide_129 K39 n F A J x1 x2 x5 x6 x7 = some w → k_run t lg (d + 5) 225 129 [(0, .ref 40960), (1, .int x1), (2, .int x2), (5, .int x5), (6, .int x6), (7, .int x7)] [] (m_h c B F A J) (some (.int w.1), m_h c B w.2.1 w.2.2.1 w.2.2.2) := by
  intro hD
  unfold d_hide_129 at hD
  refine k_runB (pc' := 136) (loc' := [(0, .ref 40960), (1, .int x1), (2, .int x2), (3, .int x6), (4, .int x7), (5, .int x5), (6, .int x6), (7, .int x7)]) (st' := []) 4 rfl ?_
  refine k_wk [0, 1, 2, 3, 4, 5] (loc' := [(0, .ref 40960), (1, .int x1), (2, .int x2), (3, .int x6), (4, .int x7), (5, .int x5)]) rfl rfl ?_
  exact t_d_hide_136 ht hK39 hD
def d_hide_92 (K39 : (Nat → Int32) → (Nat → Nat → Int32) → (Nat → Nat → Int64) → Int32 → Int32 → Int32 → Int32 → Int32 → Option (Int32 × (Nat → Int32) × (Nat → Nat → Int32) × (Nat → Nat → Int64))) (n : Nat) (F : Nat → Int32) (A : Nat → Nat → Int32) (J : Nat → Nat → Int64) (x1 : Int32) (x2 : Int32) (x3 : Int32) (x4 : Int32) (x5 : Int32) (s0 : Int32) : Option (Int32 × (Nat → Int32) × (Nat → Nat → Int32) × (Nat → Nat → Int64)) :=
    (d_takes n F A J).bind fun (_, F15, A16, J17) =>
    (m_st A16 48 100 (72 + x1) s0).bind fun A18 =>
    (d_wholeNight n F15 A18 J17).bind fun (v19, F20, A21, J22) =>
    cond (g_cnd .lt x3 0)
    (d_hide_129 K39 n F20 A21 J22 x1 x2 x5 s0 v19)
    (cond (g_cnd .gt v19 x4)
    (d_hide_129 K39 n F20 A21 J22 x1 x2 x5 s0 v19)
    (d_hide_136 K39 n F20 A21 J22 x1 x2 x3 x4 x5))
theorem t_d_hide_92 (ht : ∀ k, t.1 12 k = k_ty 12 k) {n : Nat} {K39 : (Nat → Int32) → (Nat → Nat → Int32) → (Nat → Nat → Int64) → Int32 → Int32 → Int32 → Int32 → Int32 → Option (Int32 × (Nat → Int32) × (Nat → Nat → Int32) × (Nat → Nat → Int64))} (hK39 : ∀ (F : Nat → Int32) (A : Nat → Nat → Int32) (J : Nat → Nat → Int64) (x1 : Int32) (x2 : Int32) (x3 : Int32) (x4 : Int32) (x5 : Int32) (w : Int32 × (Nat → Int32) × (Nat → Nat → Int32) × (Nat → Nat → Int64)), K39 F A J x1 x2 x3 x4 x5 = some w → k_run t lg (d + 5) 225 39 [(0, .ref 40960), (1, .int x1), (2, .int x2), (3, .int x3), (4, .int x4), (5, .int x5)] [] (m_h c B F A J) (some (.int w.1), m_h c B w.2.1 w.2.2.1 w.2.2.2)) {F : Nat → Int32} {A : Nat → Nat → Int32} {J : Nat → Nat → Int64} {x1 : Int32} {x2 : Int32} {x3 : Int32} {x4 : Int32} {x5 : Int32} {s0 : Int32} {w : Int32 × (Nat → Int32) × (Nat → Nat → Int32) × (Nat → Nat → Int64)} : d_hide_92 K39 n F A J x1 x2 x3 x4 x5 s0 = some w → k_run t lg (d + 5) 225 92 [(0, .ref 40960), (1, .int x1), (2, .int x2), (3, .int x3), (4, .int x4), (5, .int x5)] [.int s0] (m_h c B F A J) (some (.int w.1), m_h c B w.2.1 w.2.2.1 w.2.2.2) := by
  intro hD
  unfold d_hide_92 at hD
  refine k_runB (pc' := 95) (loc' := [(0, .ref 40960), (1, .int x1), (2, .int x2), (3, .int x3), (4, .int x4), (5, .int x5), (6, .int s0)]) (st' := [.ref 40960]) 2 rfl ?_
  obtain ⟨⟨v14, F15, A16, J17⟩, hv14, hD⟩ := Option.bind_eq_some_iff.mp hD
  dsimp only at hD
  refine k_runC rfl rfl rfl rfl (t_d_takes (d := d + 4) hv14) ?_
  refine k_runB (pc' := 108) (loc' := [(0, .ref 40960), (1, .int x1), (2, .int x2), (3, .int x3), (4, .int x4), (5, .int x5), (6, .int s0)]) (st' := [.int s0, .int (72 + x1), .ref 41008]) 6 rfl ?_
  obtain ⟨A18, hA18, hD⟩ := Option.bind_eq_some_iff.mp hD
  refine k_stI 48 rfl rfl (fun _ => rfl) hA18 ?_
  refine k_runB (pc' := 110) (loc' := [(0, .ref 40960), (1, .int x1), (2, .int x2), (3, .int x3), (4, .int x4), (5, .int x5), (6, .int s0)]) (st' := [.ref 40960]) 1 rfl ?_
  obtain ⟨⟨v19, F20, A21, J22⟩, hv19, hD⟩ := Option.bind_eq_some_iff.mp hD
  dsimp only at hD
  refine k_runC rfl rfl rfl rfl (t_d_wholeNight (d := d) ht hv19) ?_
  refine k_runB (pc' := 116) (loc' := [(0, .ref 40960), (1, .int x1), (2, .int x2), (3, .int x3), (4, .int x4), (5, .int x5), (6, .int s0), (7, .int v19)]) (st' := [.int x3]) 2 rfl ?_
  refine k_if rfl (fun c116_22 => ?_) (fun c116_22 => ?_)
  · rw [c116_22, cond_true] at hD
    refine k_wk [0, 1, 2, 5, 6, 7] (loc' := [(0, .ref 40960), (1, .int x1), (2, .int x2), (5, .int x5), (6, .int s0), (7, .int v19)]) rfl rfl ?_
    exact t_d_hide_129 ht hK39 hD
  · rw [c116_22, cond_false] at hD
    refine k_runB (pc' := 123) (loc' := [(0, .ref 40960), (1, .int x1), (2, .int x2), (3, .int x3), (4, .int x4), (5, .int x5), (6, .int s0), (7, .int v19)]) (st' := [.int x4, .int v19]) 2 rfl ?_
    refine k_ic rfl (fun c123_23 => ?_) (fun c123_23 => ?_)
    · rw [c123_23, cond_true] at hD
      refine k_wk [0, 1, 2, 5, 6, 7] (loc' := [(0, .ref 40960), (1, .int x1), (2, .int x2), (5, .int x5), (6, .int s0), (7, .int v19)]) rfl rfl ?_
      exact t_d_hide_129 ht hK39 hD
    · rw [c123_23, cond_false] at hD
      refine k_runB (pc' := 136) (loc' := [(0, .ref 40960), (1, .int x1), (2, .int x2), (3, .int x3), (4, .int x4), (5, .int x5), (6, .int s0), (7, .int v19)]) (st' := []) 1 rfl ?_
      refine k_wk [0, 1, 2, 3, 4, 5] (loc' := [(0, .ref 40960), (1, .int x1), (2, .int x2), (3, .int x3), (4, .int x4), (5, .int x5)]) rfl rfl ?_
      exact t_d_hide_136 ht hK39 hD
def d_hide_39 : Nat → (Nat → Int32) → (Nat → Nat → Int32) → (Nat → Nat → Int64) → Int32 → Int32 → Int32 → Int32 → Int32 → Option (Int32 × (Nat → Int32) × (Nat → Nat → Int32) × (Nat → Nat → Int64))
  | 0, _, _, _, _, _, _, _, _ => none
  | n + 1, F, A, J, x1, x2, x3, x4, x5 => (m_ld (A 11) 2 (F 18)).bind fun v7 =>
    (d_menNow F A J).bind fun v8 =>
    cond (g_cnd .ge x5 (v7 + v8))
    (cond (g_cnd .ne x2 0)
    (some (x3, F, A, J))
    (some (x4, F, A, J)))
    ((m_ld (A 11) 2 (F 18)).bind fun v11 =>
    cond (g_cnd .ge x5 v11)
    ((m_ld (A 11) 2 (F 18)).bind fun v13 =>
    d_hide_92 (d_hide_39 n) n F A J x1 x2 x3 x4 x5 ((100 + x5) - v13))
    (d_hide_92 (d_hide_39 n) n F A J x1 x2 x3 x4 x5 x5))
theorem t_d_hide_39 (ht : ∀ k, t.1 12 k = k_ty 12 k) {n : Nat}  {F : Nat → Int32} {A : Nat → Nat → Int32} {J : Nat → Nat → Int64} {x1 : Int32} {x2 : Int32} {x3 : Int32} {x4 : Int32} {x5 : Int32} {w : Int32 × (Nat → Int32) × (Nat → Nat → Int32) × (Nat → Nat → Int64)} : d_hide_39 n F A J x1 x2 x3 x4 x5 = some w → k_run t lg (d + 5) 225 39 [(0, .ref 40960), (1, .int x1), (2, .int x2), (3, .int x3), (4, .int x4), (5, .int x5)] [] (m_h c B F A J) (some (.int w.1), m_h c B w.2.1 w.2.2.1 w.2.2.2) := by
  induction n generalizing F A J x1 x2 x3 x4 x5 w with
  | zero => intro hD; cases hD
  | succ n ih =>
    intro hD
    have hK39 : ∀ (F : Nat → Int32) (A : Nat → Nat → Int32) (J : Nat → Nat → Int64) (x1 : Int32) (x2 : Int32) (x3 : Int32) (x4 : Int32) (x5 : Int32) (w : Int32 × (Nat → Int32) × (Nat → Nat → Int32) × (Nat → Nat → Int64)), d_hide_39 n F A J x1 x2 x3 x4 x5 = some w → k_run t lg (d + 5) 225 39 [(0, .ref 40960), (1, .int x1), (2, .int x2), (3, .int x3), (4, .int x4), (5, .int x5)] [] (m_h c B F A J) (some (.int w.1), m_h c B w.2.1 w.2.2.1 w.2.2.2) := fun _ _ _ _ _ _ _ _ _ h => ih h
    unfold d_hide_39 at hD
    refine k_runB (pc' := 49) (loc' := [(0, .ref 40960), (1, .int x1), (2, .int x2), (3, .int x3), (4, .int x4), (5, .int x5)]) (st' := [.int (F 18), .ref 40971, .int x5]) 5 rfl ?_
    obtain ⟨v7, hv7, hD⟩ := Option.bind_eq_some_iff.mp hD
    refine k_ldI rfl rfl hv7 ?_
    refine k_runB (pc' := 51) (loc' := [(0, .ref 40960), (1, .int x1), (2, .int x2), (3, .int x3), (4, .int x4), (5, .int x5)]) (st' := [.ref 40960, .int v7, .int x5]) 1 rfl ?_
    obtain ⟨v8, hv8, hD⟩ := Option.bind_eq_some_iff.mp hD
    refine k_runC rfl rfl rfl rfl (t_d_menNow (d := d + 4) hv8) ?_
    refine k_runB (pc' := 55) (loc' := [(0, .ref 40960), (1, .int x1), (2, .int x2), (3, .int x3), (4, .int x4), (5, .int x5)]) (st' := [.int (v7 + v8), .int x5]) 1 rfl ?_
    refine k_ic rfl (fun c55_8 => ?_) (fun c55_8 => ?_)
    · rw [c55_8, cond_true] at hD
      refine k_runB (pc' := 143) (loc' := [(0, .ref 40960), (1, .int x1), (2, .int x2), (3, .int x3), (4, .int x4), (5, .int x5)]) (st' := [.int x2]) 1 rfl ?_
      refine k_if rfl (fun c143_9 => ?_) (fun c143_9 => ?_)
      · rw [c143_9, cond_true] at hD
        refine k_runB (pc' := 152) (loc' := [(0, .ref 40960), (1, .int x1), (2, .int x2), (3, .int x3), (4, .int x4), (5, .int x5)]) (st' := [.int x3]) 1 rfl ?_
        cases hD
        exact k_iret rfl rfl
      · rw [c143_9, cond_false] at hD
        refine k_runB (pc' := 152) (loc' := [(0, .ref 40960), (1, .int x1), (2, .int x2), (3, .int x3), (4, .int x4), (5, .int x5)]) (st' := [.int x4]) 2 rfl ?_
        cases hD
        exact k_iret rfl rfl
    · rw [c55_8, cond_false] at hD
      refine k_runB (pc' := 68) (loc' := [(0, .ref 40960), (1, .int x1), (2, .int x2), (3, .int x3), (4, .int x4), (5, .int x5)]) (st' := [.int (F 18), .ref 40971, .int x5]) 5 rfl ?_
      obtain ⟨v11, hv11, hD⟩ := Option.bind_eq_some_iff.mp hD
      refine k_ldI rfl rfl hv11 ?_
      refine k_ic rfl (fun c69_11 => ?_) (fun c69_11 => ?_)
      · rw [c69_11, cond_true] at hD
        refine k_runB (pc' := 90) (loc' := [(0, .ref 40960), (1, .int x1), (2, .int x2), (3, .int x3), (4, .int x4), (5, .int x5)]) (st' := [.int (F 18), .ref 40971, .int (100 + x5)]) 7 rfl ?_
        obtain ⟨v13, hv13, hD⟩ := Option.bind_eq_some_iff.mp hD
        refine k_ldI rfl rfl hv13 ?_
        refine k_runB (pc' := 92) (loc' := [(0, .ref 40960), (1, .int x1), (2, .int x2), (3, .int x3), (4, .int x4), (5, .int x5)]) (st' := [.int ((100 + x5) - v13)]) 1 rfl ?_
        refine k_wk [0, 1, 2, 3, 4, 5] (loc' := [(0, .ref 40960), (1, .int x1), (2, .int x2), (3, .int x3), (4, .int x4), (5, .int x5)]) rfl rfl ?_
        exact t_d_hide_92 ht hK39 hD
      · rw [c69_11, cond_false] at hD
        refine k_runB (pc' := 92) (loc' := [(0, .ref 40960), (1, .int x1), (2, .int x2), (3, .int x3), (4, .int x4), (5, .int x5)]) (st' := [.int x5]) 2 rfl ?_
        refine k_wk [0, 1, 2, 3, 4, 5] (loc' := [(0, .ref 40960), (1, .int x1), (2, .int x2), (3, .int x3), (4, .int x4), (5, .int x5)]) rfl rfl ?_
        exact t_d_hide_92 ht hK39 hD
/-- SleepWorkModel.hide(II)I -/
def d_hide (n : Nat) (F : Nat → Int32) (A : Nat → Nat → Int32) (J : Nat → Nat → Int64) (x1 : Int32) (x2 : Int32) : Option (Int32 × (Nat → Int32) × (Nat → Nat → Int32) × (Nat → Nat → Int64)) :=
  (d_isTool F A J x1).bind fun v1 =>
  cond (g_cnd .eq v1 0)
  (some ((-1), F, A, J))
  ((d_in x2 0 1).bind fun v3 =>
  cond (g_cnd .eq v3 0)
  (some ((-1), F, A, J))
  ((m_ld (A 11) 2 (F 18)).bind fun v5 =>
  cond (g_cnd .ne v5 0)
  (d_hide_39 n F A J x1 x2 ((-1)) 0 0)
  (some ((-1), F, A, J))))
theorem t_d_hide (ht : ∀ k, t.1 12 k = k_ty 12 k) {n : Nat} {x1 : Int32} {x2 : Int32} {r : Int32} {F' : Nat → Int32} {A' : Nat → Nat → Int32} {J' : Nat → Nat → Int64} : d_hide n F A J x1 x2 = some (r, F', A', J') → k_run t lg (d + 5) 225 0 [(0, .ref 40960), (1, .int x1), (2, .int x2)] [] (m_h c B F A J) (some (.int r), m_h c B F' A' J') := by
  intro hD
  unfold d_hide at hD
  refine k_runB (pc' := 2) (loc' := [(0, .ref 40960), (1, .int x1), (2, .int x2)]) (st' := [.int x1, .ref 40960]) 2 rfl ?_
  obtain ⟨v1, hv1, hD⟩ := Option.bind_eq_some_iff.mp hD
  refine k_runC rfl rfl rfl rfl (t_d_isTool (d := d + 3) hv1) ?_
  refine k_if rfl (fun c5_1 => ?_) (fun c5_1 => ?_)
  · rw [c5_1, cond_true] at hD
    refine k_runB (pc' := 30) (loc' := [(0, .ref 40960), (1, .int x1), (2, .int x2)]) (st' := [.int ((-1))]) 1 rfl ?_
    cases hD
    exact k_iret rfl rfl
  · rw [c5_1, cond_false] at hD
    refine k_runB (pc' := 11) (loc' := [(0, .ref 40960), (1, .int x1), (2, .int x2)]) (st' := [.int 1, .int 0, .int x2]) 3 rfl ?_
    obtain ⟨v3, hv3, hD⟩ := Option.bind_eq_some_iff.mp hD
    refine k_runC rfl rfl rfl rfl (t_d_in (d := d + 4) hv3) ?_
    refine k_if rfl (fun c14_3 => ?_) (fun c14_3 => ?_)
    · rw [c14_3, cond_true] at hD
      refine k_runB (pc' := 30) (loc' := [(0, .ref 40960), (1, .int x1), (2, .int x2)]) (st' := [.int ((-1))]) 1 rfl ?_
      cases hD
      exact k_iret rfl rfl
    · rw [c14_3, cond_false] at hD
      refine k_runB (pc' := 25) (loc' := [(0, .ref 40960), (1, .int x1), (2, .int x2)]) (st' := [.int (F 18), .ref 40971]) 4 rfl ?_
      obtain ⟨v5, hv5, hD⟩ := Option.bind_eq_some_iff.mp hD
      refine k_ldI rfl rfl hv5 ?_
      refine k_if rfl (fun c26_5 => ?_) (fun c26_5 => ?_)
      · rw [c26_5, cond_true] at hD
        refine k_runB (pc' := 39) (loc' := [(0, .ref 40960), (1, .int x1), (2, .int x2), (3, .int ((-1))), (4, .int 0), (5, .int 0)]) (st' := []) 6 rfl ?_
        refine k_wk [0, 1, 2, 3, 4, 5] (loc' := [(0, .ref 40960), (1, .int x1), (2, .int x2), (3, .int ((-1))), (4, .int 0), (5, .int 0)]) rfl rfl ?_
        exact t_d_hide_39 ht  hD
      · rw [c26_5, cond_false] at hD
        refine k_runB (pc' := 30) (loc' := [(0, .ref 40960), (1, .int x1), (2, .int x2)]) (st' := [.int ((-1))]) 1 rfl ?_
        cases hD
        exact k_iret rfl rfl
def d_bits_4 : Nat → (Nat → Int32) → (Nat → Nat → Int32) → (Nat → Nat → Int64) → Int32 → Int32 → Int32 → Option Int32
  | 0, _, _, _, _, _, _ => none
  | n + 1, F, A, J, x0, x1, x2 => cond (g_cnd .ge x2 12)
    (some (x1))
    ((d_bits_4 n) F A J x0 (x1 + ((x0 >>> (x2 &&& 31)) &&& 1)) (x2 + 1))
theorem t_d_bits_4 {n : Nat}  {F : Nat → Int32} {A : Nat → Nat → Int32} {J : Nat → Nat → Int64} {x0 : Int32} {x1 : Int32} {x2 : Int32} {w : Int32} : d_bits_4 n F A J x0 x1 x2 = some w → k_run t lg (d) 226 4 [(0, .int x0), (1, .int x1), (2, .int x2)] [] (m_h c B F A J) (some (.int w), m_h c B F A J) := by
  induction n generalizing F A J x0 x1 x2 w with
  | zero => intro hD; cases hD
  | succ n ih =>
    intro hD
    have hK4 : ∀ (F : Nat → Int32) (A : Nat → Nat → Int32) (J : Nat → Nat → Int64) (x0 : Int32) (x1 : Int32) (x2 : Int32) (w : Int32), d_bits_4 n F A J x0 x1 x2 = some w → k_run t lg (d) 226 4 [(0, .int x0), (1, .int x1), (2, .int x2)] [] (m_h c B F A J) (some (.int w), m_h c B F A J) := fun _ _ _ _ _ _ _ h => ih h
    unfold d_bits_4 at hD
    refine k_runB (pc' := 7) (loc' := [(0, .int x0), (1, .int x1), (2, .int x2)]) (st' := [.int 12, .int x2]) 2 rfl ?_
    refine k_ic rfl (fun c7_0 => ?_) (fun c7_0 => ?_)
    · rw [c7_0, cond_true] at hD
      refine k_runB (pc' := 25) (loc' := [(0, .int x0), (1, .int x1), (2, .int x2)]) (st' := [.int x1]) 1 rfl ?_
      cases hD
      exact k_iret rfl rfl
    · rw [c7_0, cond_false] at hD
      refine k_runB (pc' := 4) (loc' := [(0, .int x0), (1, .int (x1 + ((x0 >>> (x2 &&& 31)) &&& 1))), (2, .int (x2 + 1))]) (st' := []) 10 rfl ?_
      refine k_wk [0, 1, 2] (loc' := [(0, .int x0), (1, .int (x1 + ((x0 >>> (x2 &&& 31)) &&& 1))), (2, .int (x2 + 1))]) rfl rfl ?_
      exact hK4 _ _ _ _ _ _ _ hD
/-- SleepWorkModel.bits(I)I -/
def d_bits (n : Nat) (F : Nat → Int32) (A : Nat → Nat → Int32) (J : Nat → Nat → Int64) (x0 : Int32) : Option Int32 :=
  d_bits_4 n F A J x0 0 0
theorem t_d_bits {n : Nat} {x0 : Int32} {r : Int32} : d_bits n F A J x0 = some r → k_run t lg (d) 226 0 [(0, .int x0)] [] (m_h c B F A J) (some (.int r), m_h c B F A J) := by
  intro hD
  unfold d_bits at hD
  refine k_runB (pc' := 4) (loc' := [(0, .int x0), (1, .int 0), (2, .int 0)]) (st' := []) 4 rfl ?_
  refine k_wk [0, 1, 2] (loc' := [(0, .int x0), (1, .int 0), (2, .int 0)]) rfl rfl ?_
  exact t_d_bits_4  hD
def d_bars_90 (K18 : (Nat → Int32) → (Nat → Nat → Int32) → (Nat → Nat → Int64) → Int32 → Int32 → Int32 → Int32 → Option (Int32 × (Nat → Int32) × (Nat → Nat → Int32) × (Nat → Nat → Int64))) (n : Nat) (F : Nat → Int32) (A : Nat → Nat → Int32) (J : Nat → Nat → Int64) (x1 : Int32) (x2 : Int32) (x3 : Int32) (x4 : Int32) : Option (Int32 × (Nat → Int32) × (Nat → Nat → Int32) × (Nat → Nat → Int64)) :=
    K18 F A J x1 x2 x3 (x4 + 1)
theorem t_d_bars_90 (ht : ∀ k, t.1 12 k = k_ty 12 k) {n : Nat} {K18 : (Nat → Int32) → (Nat → Nat → Int32) → (Nat → Nat → Int64) → Int32 → Int32 → Int32 → Int32 → Option (Int32 × (Nat → Int32) × (Nat → Nat → Int32) × (Nat → Nat → Int64))} (hK18 : ∀ (F : Nat → Int32) (A : Nat → Nat → Int32) (J : Nat → Nat → Int64) (x1 : Int32) (x2 : Int32) (x3 : Int32) (x4 : Int32) (w : Int32 × (Nat → Int32) × (Nat → Nat → Int32) × (Nat → Nat → Int64)), K18 F A J x1 x2 x3 x4 = some w → k_run t lg (d + 5) 227 18 [(0, .ref 40960), (1, .int x1), (2, .int x2), (3, .int x3), (4, .int x4)] [] (m_h c B F A J) (some (.int w.1), m_h c B w.2.1 w.2.2.1 w.2.2.2)) {F : Nat → Int32} {A : Nat → Nat → Int32} {J : Nat → Nat → Int64} {x1 : Int32} {x2 : Int32} {x3 : Int32} {x4 : Int32} {w : Int32 × (Nat → Int32) × (Nat → Nat → Int32) × (Nat → Nat → Int64)} : d_bars_90 K18 n F A J x1 x2 x3 x4 = some w → k_run t lg (d + 5) 227 90 [(0, .ref 40960), (1, .int x1), (2, .int x2), (3, .int x3), (4, .int x4)] [] (m_h c B F A J) (some (.int w.1), m_h c B w.2.1 w.2.2.1 w.2.2.2) := by
  intro hD
  unfold d_bars_90 at hD
  refine k_runB (pc' := 18) (loc' := [(0, .ref 40960), (1, .int x1), (2, .int x2), (3, .int x3), (4, .int (x4 + 1))]) (st' := []) 2 rfl ?_
  refine k_wk [0, 1, 2, 3, 4] (loc' := [(0, .ref 40960), (1, .int x1), (2, .int x2), (3, .int x3), (4, .int (x4 + 1))]) rfl rfl ?_
  exact hK18 _ _ _ _ _ _ _ _ hD
def d_bars_84 (K18 : (Nat → Int32) → (Nat → Nat → Int32) → (Nat → Nat → Int64) → Int32 → Int32 → Int32 → Int32 → Option (Int32 × (Nat → Int32) × (Nat → Nat → Int32) × (Nat → Nat → Int64))) (n : Nat) (F : Nat → Int32) (A : Nat → Nat → Int32) (J : Nat → Nat → Int64) (x1 : Int32) (x4 : Int32) (x5 : Int32) : Option (Int32 × (Nat → Int32) × (Nat → Nat → Int32) × (Nat → Nat → Int64)) :=
    d_bars_90 K18 n F A J x1 x4 x5 x4
theorem t_d_bars_84 (ht : ∀ k, t.1 12 k = k_ty 12 k) {n : Nat} {K18 : (Nat → Int32) → (Nat → Nat → Int32) → (Nat → Nat → Int64) → Int32 → Int32 → Int32 → Int32 → Option (Int32 × (Nat → Int32) × (Nat → Nat → Int32) × (Nat → Nat → Int64))} (hK18 : ∀ (F : Nat → Int32) (A : Nat → Nat → Int32) (J : Nat → Nat → Int64) (x1 : Int32) (x2 : Int32) (x3 : Int32) (x4 : Int32) (w : Int32 × (Nat → Int32) × (Nat → Nat → Int32) × (Nat → Nat → Int64)), K18 F A J x1 x2 x3 x4 = some w → k_run t lg (d + 5) 227 18 [(0, .ref 40960), (1, .int x1), (2, .int x2), (3, .int x3), (4, .int x4)] [] (m_h c B F A J) (some (.int w.1), m_h c B w.2.1 w.2.2.1 w.2.2.2)) {F : Nat → Int32} {A : Nat → Nat → Int32} {J : Nat → Nat → Int64} {x1 : Int32} {x4 : Int32} {x5 : Int32} {w : Int32 × (Nat → Int32) × (Nat → Nat → Int32) × (Nat → Nat → Int64)} : d_bars_84 K18 n F A J x1 x4 x5 = some w → k_run t lg (d + 5) 227 84 [(0, .ref 40960), (1, .int x1), (4, .int x4), (5, .int x5)] [] (m_h c B F A J) (some (.int w.1), m_h c B w.2.1 w.2.2.1 w.2.2.2) := by
  intro hD
  unfold d_bars_84 at hD
  refine k_runB (pc' := 90) (loc' := [(0, .ref 40960), (1, .int x1), (2, .int x4), (3, .int x5), (4, .int x4), (5, .int x5)]) (st' := []) 4 rfl ?_
  refine k_wk [0, 1, 2, 3, 4] (loc' := [(0, .ref 40960), (1, .int x1), (2, .int x4), (3, .int x5), (4, .int x4)]) rfl rfl ?_
  exact t_d_bars_90 ht hK18 hD
def d_bars_18 : Nat → (Nat → Int32) → (Nat → Nat → Int32) → (Nat → Nat → Int64) → Int32 → Int32 → Int32 → Int32 → Option (Int32 × (Nat → Int32) × (Nat → Nat → Int32) × (Nat → Nat → Int64))
  | 0, _, _, _, _, _, _, _ => none
  | n + 1, F, A, J, x1, x2, x3, x4 => (m_ld (A 12) 2 (F 18)).bind fun v3 =>
    cond (g_cnd .ge x4 (1 <<< (v3 &&& 31)))
    (cond (g_cnd .ne x1 0)
    (some (x2, F, A, J))
    (some (x3, F, A, J)))
    ((d_takes n F A J).bind fun (_, F7, A8, J9) =>
    (m_st A8 48 100 78 x4).bind fun A10 =>
    (d_wholeNight n F7 A10 J9).bind fun (v11, F12, A13, J14) =>
    cond (g_cnd .lt x2 0)
    (d_bars_84 (d_bars_18 n) n F12 A13 J14 x1 x4 v11)
    (cond (g_cnd .lt v11 x3)
    (d_bars_90 (d_bars_18 n) n F12 A13 J14 x1 x2 x3 x4)
    (cond (g_cnd .ne v11 x3)
    (d_bars_84 (d_bars_18 n) n F12 A13 J14 x1 x4 v11)
    ((d_bits n F12 A13 J14 x4).bind fun v18 =>
    (d_bits n F12 A13 J14 x2).bind fun v19 =>
    cond (g_cnd .lt v18 v19)
    (d_bars_84 (d_bars_18 n) n F12 A13 J14 x1 x4 v11)
    (d_bars_90 (d_bars_18 n) n F12 A13 J14 x1 x2 x3 x4)))))
theorem t_d_bars_18 (ht : ∀ k, t.1 12 k = k_ty 12 k) {n : Nat}  {F : Nat → Int32} {A : Nat → Nat → Int32} {J : Nat → Nat → Int64} {x1 : Int32} {x2 : Int32} {x3 : Int32} {x4 : Int32} {w : Int32 × (Nat → Int32) × (Nat → Nat → Int32) × (Nat → Nat → Int64)} : d_bars_18 n F A J x1 x2 x3 x4 = some w → k_run t lg (d + 5) 227 18 [(0, .ref 40960), (1, .int x1), (2, .int x2), (3, .int x3), (4, .int x4)] [] (m_h c B F A J) (some (.int w.1), m_h c B w.2.1 w.2.2.1 w.2.2.2) := by
  induction n generalizing F A J x1 x2 x3 x4 w with
  | zero => intro hD; cases hD
  | succ n ih =>
    intro hD
    have hK18 : ∀ (F : Nat → Int32) (A : Nat → Nat → Int32) (J : Nat → Nat → Int64) (x1 : Int32) (x2 : Int32) (x3 : Int32) (x4 : Int32) (w : Int32 × (Nat → Int32) × (Nat → Nat → Int32) × (Nat → Nat → Int64)), d_bars_18 n F A J x1 x2 x3 x4 = some w → k_run t lg (d + 5) 227 18 [(0, .ref 40960), (1, .int x1), (2, .int x2), (3, .int x3), (4, .int x4)] [] (m_h c B F A J) (some (.int w.1), m_h c B w.2.1 w.2.2.1 w.2.2.2) := fun _ _ _ _ _ _ _ _ h => ih h
    unfold d_bars_18 at hD
    refine k_runB (pc' := 29) (loc' := [(0, .ref 40960), (1, .int x1), (2, .int x2), (3, .int x3), (4, .int x4)]) (st' := [.int (F 18), .ref 40972, .int 1, .int x4]) 6 rfl ?_
    obtain ⟨v3, hv3, hD⟩ := Option.bind_eq_some_iff.mp hD
    refine k_ldI rfl rfl hv3 ?_
    refine k_runB (pc' := 31) (loc' := [(0, .ref 40960), (1, .int x1), (2, .int x2), (3, .int x3), (4, .int x4)]) (st' := [.int (1 <<< (v3 &&& 31)), .int x4]) 1 rfl ?_
    refine k_ic rfl (fun c31_3 => ?_) (fun c31_3 => ?_)
    · rw [c31_3, cond_true] at hD
      refine k_runB (pc' := 97) (loc' := [(0, .ref 40960), (1, .int x1), (2, .int x2), (3, .int x3), (4, .int x4)]) (st' := [.int x1]) 1 rfl ?_
      refine k_if rfl (fun c97_4 => ?_) (fun c97_4 => ?_)
      · rw [c97_4, cond_true] at hD
        refine k_runB (pc' := 105) (loc' := [(0, .ref 40960), (1, .int x1), (2, .int x2), (3, .int x3), (4, .int x4)]) (st' := [.int x2]) 1 rfl ?_
        cases hD
        exact k_iret rfl rfl
      · rw [c97_4, cond_false] at hD
        refine k_runB (pc' := 105) (loc' := [(0, .ref 40960), (1, .int x1), (2, .int x2), (3, .int x3), (4, .int x4)]) (st' := [.int x3]) 2 rfl ?_
        cases hD
        exact k_iret rfl rfl
    · rw [c31_3, cond_false] at hD
      refine k_runB (pc' := 35) (loc' := [(0, .ref 40960), (1, .int x1), (2, .int x2), (3, .int x3), (4, .int x4)]) (st' := [.ref 40960]) 1 rfl ?_
      obtain ⟨⟨v6, F7, A8, J9⟩, hv6, hD⟩ := Option.bind_eq_some_iff.mp hD
      dsimp only at hD
      refine k_runC rfl rfl rfl rfl (t_d_takes (d := d + 4) hv6) ?_
      refine k_runB (pc' := 46) (loc' := [(0, .ref 40960), (1, .int x1), (2, .int x2), (3, .int x3), (4, .int x4)]) (st' := [.int x4, .int 78, .ref 41008]) 4 rfl ?_
      obtain ⟨A10, hA10, hD⟩ := Option.bind_eq_some_iff.mp hD
      refine k_stI 48 rfl rfl (fun _ => rfl) hA10 ?_
      refine k_runB (pc' := 48) (loc' := [(0, .ref 40960), (1, .int x1), (2, .int x2), (3, .int x3), (4, .int x4)]) (st' := [.ref 40960]) 1 rfl ?_
      obtain ⟨⟨v11, F12, A13, J14⟩, hv11, hD⟩ := Option.bind_eq_some_iff.mp hD
      dsimp only at hD
      refine k_runC rfl rfl rfl rfl (t_d_wholeNight (d := d) ht hv11) ?_
      refine k_runB (pc' := 54) (loc' := [(0, .ref 40960), (1, .int x1), (2, .int x2), (3, .int x3), (4, .int x4), (5, .int v11)]) (st' := [.int x2]) 2 rfl ?_
      refine k_if rfl (fun c54_14 => ?_) (fun c54_14 => ?_)
      · rw [c54_14, cond_true] at hD
        refine k_wk [0, 1, 4, 5] (loc' := [(0, .ref 40960), (1, .int x1), (4, .int x4), (5, .int v11)]) rfl rfl ?_
        exact t_d_bars_84 ht hK18 hD
      · rw [c54_14, cond_false] at hD
        refine k_runB (pc' := 60) (loc' := [(0, .ref 40960), (1, .int x1), (2, .int x2), (3, .int x3), (4, .int x4), (5, .int v11)]) (st' := [.int x3, .int v11]) 2 rfl ?_
        refine k_ic rfl (fun c60_15 => ?_) (fun c60_15 => ?_)
        · rw [c60_15, cond_true] at hD
          refine k_wk [0, 1, 2, 3, 4] (loc' := [(0, .ref 40960), (1, .int x1), (2, .int x2), (3, .int x3), (4, .int x4)]) rfl rfl ?_
          exact t_d_bars_90 ht hK18 hD
        · rw [c60_15, cond_false] at hD
          refine k_runB (pc' := 66) (loc' := [(0, .ref 40960), (1, .int x1), (2, .int x2), (3, .int x3), (4, .int x4), (5, .int v11)]) (st' := [.int x3, .int v11]) 2 rfl ?_
          refine k_ic rfl (fun c66_16 => ?_) (fun c66_16 => ?_)
          · rw [c66_16, cond_true] at hD
            refine k_wk [0, 1, 4, 5] (loc' := [(0, .ref 40960), (1, .int x1), (4, .int x4), (5, .int v11)]) rfl rfl ?_
            exact t_d_bars_84 ht hK18 hD
          · rw [c66_16, cond_false] at hD
            refine k_runB (pc' := 71) (loc' := [(0, .ref 40960), (1, .int x1), (2, .int x2), (3, .int x3), (4, .int x4), (5, .int v11)]) (st' := [.int x4]) 1 rfl ?_
            obtain ⟨v18, hv18, hD⟩ := Option.bind_eq_some_iff.mp hD
            refine k_runC rfl rfl rfl rfl (t_d_bits (d := d + 4) hv18) ?_
            refine k_runB (pc' := 75) (loc' := [(0, .ref 40960), (1, .int x1), (2, .int x2), (3, .int x3), (4, .int x4), (5, .int v11)]) (st' := [.int x2, .int v18]) 1 rfl ?_
            obtain ⟨v19, hv19, hD⟩ := Option.bind_eq_some_iff.mp hD
            refine k_runC rfl rfl rfl rfl (t_d_bits (d := d + 4) hv19) ?_
            refine k_ic rfl (fun c78_19 => ?_) (fun c78_19 => ?_)
            · rw [c78_19, cond_true] at hD
              refine k_wk [0, 1, 4, 5] (loc' := [(0, .ref 40960), (1, .int x1), (4, .int x4), (5, .int v11)]) rfl rfl ?_
              exact t_d_bars_84 ht hK18 hD
            · rw [c78_19, cond_false] at hD
              refine k_runB (pc' := 90) (loc' := [(0, .ref 40960), (1, .int x1), (2, .int x2), (3, .int x3), (4, .int x4), (5, .int v11)]) (st' := []) 1 rfl ?_
              refine k_wk [0, 1, 2, 3, 4] (loc' := [(0, .ref 40960), (1, .int x1), (2, .int x2), (3, .int x3), (4, .int x4)]) rfl rfl ?_
              exact t_d_bars_90 ht hK18 hD
/-- SleepWorkModel.bars(I)I -/
def d_bars (n : Nat) (F : Nat → Int32) (A : Nat → Nat → Int32) (J : Nat → Nat → Int64) (x1 : Int32) : Option (Int32 × (Nat → Int32) × (Nat → Nat → Int32) × (Nat → Nat → Int64)) :=
  (d_in x1 0 1).bind fun v1 =>
  cond (g_cnd .ne v1 0)
  (d_bars_18 n F A J x1 ((-1)) 0 0)
  (some ((-1), F, A, J))
theorem t_d_bars (ht : ∀ k, t.1 12 k = k_ty 12 k) {n : Nat} {x1 : Int32} {r : Int32} {F' : Nat → Int32} {A' : Nat → Nat → Int32} {J' : Nat → Nat → Int64} : d_bars n F A J x1 = some (r, F', A', J') → k_run t lg (d + 5) 227 0 [(0, .ref 40960), (1, .int x1)] [] (m_h c B F A J) (some (.int r), m_h c B F' A' J') := by
  intro hD
  unfold d_bars at hD
  refine k_runB (pc' := 3) (loc' := [(0, .ref 40960), (1, .int x1)]) (st' := [.int 1, .int 0, .int x1]) 3 rfl ?_
  obtain ⟨v1, hv1, hD⟩ := Option.bind_eq_some_iff.mp hD
  refine k_runC rfl rfl rfl rfl (t_d_in (d := d + 4) hv1) ?_
  refine k_if rfl (fun c6_1 => ?_) (fun c6_1 => ?_)
  · rw [c6_1, cond_true] at hD
    refine k_runB (pc' := 18) (loc' := [(0, .ref 40960), (1, .int x1), (2, .int ((-1))), (3, .int 0), (4, .int 0)]) (st' := []) 6 rfl ?_
    refine k_wk [0, 1, 2, 3, 4] (loc' := [(0, .ref 40960), (1, .int x1), (2, .int ((-1))), (3, .int 0), (4, .int 0)]) rfl rfl ?_
    exact t_d_bars_18 ht  hD
  · rw [c6_1, cond_false] at hD
    refine k_runB (pc' := 10) (loc' := [(0, .ref 40960), (1, .int x1)]) (st' := [.int ((-1))]) 1 rfl ?_
    cases hD
    exact k_iret rfl rfl
end MD
end Qz7
section Qz8
/-! the reference's methods as functions (printed by wip/dec.py) -/
section MD
variable {t : gT} {lg : Nat → Nat} {d : Nat} {c : Nat × Nat} {B : Nat → List gE} {F : Nat → Int32} {A : Nat → Nat → Int32} {J : Nat → Nat → Int64}
/-- SleepWorkModel.where(II)I -/
def d_where (n : Nat) (F : Nat → Int32) (A : Nat → Nat → Int32) (J : Nat → Nat → Int64) (x1 : Int32) (x2 : Int32) : Option (Int32 × (Nat → Int32) × (Nat → Nat → Int32) × (Nat → Nat → Int64)) :=
  (d_isMan F A J x1).bind fun v1 =>
  cond (g_cnd .eq v1 0)
  (some ((-1), F, A, J))
  ((m_ld (A 41) 2 (F 18)).bind fun v3 =>
  (d_in x2 0 v3).bind fun v4 =>
  cond (g_cnd .ne v4 0)
  ((d_takes n F A J).bind fun (_, F7, A8, J9) =>
  (d_fillsWays n F7 A8 J9).bind fun (_, F11, A12, J13) =>
  (m_ld (A12 30) 12 ((6 * (F11 18)) + x1)).bind fun v14 =>
  (m_ld (A12 48) 100 (42 + x1)).bind fun v15 =>
  cond (g_cnd .ge v15 0)
  ((m_ld (A12 48) 100 (42 + x1)).bind fun v17 =>
  (m_ld (A12 20) 12 ((6 * (F11 18)) + v17)).bind fun v18 =>
  (m_ld (A12 49) 64 ((8 * v14) + v18)).bind fun v19 =>
  cond (g_cnd .gt v19 x2)
  (some (v14, F11, A12, J13))
  (some (v18, F11, A12, J13)))
  (some (v14, F11, A12, J13)))
  (some ((-1), F, A, J)))
theorem t_d_where {n : Nat} {x1 : Int32} {x2 : Int32} {r : Int32} {F' : Nat → Int32} {A' : Nat → Nat → Int32} {J' : Nat → Nat → Int64} : d_where n F A J x1 x2 = some (r, F', A', J') → k_run t lg (d + 2) 228 0 [(0, .ref 40960), (1, .int x1), (2, .int x2)] [] (m_h c B F A J) (some (.int r), m_h c B F' A' J') := by
  intro hD
  unfold d_where at hD
  refine k_runB (pc' := 2) (loc' := [(0, .ref 40960), (1, .int x1), (2, .int x2)]) (st' := [.int x1, .ref 40960]) 2 rfl ?_
  obtain ⟨v1, hv1, hD⟩ := Option.bind_eq_some_iff.mp hD
  refine k_runC rfl rfl rfl rfl (t_d_isMan (d := d) hv1) ?_
  refine k_if rfl (fun c5_1 => ?_) (fun c5_1 => ?_)
  · rw [c5_1, cond_true] at hD
    refine k_runB (pc' := 26) (loc' := [(0, .ref 40960), (1, .int x1), (2, .int x2)]) (st' := [.int ((-1))]) 1 rfl ?_
    cases hD
    exact k_iret rfl rfl
  · rw [c5_1, cond_false] at hD
    refine k_runB (pc' := 18) (loc' := [(0, .ref 40960), (1, .int x1), (2, .int x2)]) (st' := [.int (F 18), .ref 41001, .int 0, .int x2]) 6 rfl ?_
    obtain ⟨v3, hv3, hD⟩ := Option.bind_eq_some_iff.mp hD
    refine k_ldI rfl rfl hv3 ?_
    obtain ⟨v4, hv4, hD⟩ := Option.bind_eq_some_iff.mp hD
    refine k_runC rfl rfl rfl rfl (t_d_in (d := d + 1) hv4) ?_
    refine k_if rfl (fun c22_4 => ?_) (fun c22_4 => ?_)
    · rw [c22_4, cond_true] at hD
      refine k_runB (pc' := 28) (loc' := [(0, .ref 40960), (1, .int x1), (2, .int x2)]) (st' := [.ref 40960]) 1 rfl ?_
      obtain ⟨⟨v6, F7, A8, J9⟩, hv6, hD⟩ := Option.bind_eq_some_iff.mp hD
      dsimp only at hD
      refine k_runC rfl rfl rfl rfl (t_d_takes (d := d + 1) hv6) ?_
      refine k_runB (pc' := 32) (loc' := [(0, .ref 40960), (1, .int x1), (2, .int x2)]) (st' := [.ref 40960]) 1 rfl ?_
      obtain ⟨⟨v10, F11, A12, J13⟩, hv10, hD⟩ := Option.bind_eq_some_iff.mp hD
      dsimp only at hD
      refine k_runC rfl rfl rfl rfl (t_d_fillsWays (d := d + 1) hv10) ?_
      refine k_runB (pc' := 48) (loc' := [(0, .ref 40960), (1, .int x1), (2, .int x2)]) (st' := [.int ((6 * (F11 18)) + x1), .ref 40990]) 8 rfl ?_
      obtain ⟨v14, hv14, hD⟩ := Option.bind_eq_some_iff.mp hD
      refine k_ldI rfl rfl hv14 ?_
      refine k_runB (pc' := 58) (loc' := [(0, .ref 40960), (1, .int x1), (2, .int x2), (3, .int v14)]) (st' := [.int (42 + x1), .ref 41008]) 6 rfl ?_
      obtain ⟨v15, hv15, hD⟩ := Option.bind_eq_some_iff.mp hD
      refine k_ldI rfl rfl hv15 ?_
      refine k_if rfl (fun c59_15 => ?_) (fun c59_15 => ?_)
      · rw [c59_15, cond_true] at hD
        refine k_runB (pc' := 83) (loc' := [(0, .ref 40960), (1, .int x1), (2, .int x2), (3, .int v14)]) (st' := [.int (42 + x1), .ref 41008, .int (6 * (F11 18)), .ref 40980]) 11 rfl ?_
        obtain ⟨v17, hv17, hD⟩ := Option.bind_eq_some_iff.mp hD
        refine k_ldI rfl rfl hv17 ?_
        refine k_runB (pc' := 85) (loc' := [(0, .ref 40960), (1, .int x1), (2, .int x2), (3, .int v14)]) (st' := [.int ((6 * (F11 18)) + v17), .ref 40980]) 1 rfl ?_
        obtain ⟨v18, hv18, hD⟩ := Option.bind_eq_some_iff.mp hD
        refine k_ldI rfl rfl hv18 ?_
        refine k_runB (pc' := 99) (loc' := [(0, .ref 40960), (1, .int x1), (2, .int x2), (3, .int v14), (4, .int v18)]) (st' := [.int ((8 * v14) + v18), .ref 41009]) 8 rfl ?_
        obtain ⟨v19, hv19, hD⟩ := Option.bind_eq_some_iff.mp hD
        refine k_ldI rfl rfl hv19 ?_
        refine k_runB (pc' := 101) (loc' := [(0, .ref 40960), (1, .int x1), (2, .int x2), (3, .int v14), (4, .int v18)]) (st' := [.int x2, .int v19]) 1 rfl ?_
        refine k_ic rfl (fun c101_19 => ?_) (fun c101_19 => ?_)
        · rw [c101_19, cond_true] at hD
          refine k_runB (pc' := 110) (loc' := [(0, .ref 40960), (1, .int x1), (2, .int x2), (3, .int v14), (4, .int v18)]) (st' := [.int v14]) 1 rfl ?_
          cases hD
          exact k_iret rfl rfl
        · rw [c101_19, cond_false] at hD
          refine k_runB (pc' := 110) (loc' := [(0, .ref 40960), (1, .int x1), (2, .int x2), (3, .int v14), (4, .int v18)]) (st' := [.int v18]) 2 rfl ?_
          cases hD
          exact k_iret rfl rfl
      · rw [c59_15, cond_false] at hD
        refine k_runB (pc' := 63) (loc' := [(0, .ref 40960), (1, .int x1), (2, .int x2), (3, .int v14)]) (st' := [.int v14]) 1 rfl ?_
        cases hD
        exact k_iret rfl rfl
    · rw [c22_4, cond_false] at hD
      refine k_runB (pc' := 26) (loc' := [(0, .ref 40960), (1, .int x1), (2, .int x2)]) (st' := [.int ((-1))]) 1 rfl ?_
      cases hD
      exact k_iret rfl rfl
/-- SleepWorkModel.strokes(II)I -/
def d_strokes (n : Nat) (F : Nat → Int32) (A : Nat → Nat → Int32) (J : Nat → Nat → Int64) (x1 : Int32) (x2 : Int32) : Option (Int32 × (Nat → Int32) × (Nat → Nat → Int32) × (Nat → Nat → Int64)) :=
  (d_isMan F A J x1).bind fun v1 =>
  cond (g_cnd .eq v1 0)
  (some ((-1), F, A, J))
  ((m_ld (A 41) 2 (F 18)).bind fun v3 =>
  (d_in x2 0 v3).bind fun v4 =>
  cond (g_cnd .ne v4 0)
  ((d_takes n F A J).bind fun (_, F7, A8, J9) =>
  (d_goesTill n F7 A8 J9 x2).bind fun (_, F11, A12, J13) =>
  (m_ld (A12 55) 6 x1).bind fun v14 =>
  some (v14, F11, A12, J13))
  (some ((-1), F, A, J)))
theorem t_d_strokes (ht : ∀ k, t.1 12 k = k_ty 12 k) {n : Nat} {x1 : Int32} {x2 : Int32} {r : Int32} {F' : Nat → Int32} {A' : Nat → Nat → Int32} {J' : Nat → Nat → Int64} : d_strokes n F A J x1 x2 = some (r, F', A', J') → k_run t lg (d + 4) 229 0 [(0, .ref 40960), (1, .int x1), (2, .int x2)] [] (m_h c B F A J) (some (.int r), m_h c B F' A' J') := by
  intro hD
  unfold d_strokes at hD
  refine k_runB (pc' := 2) (loc' := [(0, .ref 40960), (1, .int x1), (2, .int x2)]) (st' := [.int x1, .ref 40960]) 2 rfl ?_
  obtain ⟨v1, hv1, hD⟩ := Option.bind_eq_some_iff.mp hD
  refine k_runC rfl rfl rfl rfl (t_d_isMan (d := d + 2) hv1) ?_
  refine k_if rfl (fun c5_1 => ?_) (fun c5_1 => ?_)
  · rw [c5_1, cond_true] at hD
    refine k_runB (pc' := 26) (loc' := [(0, .ref 40960), (1, .int x1), (2, .int x2)]) (st' := [.int ((-1))]) 1 rfl ?_
    cases hD
    exact k_iret rfl rfl
  · rw [c5_1, cond_false] at hD
    refine k_runB (pc' := 18) (loc' := [(0, .ref 40960), (1, .int x1), (2, .int x2)]) (st' := [.int (F 18), .ref 41001, .int 0, .int x2]) 6 rfl ?_
    obtain ⟨v3, hv3, hD⟩ := Option.bind_eq_some_iff.mp hD
    refine k_ldI rfl rfl hv3 ?_
    obtain ⟨v4, hv4, hD⟩ := Option.bind_eq_some_iff.mp hD
    refine k_runC rfl rfl rfl rfl (t_d_in (d := d + 3) hv4) ?_
    refine k_if rfl (fun c22_4 => ?_) (fun c22_4 => ?_)
    · rw [c22_4, cond_true] at hD
      refine k_runB (pc' := 28) (loc' := [(0, .ref 40960), (1, .int x1), (2, .int x2)]) (st' := [.ref 40960]) 1 rfl ?_
      obtain ⟨⟨v6, F7, A8, J9⟩, hv6, hD⟩ := Option.bind_eq_some_iff.mp hD
      dsimp only at hD
      refine k_runC rfl rfl rfl rfl (t_d_takes (d := d + 3) hv6) ?_
      refine k_runB (pc' := 33) (loc' := [(0, .ref 40960), (1, .int x1), (2, .int x2)]) (st' := [.int x2, .ref 40960]) 2 rfl ?_
      obtain ⟨⟨v10, F11, A12, J13⟩, hv10, hD⟩ := Option.bind_eq_some_iff.mp hD
      dsimp only at hD
      refine k_runC rfl rfl rfl rfl (t_d_goesTill (d := d) ht hv10) ?_
      refine k_runB (pc' := 41) (loc' := [(0, .ref 40960), (1, .int x1), (2, .int x2)]) (st' := [.int x1, .ref 41015]) 3 rfl ?_
      obtain ⟨v14, hv14, hD⟩ := Option.bind_eq_some_iff.mp hD
      refine k_ldI rfl rfl hv14 ?_
      cases hD
      exact k_iret rfl rfl
    · rw [c22_4, cond_false] at hD
      refine k_runB (pc' := 26) (loc' := [(0, .ref 40960), (1, .int x1), (2, .int x2)]) (st' := [.int ((-1))]) 1 rfl ?_
      cases hD
      exact k_iret rfl rfl
/-- SleepWorkModel.forget()I -/
def d_forget (F : Nat → Int32) (A : Nat → Nat → Int32) (J : Nat → Nat → Int64) : Option (Int32 × (Nat → Int32) × (Nat → Nat → Int32) × (Nat → Nat → Int64)) :=
  (m_pf F 77 0).bind fun F1 =>
  some (F 77, F1, A, J)
theorem t_d_forget (ht : ∀ k, t.1 12 k = k_ty 12 k) {r : Int32} {F' : Nat → Int32} {A' : Nat → Nat → Int32} {J' : Nat → Nat → Int64} : d_forget F A J = some (r, F', A', J') → k_run t lg (d) 231 0 [(0, .ref 40960)] [] (m_h c B F A J) (some (.int r), m_h c B F' A' J') := by
  intro hD
  unfold d_forget at hD
  refine k_runB (pc' := 7) (loc' := [(0, .ref 40960), (1, .int (F 77))]) (st' := [.int 0, .ref 40960]) 5 rfl ?_
  obtain ⟨F1, hF1, hD⟩ := Option.bind_eq_some_iff.mp hD
  refine k_ptI rfl (ht 77) rfl rfl hF1 ?_
  refine k_runB (pc' := 11) (loc' := [(0, .ref 40960), (1, .int (F 77))]) (st' := [.int (F 77)]) 1 rfl ?_
  cases hD
  exact k_iret rfl rfl
def d_isSo_7 : Nat → (Nat → Int32) → (Nat → Nat → Int32) → (Nat → Nat → Int64) → Int32 → Int32 → Option (Int32 × (Nat → Int32) × (Nat → Nat → Int32) × (Nat → Nat → Int64))
  | 0, _, _, _, _, _ => none
  | n + 1, F, A, J, x1, x2 => cond (g_cnd .ge x2 x1)
    (some (1, F, A, J))
    ((m_ld (A 58) 30 x2).bind fun v6 =>
    (m_ld (A 59) 30 x2).bind fun v7 =>
    (m_ld (A 48) 100 ((6 + (6 * v6)) + v7)).bind fun v8 =>
    (m_ld (A 60) 30 x2).bind fun v9 =>
    cond (g_cnd .eq v8 v9)
    ((d_isSo_7 n) F A J x1 (x2 + 1))
    (some (0, F, A, J)))
theorem t_d_isSo_7 (ht : ∀ k, t.1 12 k = k_ty 12 k) {n : Nat}  {F : Nat → Int32} {A : Nat → Nat → Int32} {J : Nat → Nat → Int64} {x1 : Int32} {x2 : Int32} {w : Int32 × (Nat → Int32) × (Nat → Nat → Int32) × (Nat → Nat → Int64)} : d_isSo_7 n F A J x1 x2 = some w → k_run t lg (d + 5) 232 7 [(0, .ref 40960), (1, .int x1), (2, .int x2)] [] (m_h c B F A J) (some (.int w.1), m_h c B w.2.1 w.2.2.1 w.2.2.2) := by
  induction n generalizing F A J x1 x2 w with
  | zero => intro hD; cases hD
  | succ n ih =>
    intro hD
    have hK7 : ∀ (F : Nat → Int32) (A : Nat → Nat → Int32) (J : Nat → Nat → Int64) (x1 : Int32) (x2 : Int32) (w : Int32 × (Nat → Int32) × (Nat → Nat → Int32) × (Nat → Nat → Int64)), d_isSo_7 n F A J x1 x2 = some w → k_run t lg (d + 5) 232 7 [(0, .ref 40960), (1, .int x1), (2, .int x2)] [] (m_h c B F A J) (some (.int w.1), m_h c B w.2.1 w.2.2.1 w.2.2.2) := fun _ _ _ _ _ _ h => ih h
    unfold d_isSo_7 at hD
    refine k_runB (pc' := 9) (loc' := [(0, .ref 40960), (1, .int x1), (2, .int x2)]) (st' := [.int x1, .int x2]) 2 rfl ?_
    refine k_ic rfl (fun c9_4 => ?_) (fun c9_4 => ?_)
    · rw [c9_4, cond_true] at hD
      refine k_runB (pc' := 54) (loc' := [(0, .ref 40960), (1, .int x1), (2, .int x2)]) (st' := [.int 1]) 1 rfl ?_
      cases hD
      exact k_zret rfl rfl (Or.inr rfl)
    · rw [c9_4, cond_false] at hD
      refine k_runB (pc' := 25) (loc' := [(0, .ref 40960), (1, .int x1), (2, .int x2)]) (st' := [.int x2, .ref 41018, .int 6, .int 6, .ref 41008]) 7 rfl ?_
      obtain ⟨v6, hv6, hD⟩ := Option.bind_eq_some_iff.mp hD
      refine k_ldI rfl rfl hv6 ?_
      refine k_runB (pc' := 33) (loc' := [(0, .ref 40960), (1, .int x1), (2, .int x2)]) (st' := [.int x2, .ref 41019, .int (6 + (6 * v6)), .ref 41008]) 5 rfl ?_
      obtain ⟨v7, hv7, hD⟩ := Option.bind_eq_some_iff.mp hD
      refine k_ldI rfl rfl hv7 ?_
      refine k_runB (pc' := 35) (loc' := [(0, .ref 40960), (1, .int x1), (2, .int x2)]) (st' := [.int ((6 + (6 * v6)) + v7), .ref 41008]) 1 rfl ?_
      obtain ⟨v8, hv8, hD⟩ := Option.bind_eq_some_iff.mp hD
      refine k_ldI rfl rfl hv8 ?_
      refine k_runB (pc' := 41) (loc' := [(0, .ref 40960), (1, .int x1), (2, .int x2)]) (st' := [.int x2, .ref 41020, .int v8]) 3 rfl ?_
      obtain ⟨v9, hv9, hD⟩ := Option.bind_eq_some_iff.mp hD
      refine k_ldI rfl rfl hv9 ?_
      refine k_ic rfl (fun c42_9 => ?_) (fun c42_9 => ?_)
      · rw [c42_9, cond_true] at hD
        refine k_runB (pc' := 7) (loc' := [(0, .ref 40960), (1, .int x1), (2, .int (x2 + 1))]) (st' := []) 2 rfl ?_
        refine k_wk [0, 1, 2] (loc' := [(0, .ref 40960), (1, .int x1), (2, .int (x2 + 1))]) rfl rfl ?_
        exact hK7 _ _ _ _ _ _ hD
      · rw [c42_9, cond_false] at hD
        refine k_runB (pc' := 46) (loc' := [(0, .ref 40960), (1, .int x1), (2, .int x2)]) (st' := [.int 0]) 1 rfl ?_
        cases hD
        exact k_zret rfl rfl (Or.inl rfl)
/-- SleepWorkModel.isSo(I)Z -/
def d_isSo (n : Nat) (F : Nat → Int32) (A : Nat → Nat → Int32) (J : Nat → Nat → Int64) (x1 : Int32) : Option (Int32 × (Nat → Int32) × (Nat → Nat → Int32) × (Nat → Nat → Int64)) :=
  (d_wholeNight n F A J).bind fun (v1, F2, A3, J4) =>
  d_isSo_7 n F2 A3 J4 x1 0
theorem t_d_isSo (ht : ∀ k, t.1 12 k = k_ty 12 k) {n : Nat} {x1 : Int32} {r : Int32} {F' : Nat → Int32} {A' : Nat → Nat → Int32} {J' : Nat → Nat → Int64} : d_isSo n F A J x1 = some (r, F', A', J') → k_run t lg (d + 5) 232 0 [(0, .ref 40960), (1, .int x1)] [] (m_h c B F A J) (some (.int r), m_h c B F' A' J') := by
  intro hD
  unfold d_isSo at hD
  refine k_runB (pc' := 1) (loc' := [(0, .ref 40960), (1, .int x1)]) (st' := [.ref 40960]) 1 rfl ?_
  obtain ⟨⟨v1, F2, A3, J4⟩, hv1, hD⟩ := Option.bind_eq_some_iff.mp hD
  dsimp only at hD
  refine k_runC rfl rfl rfl rfl (t_d_wholeNight (d := d) ht hv1) ?_
  refine k_runB (pc' := 7) (loc' := [(0, .ref 40960), (1, .int x1), (2, .int 0)]) (st' := []) 3 rfl ?_
  refine k_wk [0, 1, 2] (loc' := [(0, .ref 40960), (1, .int x1), (2, .int 0)]) rfl rfl ?_
  exact t_d_isSo_7 ht  hD
def d_fits_82 (K33 : (Nat → Int32) → (Nat → Nat → Int32) → (Nat → Nat → Int64) → Int32 → Int32 → Int32 → Int32 → Int32 → Option (Int32 × (Nat → Int32) × (Nat → Nat → Int32) × (Nat → Nat → Int64))) (n : Nat) (F : Nat → Int32) (A : Nat → Nat → Int32) (J : Nat → Nat → Int64) (x1 : Int32) (x2 : Int32) (x3 : Int32) (x4 : Int32) (x5 : Int32) : Option (Int32 × (Nat → Int32) × (Nat → Nat → Int32) × (Nat → Nat → Int64)) :=
    K33 F A J x1 x2 x3 x4 (x5 + 1)
theorem t_d_fits_82 (ht : ∀ k, t.1 12 k = k_ty 12 k) {n : Nat} {K33 : (Nat → Int32) → (Nat → Nat → Int32) → (Nat → Nat → Int64) → Int32 → Int32 → Int32 → Int32 → Int32 → Option (Int32 × (Nat → Int32) × (Nat → Nat → Int32) × (Nat → Nat → Int64))} (hK33 : ∀ (F : Nat → Int32) (A : Nat → Nat → Int32) (J : Nat → Nat → Int64) (x1 : Int32) (x2 : Int32) (x3 : Int32) (x4 : Int32) (x5 : Int32) (w : Int32 × (Nat → Int32) × (Nat → Nat → Int32) × (Nat → Nat → Int64)), K33 F A J x1 x2 x3 x4 x5 = some w → k_run t lg (d + 6) 233 33 [(0, .ref 40960), (1, .int x1), (2, .int x2), (3, .int x3), (4, .int x4), (5, .int x5)] [] (m_h c B F A J) (some (.int w.1), m_h c B w.2.1 w.2.2.1 w.2.2.2)) {F : Nat → Int32} {A : Nat → Nat → Int32} {J : Nat → Nat → Int64} {x1 : Int32} {x2 : Int32} {x3 : Int32} {x4 : Int32} {x5 : Int32} {w : Int32 × (Nat → Int32) × (Nat → Nat → Int32) × (Nat → Nat → Int64)} : d_fits_82 K33 n F A J x1 x2 x3 x4 x5 = some w → k_run t lg (d + 6) 233 82 [(0, .ref 40960), (1, .int x1), (2, .int x2), (3, .int x3), (4, .int x4), (5, .int x5)] [] (m_h c B F A J) (some (.int w.1), m_h c B w.2.1 w.2.2.1 w.2.2.2) := by
  intro hD
  unfold d_fits_82 at hD
  refine k_runB (pc' := 33) (loc' := [(0, .ref 40960), (1, .int x1), (2, .int x2), (3, .int x3), (4, .int x4), (5, .int (x5 + 1))]) (st' := []) 2 rfl ?_
  refine k_wk [0, 1, 2, 3, 4, 5] (loc' := [(0, .ref 40960), (1, .int x1), (2, .int x2), (3, .int x3), (4, .int x4), (5, .int (x5 + 1))]) rfl rfl ?_
  exact hK33 _ _ _ _ _ _ _ _ _ hD
def d_fits_33 : Nat → (Nat → Int32) → (Nat → Nat → Int32) → (Nat → Nat → Int64) → Int32 → Int32 → Int32 → Int32 → Int32 → Option (Int32 × (Nat → Int32) × (Nat → Nat → Int32) × (Nat → Nat → Int64))
  | 0, _, _, _, _, _, _, _, _ => none
  | n + 1, F, A, J, x1, x2, x3, x4, x5 => (d_options n F A J).bind fun v6 =>
    cond (g_cnd .ge x5 v6)
    (cond (g_cnd .ne x3 ((-1)))
    (some ((-1), F, A, J))
    (some (x4, F, A, J)))
    ((d_takes n F A J).bind fun (_, F10, A11, J12) =>
    (d_leaves n F10 A11 J12 x1 x5).bind fun (v13, F14, A15, J16) =>
    (d_isSo n F14 A15 J16 x2).bind fun (v17, F18, A19, J20) =>
    cond (g_cnd .ne v17 0)
    (cond (g_cnd .ne x4 x3)
    (d_fits_82 (d_fits_33 n) n F18 A19 J20 x1 x2 x3 (x4 + 1) x5)
    ((d_codeOf n F18 A19 J20 x1 x5).bind fun (v23, F24, A25, J26) =>
    some (v23, F24, A25, J26)))
    (d_fits_82 (d_fits_33 n) n F18 A19 J20 x1 x2 x3 x4 x5))
theorem t_d_fits_33 (ht : ∀ k, t.1 12 k = k_ty 12 k) {n : Nat}  {F : Nat → Int32} {A : Nat → Nat → Int32} {J : Nat → Nat → Int64} {x1 : Int32} {x2 : Int32} {x3 : Int32} {x4 : Int32} {x5 : Int32} {w : Int32 × (Nat → Int32) × (Nat → Nat → Int32) × (Nat → Nat → Int64)} : d_fits_33 n F A J x1 x2 x3 x4 x5 = some w → k_run t lg (d + 6) 233 33 [(0, .ref 40960), (1, .int x1), (2, .int x2), (3, .int x3), (4, .int x4), (5, .int x5)] [] (m_h c B F A J) (some (.int w.1), m_h c B w.2.1 w.2.2.1 w.2.2.2) := by
  induction n generalizing F A J x1 x2 x3 x4 x5 w with
  | zero => intro hD; cases hD
  | succ n ih =>
    intro hD
    have hK33 : ∀ (F : Nat → Int32) (A : Nat → Nat → Int32) (J : Nat → Nat → Int64) (x1 : Int32) (x2 : Int32) (x3 : Int32) (x4 : Int32) (x5 : Int32) (w : Int32 × (Nat → Int32) × (Nat → Nat → Int32) × (Nat → Nat → Int64)), d_fits_33 n F A J x1 x2 x3 x4 x5 = some w → k_run t lg (d + 6) 233 33 [(0, .ref 40960), (1, .int x1), (2, .int x2), (3, .int x3), (4, .int x4), (5, .int x5)] [] (m_h c B F A J) (some (.int w.1), m_h c B w.2.1 w.2.2.1 w.2.2.2) := fun _ _ _ _ _ _ _ _ _ h => ih h
    unfold d_fits_33 at hD
    refine k_runB (pc' := 36) (loc' := [(0, .ref 40960), (1, .int x1), (2, .int x2), (3, .int x3), (4, .int x4), (5, .int x5)]) (st' := [.ref 40960, .int x5]) 2 rfl ?_
    obtain ⟨v6, hv6, hD⟩ := Option.bind_eq_some_iff.mp hD
    refine k_runC rfl rfl rfl rfl (t_d_options (d := d + 4) hv6) ?_
    refine k_ic rfl (fun c39_6 => ?_) (fun c39_6 => ?_)
    · rw [c39_6, cond_true] at hD
      refine k_runB (pc' := 90) (loc' := [(0, .ref 40960), (1, .int x1), (2, .int x2), (3, .int x3), (4, .int x4), (5, .int x5)]) (st' := [.int ((-1)), .int x3]) 2 rfl ?_
      refine k_ic rfl (fun c90_7 => ?_) (fun c90_7 => ?_)
      · rw [c90_7, cond_true] at hD
        refine k_runB (pc' := 99) (loc' := [(0, .ref 40960), (1, .int x1), (2, .int x2), (3, .int x3), (4, .int x4), (5, .int x5)]) (st' := [.int ((-1))]) 1 rfl ?_
        cases hD
        exact k_iret rfl rfl
      · rw [c90_7, cond_false] at hD
        refine k_runB (pc' := 99) (loc' := [(0, .ref 40960), (1, .int x1), (2, .int x2), (3, .int x3), (4, .int x4), (5, .int x5)]) (st' := [.int x4]) 2 rfl ?_
        cases hD
        exact k_iret rfl rfl
    · rw [c39_6, cond_false] at hD
      refine k_runB (pc' := 43) (loc' := [(0, .ref 40960), (1, .int x1), (2, .int x2), (3, .int x3), (4, .int x4), (5, .int x5)]) (st' := [.ref 40960]) 1 rfl ?_
      obtain ⟨⟨v9, F10, A11, J12⟩, hv9, hD⟩ := Option.bind_eq_some_iff.mp hD
      dsimp only at hD
      refine k_runC rfl rfl rfl rfl (t_d_takes (d := d + 5) hv9) ?_
      refine k_runB (pc' := 50) (loc' := [(0, .ref 40960), (1, .int x1), (2, .int x2), (3, .int x3), (4, .int x4), (5, .int x5)]) (st' := [.int x5, .int x1, .ref 40960]) 3 rfl ?_
      obtain ⟨⟨v13, F14, A15, J16⟩, hv13, hD⟩ := Option.bind_eq_some_iff.mp hD
      dsimp only at hD
      refine k_runC rfl rfl rfl rfl (t_d_leaves (d := d + 4) hv13) ?_
      refine k_runB (pc' := 56) (loc' := [(0, .ref 40960), (1, .int x1), (2, .int x2), (3, .int x3), (4, .int x4), (5, .int x5)]) (st' := [.int x2, .ref 40960]) 3 rfl ?_
      obtain ⟨⟨v17, F18, A19, J20⟩, hv17, hD⟩ := Option.bind_eq_some_iff.mp hD
      dsimp only at hD
      refine k_runC rfl rfl rfl rfl (t_d_isSo (d := d) ht hv17) ?_
      refine k_if rfl (fun c59_20 => ?_) (fun c59_20 => ?_)
      · rw [c59_20, cond_true] at hD
        refine k_runB (pc' := 68) (loc' := [(0, .ref 40960), (1, .int x1), (2, .int x2), (3, .int x3), (4, .int x4), (5, .int x5)]) (st' := [.int x3, .int x4]) 2 rfl ?_
        refine k_ic rfl (fun c68_21 => ?_) (fun c68_21 => ?_)
        · rw [c68_21, cond_true] at hD
          refine k_runB (pc' := 82) (loc' := [(0, .ref 40960), (1, .int x1), (2, .int x2), (3, .int x3), (4, .int (x4 + 1)), (5, .int x5)]) (st' := []) 1 rfl ?_
          refine k_wk [0, 1, 2, 3, 4, 5] (loc' := [(0, .ref 40960), (1, .int x1), (2, .int x2), (3, .int x3), (4, .int (x4 + 1)), (5, .int x5)]) rfl rfl ?_
          exact t_d_fits_82 ht hK33 hD
        · rw [c68_21, cond_false] at hD
          refine k_runB (pc' := 75) (loc' := [(0, .ref 40960), (1, .int x1), (2, .int x2), (3, .int x3), (4, .int x4), (5, .int x5)]) (st' := [.int x5, .int x1, .ref 40960]) 3 rfl ?_
          obtain ⟨⟨v23, F24, A25, J26⟩, hv23, hD⟩ := Option.bind_eq_some_iff.mp hD
          dsimp only at hD
          refine k_runC rfl rfl rfl rfl (t_d_codeOf (d := d + 3) hv23) ?_
          cases hD
          exact k_iret rfl rfl
      · rw [c59_20, cond_false] at hD
        refine k_runB (pc' := 82) (loc' := [(0, .ref 40960), (1, .int x1), (2, .int x2), (3, .int x3), (4, .int x4), (5, .int x5)]) (st' := []) 1 rfl ?_
        refine k_wk [0, 1, 2, 3, 4, 5] (loc' := [(0, .ref 40960), (1, .int x1), (2, .int x2), (3, .int x3), (4, .int x4), (5, .int x5)]) rfl rfl ?_
        exact t_d_fits_82 ht hK33 hD
/-- SleepWorkModel.fits(III)I -/
def d_fits (n : Nat) (F : Nat → Int32) (A : Nat → Nat → Int32) (J : Nat → Nat → Int64) (x1 : Int32) (x2 : Int32) (x3 : Int32) : Option (Int32 × (Nat → Int32) × (Nat → Nat → Int32) × (Nat → Nat → Int64)) :=
  (d_isMan F A J x1).bind fun v1 =>
  cond (g_cnd .eq v1 0)
  (some ((-1), F, A, J))
  ((d_in x2 0 (F 77)).bind fun v3 =>
  cond (g_cnd .eq v3 0)
  (some ((-1), F, A, J))
  (cond (g_cnd .ge x3 ((-1)))
  (d_fits_33 n F A J x1 x2 x3 0 0)
  (some ((-1), F, A, J))))
theorem t_d_fits (ht : ∀ k, t.1 12 k = k_ty 12 k) {n : Nat} {x1 : Int32} {x2 : Int32} {x3 : Int32} {r : Int32} {F' : Nat → Int32} {A' : Nat → Nat → Int32} {J' : Nat → Nat → Int64} : d_fits n F A J x1 x2 x3 = some (r, F', A', J') → k_run t lg (d + 6) 233 0 [(0, .ref 40960), (1, .int x1), (2, .int x2), (3, .int x3)] [] (m_h c B F A J) (some (.int r), m_h c B F' A' J') := by
  intro hD
  unfold d_fits at hD
  refine k_runB (pc' := 2) (loc' := [(0, .ref 40960), (1, .int x1), (2, .int x2), (3, .int x3)]) (st' := [.int x1, .ref 40960]) 2 rfl ?_
  obtain ⟨v1, hv1, hD⟩ := Option.bind_eq_some_iff.mp hD
  refine k_runC rfl rfl rfl rfl (t_d_isMan (d := d + 4) hv1) ?_
  refine k_if rfl (fun c5_1 => ?_) (fun c5_1 => ?_)
  · rw [c5_1, cond_true] at hD
    refine k_runB (pc' := 26) (loc' := [(0, .ref 40960), (1, .int x1), (2, .int x2), (3, .int x3)]) (st' := [.int ((-1))]) 1 rfl ?_
    cases hD
    exact k_iret rfl rfl
  · rw [c5_1, cond_false] at hD
    refine k_runB (pc' := 14) (loc' := [(0, .ref 40960), (1, .int x1), (2, .int x2), (3, .int x3)]) (st' := [.int (F 77), .int 0, .int x2]) 4 rfl ?_
    obtain ⟨v3, hv3, hD⟩ := Option.bind_eq_some_iff.mp hD
    refine k_runC rfl rfl rfl rfl (t_d_in (d := d + 5) hv3) ?_
    refine k_if rfl (fun c17_3 => ?_) (fun c17_3 => ?_)
    · rw [c17_3, cond_true] at hD
      refine k_runB (pc' := 26) (loc' := [(0, .ref 40960), (1, .int x1), (2, .int x2), (3, .int x3)]) (st' := [.int ((-1))]) 1 rfl ?_
      cases hD
      exact k_iret rfl rfl
    · rw [c17_3, cond_false] at hD
      refine k_runB (pc' := 22) (loc' := [(0, .ref 40960), (1, .int x1), (2, .int x2), (3, .int x3)]) (st' := [.int ((-1)), .int x3]) 2 rfl ?_
      refine k_ic rfl (fun c22_4 => ?_) (fun c22_4 => ?_)
      · rw [c22_4, cond_true] at hD
        refine k_runB (pc' := 33) (loc' := [(0, .ref 40960), (1, .int x1), (2, .int x2), (3, .int x3), (4, .int 0), (5, .int 0)]) (st' := []) 4 rfl ?_
        refine k_wk [0, 1, 2, 3, 4, 5] (loc' := [(0, .ref 40960), (1, .int x1), (2, .int x2), (3, .int x3), (4, .int 0), (5, .int 0)]) rfl rfl ?_
        exact t_d_fits_33 ht  hD
      · rw [c22_4, cond_false] at hD
        refine k_runB (pc' := 26) (loc' := [(0, .ref 40960), (1, .int x1), (2, .int x2), (3, .int x3)]) (st' := [.int ((-1))]) 1 rfl ?_
        cases hD
        exact k_iret rfl rfl
def d_isSuspect_76 (K2 : (Nat → Int32) → (Nat → Nat → Int32) → (Nat → Nat → Int64) → Int32 → Int32 → Int32 → Option (Int32 × (Nat → Int32) × (Nat → Nat → Int32) × (Nat → Nat → Int64))) (n : Nat) (F : Nat → Int32) (A : Nat → Nat → Int32) (J : Nat → Nat → Int64) (x1 : Int32) (x2 : Int32) (x3 : Int32) : Option (Int32 × (Nat → Int32) × (Nat → Nat → Int32) × (Nat → Nat → Int64)) :=
    K2 F A J x1 x2 (x3 + 1)
theorem t_d_isSuspect_76 (ht : ∀ k, t.1 12 k = k_ty 12 k) {n : Nat} {K2 : (Nat → Int32) → (Nat → Nat → Int32) → (Nat → Nat → Int64) → Int32 → Int32 → Int32 → Option (Int32 × (Nat → Int32) × (Nat → Nat → Int32) × (Nat → Nat → Int64))} (hK2 : ∀ (F : Nat → Int32) (A : Nat → Nat → Int32) (J : Nat → Nat → Int64) (x1 : Int32) (x2 : Int32) (x3 : Int32) (w : Int32 × (Nat → Int32) × (Nat → Nat → Int32) × (Nat → Nat → Int64)), K2 F A J x1 x2 x3 = some w → k_run t lg (d + 6) 234 2 [(0, .ref 40960), (1, .int x1), (2, .int x2), (3, .int x3)] [] (m_h c B F A J) (some (.int w.1), m_h c B w.2.1 w.2.2.1 w.2.2.2)) {F : Nat → Int32} {A : Nat → Nat → Int32} {J : Nat → Nat → Int64} {x1 : Int32} {x2 : Int32} {x3 : Int32} {w : Int32 × (Nat → Int32) × (Nat → Nat → Int32) × (Nat → Nat → Int64)} : d_isSuspect_76 K2 n F A J x1 x2 x3 = some w → k_run t lg (d + 6) 234 76 [(0, .ref 40960), (1, .int x1), (2, .int x2), (3, .int x3)] [] (m_h c B F A J) (some (.int w.1), m_h c B w.2.1 w.2.2.1 w.2.2.2) := by
  intro hD
  unfold d_isSuspect_76 at hD
  refine k_runB (pc' := 2) (loc' := [(0, .ref 40960), (1, .int x1), (2, .int x2), (3, .int (x3 + 1))]) (st' := []) 2 rfl ?_
  refine k_wk [0, 1, 2, 3] (loc' := [(0, .ref 40960), (1, .int x1), (2, .int x2), (3, .int (x3 + 1))]) rfl rfl ?_
  exact hK2 _ _ _ _ _ _ _ hD
def d_isSuspect_66 (K2 : (Nat → Int32) → (Nat → Nat → Int32) → (Nat → Nat → Int64) → Int32 → Int32 → Int32 → Option (Int32 × (Nat → Int32) × (Nat → Nat → Int32) × (Nat → Nat → Int64))) (n : Nat) (F : Nat → Int32) (A : Nat → Nat → Int32) (J : Nat → Nat → Int64) (x1 : Int32) (x2 : Int32) (x3 : Int32) : Option (Int32 × (Nat → Int32) × (Nat → Nat → Int32) × (Nat → Nat → Int64)) :=
    (d_isSo n F A J x2).bind fun (v17, F18, A19, J20) =>
    cond (g_cnd .eq v17 0)
    (d_isSuspect_76 K2 n F18 A19 J20 x1 x2 x3)
    (some (1, F18, A19, J20))
theorem t_d_isSuspect_66 (ht : ∀ k, t.1 12 k = k_ty 12 k) {n : Nat} {K2 : (Nat → Int32) → (Nat → Nat → Int32) → (Nat → Nat → Int64) → Int32 → Int32 → Int32 → Option (Int32 × (Nat → Int32) × (Nat → Nat → Int32) × (Nat → Nat → Int64))} (hK2 : ∀ (F : Nat → Int32) (A : Nat → Nat → Int32) (J : Nat → Nat → Int64) (x1 : Int32) (x2 : Int32) (x3 : Int32) (w : Int32 × (Nat → Int32) × (Nat → Nat → Int32) × (Nat → Nat → Int64)), K2 F A J x1 x2 x3 = some w → k_run t lg (d + 6) 234 2 [(0, .ref 40960), (1, .int x1), (2, .int x2), (3, .int x3)] [] (m_h c B F A J) (some (.int w.1), m_h c B w.2.1 w.2.2.1 w.2.2.2)) {F : Nat → Int32} {A : Nat → Nat → Int32} {J : Nat → Nat → Int64} {x1 : Int32} {x2 : Int32} {x3 : Int32} {w : Int32 × (Nat → Int32) × (Nat → Nat → Int32) × (Nat → Nat → Int64)} : d_isSuspect_66 K2 n F A J x1 x2 x3 = some w → k_run t lg (d + 6) 234 66 [(0, .ref 40960), (1, .int x1), (2, .int x2), (3, .int x3)] [] (m_h c B F A J) (some (.int w.1), m_h c B w.2.1 w.2.2.1 w.2.2.2) := by
  intro hD
  unfold d_isSuspect_66 at hD
  refine k_runB (pc' := 68) (loc' := [(0, .ref 40960), (1, .int x1), (2, .int x2), (3, .int x3)]) (st' := [.int x2, .ref 40960]) 2 rfl ?_
  obtain ⟨⟨v17, F18, A19, J20⟩, hv17, hD⟩ := Option.bind_eq_some_iff.mp hD
  dsimp only at hD
  refine k_runC rfl rfl rfl rfl (t_d_isSo (d := d) ht hv17) ?_
  refine k_if rfl (fun c71_20 => ?_) (fun c71_20 => ?_)
  · rw [c71_20, cond_true] at hD
    refine k_wk [0, 1, 2, 3] (loc' := [(0, .ref 40960), (1, .int x1), (2, .int x2), (3, .int x3)]) rfl rfl ?_
    exact t_d_isSuspect_76 ht hK2 hD
  · rw [c71_20, cond_false] at hD
    refine k_runB (pc' := 75) (loc' := [(0, .ref 40960), (1, .int x1), (2, .int x2), (3, .int x3)]) (st' := [.int 1]) 1 rfl ?_
    cases hD
    exact k_zret rfl rfl (Or.inr rfl)
def d_isSuspect_2 : Nat → (Nat → Int32) → (Nat → Nat → Int32) → (Nat → Nat → Int64) → Int32 → Int32 → Int32 → Option (Int32 × (Nat → Int32) × (Nat → Nat → Int32) × (Nat → Nat → Int64))
  | 0, _, _, _, _, _, _ => none
  | n + 1, F, A, J, x1, x2, x3 => (d_options n F A J).bind fun v1 =>
    cond (g_cnd .ge x3 v1)
    (some (0, F, A, J))
    ((d_takes n F A J).bind fun (_, F4, A5, J6) =>
    (d_leaves n F4 A5 J6 x1 x3).bind fun (v7, F8, A9, J10) =>
    (m_ld (A9 48) 100 (42 + x1)).bind fun v11 =>
    (m_ld (A9 47) 100 (42 + x1)).bind fun v12 =>
    cond (g_cnd .ne v11 v12)
    (d_isSuspect_66 (d_isSuspect_2 n) n F8 A9 J10 x1 x2 x3)
    ((m_ld (A9 48) 100 (48 + x1)).bind fun v14 =>
    (m_ld (A9 47) 100 (48 + x1)).bind fun v15 =>
    cond (g_cnd .ne v14 v15)
    (d_isSuspect_66 (d_isSuspect_2 n) n F8 A9 J10 x1 x2 x3)
    (d_isSuspect_76 (d_isSuspect_2 n) n F8 A9 J10 x1 x2 x3)))
theorem t_d_isSuspect_2 (ht : ∀ k, t.1 12 k = k_ty 12 k) {n : Nat}  {F : Nat → Int32} {A : Nat → Nat → Int32} {J : Nat → Nat → Int64} {x1 : Int32} {x2 : Int32} {x3 : Int32} {w : Int32 × (Nat → Int32) × (Nat → Nat → Int32) × (Nat → Nat → Int64)} : d_isSuspect_2 n F A J x1 x2 x3 = some w → k_run t lg (d + 6) 234 2 [(0, .ref 40960), (1, .int x1), (2, .int x2), (3, .int x3)] [] (m_h c B F A J) (some (.int w.1), m_h c B w.2.1 w.2.2.1 w.2.2.2) := by
  induction n generalizing F A J x1 x2 x3 w with
  | zero => intro hD; cases hD
  | succ n ih =>
    intro hD
    have hK2 : ∀ (F : Nat → Int32) (A : Nat → Nat → Int32) (J : Nat → Nat → Int64) (x1 : Int32) (x2 : Int32) (x3 : Int32) (w : Int32 × (Nat → Int32) × (Nat → Nat → Int32) × (Nat → Nat → Int64)), d_isSuspect_2 n F A J x1 x2 x3 = some w → k_run t lg (d + 6) 234 2 [(0, .ref 40960), (1, .int x1), (2, .int x2), (3, .int x3)] [] (m_h c B F A J) (some (.int w.1), m_h c B w.2.1 w.2.2.1 w.2.2.2) := fun _ _ _ _ _ _ _ h => ih h
    unfold d_isSuspect_2 at hD
    refine k_runB (pc' := 4) (loc' := [(0, .ref 40960), (1, .int x1), (2, .int x2), (3, .int x3)]) (st' := [.ref 40960, .int x3]) 2 rfl ?_
    obtain ⟨v1, hv1, hD⟩ := Option.bind_eq_some_iff.mp hD
    refine k_runC rfl rfl rfl rfl (t_d_options (d := d + 4) hv1) ?_
    refine k_ic rfl (fun c7_1 => ?_) (fun c7_1 => ?_)
    · rw [c7_1, cond_true] at hD
      refine k_runB (pc' := 83) (loc' := [(0, .ref 40960), (1, .int x1), (2, .int x2), (3, .int x3)]) (st' := [.int 0]) 1 rfl ?_
      cases hD
      exact k_zret rfl rfl (Or.inl rfl)
    · rw [c7_1, cond_false] at hD
      refine k_runB (pc' := 11) (loc' := [(0, .ref 40960), (1, .int x1), (2, .int x2), (3, .int x3)]) (st' := [.ref 40960]) 1 rfl ?_
      obtain ⟨⟨v3, F4, A5, J6⟩, hv3, hD⟩ := Option.bind_eq_some_iff.mp hD
      dsimp only at hD
      refine k_runC rfl rfl rfl rfl (t_d_takes (d := d + 5) hv3) ?_
      refine k_runB (pc' := 17) (loc' := [(0, .ref 40960), (1, .int x1), (2, .int x2), (3, .int x3)]) (st' := [.int x3, .int x1, .ref 40960]) 3 rfl ?_
      obtain ⟨⟨v7, F8, A9, J10⟩, hv7, hD⟩ := Option.bind_eq_some_iff.mp hD
      dsimp only at hD
      refine k_runC rfl rfl rfl rfl (t_d_leaves (d := d + 4) hv7) ?_
      refine k_runB (pc' := 29) (loc' := [(0, .ref 40960), (1, .int x1), (2, .int x2), (3, .int x3)]) (st' := [.int (42 + x1), .ref 41008]) 6 rfl ?_
      obtain ⟨v11, hv11, hD⟩ := Option.bind_eq_some_iff.mp hD
      refine k_ldI rfl rfl hv11 ?_
      refine k_runB (pc' := 38) (loc' := [(0, .ref 40960), (1, .int x1), (2, .int x2), (3, .int x3)]) (st' := [.int (42 + x1), .ref 41007, .int v11]) 5 rfl ?_
      obtain ⟨v12, hv12, hD⟩ := Option.bind_eq_some_iff.mp hD
      refine k_ldI rfl rfl hv12 ?_
      refine k_ic rfl (fun c39_12 => ?_) (fun c39_12 => ?_)
      · rw [c39_12, cond_true] at hD
        refine k_wk [0, 1, 2, 3] (loc' := [(0, .ref 40960), (1, .int x1), (2, .int x2), (3, .int x3)]) rfl rfl ?_
        exact t_d_isSuspect_66 ht hK2 hD
      · rw [c39_12, cond_false] at hD
        refine k_runB (pc' := 50) (loc' := [(0, .ref 40960), (1, .int x1), (2, .int x2), (3, .int x3)]) (st' := [.int (48 + x1), .ref 41008]) 5 rfl ?_
        obtain ⟨v14, hv14, hD⟩ := Option.bind_eq_some_iff.mp hD
        refine k_ldI rfl rfl hv14 ?_
        refine k_runB (pc' := 59) (loc' := [(0, .ref 40960), (1, .int x1), (2, .int x2), (3, .int x3)]) (st' := [.int (48 + x1), .ref 41007, .int v14]) 5 rfl ?_
        obtain ⟨v15, hv15, hD⟩ := Option.bind_eq_some_iff.mp hD
        refine k_ldI rfl rfl hv15 ?_
        refine k_ic rfl (fun c60_15 => ?_) (fun c60_15 => ?_)
        · rw [c60_15, cond_true] at hD
          refine k_wk [0, 1, 2, 3] (loc' := [(0, .ref 40960), (1, .int x1), (2, .int x2), (3, .int x3)]) rfl rfl ?_
          exact t_d_isSuspect_66 ht hK2 hD
        · rw [c60_15, cond_false] at hD
          refine k_runB (pc' := 76) (loc' := [(0, .ref 40960), (1, .int x1), (2, .int x2), (3, .int x3)]) (st' := []) 1 rfl ?_
          refine k_wk [0, 1, 2, 3] (loc' := [(0, .ref 40960), (1, .int x1), (2, .int x2), (3, .int x3)]) rfl rfl ?_
          exact t_d_isSuspect_76 ht hK2 hD
/-- SleepWorkModel.isSuspect(II)Z -/
def d_isSuspect (n : Nat) (F : Nat → Int32) (A : Nat → Nat → Int32) (J : Nat → Nat → Int64) (x1 : Int32) (x2 : Int32) : Option (Int32 × (Nat → Int32) × (Nat → Nat → Int32) × (Nat → Nat → Int64)) :=
  d_isSuspect_2 n F A J x1 x2 0
theorem t_d_isSuspect (ht : ∀ k, t.1 12 k = k_ty 12 k) {n : Nat} {x1 : Int32} {x2 : Int32} {r : Int32} {F' : Nat → Int32} {A' : Nat → Nat → Int32} {J' : Nat → Nat → Int64} : d_isSuspect n F A J x1 x2 = some (r, F', A', J') → k_run t lg (d + 6) 234 0 [(0, .ref 40960), (1, .int x1), (2, .int x2)] [] (m_h c B F A J) (some (.int r), m_h c B F' A' J') := by
  intro hD
  unfold d_isSuspect at hD
  refine k_runB (pc' := 2) (loc' := [(0, .ref 40960), (1, .int x1), (2, .int x2), (3, .int 0)]) (st' := []) 2 rfl ?_
  refine k_wk [0, 1, 2, 3] (loc' := [(0, .ref 40960), (1, .int x1), (2, .int x2), (3, .int 0)]) rfl rfl ?_
  exact t_d_isSuspect_2 ht  hD
def d_suspects_41 (K18 : (Nat → Int32) → (Nat → Nat → Int32) → (Nat → Nat → Int64) → Int32 → Int32 → Int32 → Option (Int32 × (Nat → Int32) × (Nat → Nat → Int32) × (Nat → Nat → Int64))) (n : Nat) (F : Nat → Int32) (A : Nat → Nat → Int32) (J : Nat → Nat → Int64) (x1 : Int32) (x2 : Int32) (x3 : Int32) : Option (Int32 × (Nat → Int32) × (Nat → Nat → Int32) × (Nat → Nat → Int64)) :=
    K18 F A J x1 x2 (x3 + 1)
theorem t_d_suspects_41 (ht : ∀ k, t.1 12 k = k_ty 12 k) {n : Nat} {K18 : (Nat → Int32) → (Nat → Nat → Int32) → (Nat → Nat → Int64) → Int32 → Int32 → Int32 → Option (Int32 × (Nat → Int32) × (Nat → Nat → Int32) × (Nat → Nat → Int64))} (hK18 : ∀ (F : Nat → Int32) (A : Nat → Nat → Int32) (J : Nat → Nat → Int64) (x1 : Int32) (x2 : Int32) (x3 : Int32) (w : Int32 × (Nat → Int32) × (Nat → Nat → Int32) × (Nat → Nat → Int64)), K18 F A J x1 x2 x3 = some w → k_run t lg (d + 7) 235 18 [(0, .ref 40960), (1, .int x1), (2, .int x2), (3, .int x3)] [] (m_h c B F A J) (some (.int w.1), m_h c B w.2.1 w.2.2.1 w.2.2.2)) {F : Nat → Int32} {A : Nat → Nat → Int32} {J : Nat → Nat → Int64} {x1 : Int32} {x2 : Int32} {x3 : Int32} {w : Int32 × (Nat → Int32) × (Nat → Nat → Int32) × (Nat → Nat → Int64)} : d_suspects_41 K18 n F A J x1 x2 x3 = some w → k_run t lg (d + 7) 235 41 [(0, .ref 40960), (1, .int x1), (2, .int x2), (3, .int x3)] [] (m_h c B F A J) (some (.int w.1), m_h c B w.2.1 w.2.2.1 w.2.2.2) := by
  intro hD
  unfold d_suspects_41 at hD
  refine k_runB (pc' := 18) (loc' := [(0, .ref 40960), (1, .int x1), (2, .int x2), (3, .int (x3 + 1))]) (st' := []) 2 rfl ?_
  refine k_wk [0, 1, 2, 3] (loc' := [(0, .ref 40960), (1, .int x1), (2, .int x2), (3, .int (x3 + 1))]) rfl rfl ?_
  exact hK18 _ _ _ _ _ _ _ hD
def d_suspects_18 : Nat → (Nat → Int32) → (Nat → Nat → Int32) → (Nat → Nat → Int64) → Int32 → Int32 → Int32 → Option (Int32 × (Nat → Int32) × (Nat → Nat → Int32) × (Nat → Nat → Int64))
  | 0, _, _, _, _, _, _ => none
  | n + 1, F, A, J, x1, x2, x3 => (d_menNow F A J).bind fun v3 =>
    cond (g_cnd .ge x3 v3)
    (some (x2, F, A, J))
    ((d_isSuspect n F A J x3 x1).bind fun (v5, F6, A7, J8) =>
    cond (g_cnd .eq v5 0)
    (d_suspects_41 (d_suspects_18 n) n F6 A7 J8 x1 x2 x3)
    (d_suspects_41 (d_suspects_18 n) n F6 A7 J8 x1 (x2 ||| (1 <<< (x3 &&& 31))) x3))
theorem t_d_suspects_18 (ht : ∀ k, t.1 12 k = k_ty 12 k) {n : Nat}  {F : Nat → Int32} {A : Nat → Nat → Int32} {J : Nat → Nat → Int64} {x1 : Int32} {x2 : Int32} {x3 : Int32} {w : Int32 × (Nat → Int32) × (Nat → Nat → Int32) × (Nat → Nat → Int64)} : d_suspects_18 n F A J x1 x2 x3 = some w → k_run t lg (d + 7) 235 18 [(0, .ref 40960), (1, .int x1), (2, .int x2), (3, .int x3)] [] (m_h c B F A J) (some (.int w.1), m_h c B w.2.1 w.2.2.1 w.2.2.2) := by
  induction n generalizing F A J x1 x2 x3 w with
  | zero => intro hD; cases hD
  | succ n ih =>
    intro hD
    have hK18 : ∀ (F : Nat → Int32) (A : Nat → Nat → Int32) (J : Nat → Nat → Int64) (x1 : Int32) (x2 : Int32) (x3 : Int32) (w : Int32 × (Nat → Int32) × (Nat → Nat → Int32) × (Nat → Nat → Int64)), d_suspects_18 n F A J x1 x2 x3 = some w → k_run t lg (d + 7) 235 18 [(0, .ref 40960), (1, .int x1), (2, .int x2), (3, .int x3)] [] (m_h c B F A J) (some (.int w.1), m_h c B w.2.1 w.2.2.1 w.2.2.2) := fun _ _ _ _ _ _ _ h => ih h
    unfold d_suspects_18 at hD
    refine k_runB (pc' := 20) (loc' := [(0, .ref 40960), (1, .int x1), (2, .int x2), (3, .int x3)]) (st' := [.ref 40960, .int x3]) 2 rfl ?_
    obtain ⟨v3, hv3, hD⟩ := Option.bind_eq_some_iff.mp hD
    refine k_runC rfl rfl rfl rfl (t_d_menNow (d := d + 6) hv3) ?_
    refine k_ic rfl (fun c23_3 => ?_) (fun c23_3 => ?_)
    · rw [c23_3, cond_true] at hD
      refine k_runB (pc' := 48) (loc' := [(0, .ref 40960), (1, .int x1), (2, .int x2), (3, .int x3)]) (st' := [.int x2]) 1 rfl ?_
      cases hD
      exact k_iret rfl rfl
    · rw [c23_3, cond_false] at hD
      refine k_runB (pc' := 29) (loc' := [(0, .ref 40960), (1, .int x1), (2, .int x2), (3, .int x3)]) (st' := [.int x1, .int x3, .ref 40960]) 3 rfl ?_
      obtain ⟨⟨v5, F6, A7, J8⟩, hv5, hD⟩ := Option.bind_eq_some_iff.mp hD
      dsimp only at hD
      refine k_runC rfl rfl rfl rfl (t_d_isSuspect (d := d) ht hv5) ?_
      refine k_if rfl (fun c32_8 => ?_) (fun c32_8 => ?_)
      · rw [c32_8, cond_true] at hD
        refine k_wk [0, 1, 2, 3] (loc' := [(0, .ref 40960), (1, .int x1), (2, .int x2), (3, .int x3)]) rfl rfl ?_
        exact t_d_suspects_41 ht hK18 hD
      · rw [c32_8, cond_false] at hD
        refine k_runB (pc' := 41) (loc' := [(0, .ref 40960), (1, .int x1), (2, .int (x2 ||| (1 <<< (x3 &&& 31)))), (3, .int x3)]) (st' := []) 6 rfl ?_
        refine k_wk [0, 1, 2, 3] (loc' := [(0, .ref 40960), (1, .int x1), (2, .int (x2 ||| (1 <<< (x3 &&& 31)))), (3, .int x3)]) rfl rfl ?_
        exact t_d_suspects_41 ht hK18 hD
/-- SleepWorkModel.suspects(I)I -/
def d_suspects (n : Nat) (F : Nat → Int32) (A : Nat → Nat → Int32) (J : Nat → Nat → Int64) (x1 : Int32) : Option (Int32 × (Nat → Int32) × (Nat → Nat → Int32) × (Nat → Nat → Int64)) :=
  (d_in x1 0 (F 77)).bind fun v1 =>
  cond (g_cnd .ne v1 0)
  (d_suspects_18 n F A J x1 0 0)
  (some ((-1), F, A, J))
theorem t_d_suspects (ht : ∀ k, t.1 12 k = k_ty 12 k) {n : Nat} {x1 : Int32} {r : Int32} {F' : Nat → Int32} {A' : Nat → Nat → Int32} {J' : Nat → Nat → Int64} : d_suspects n F A J x1 = some (r, F', A', J') → k_run t lg (d + 7) 235 0 [(0, .ref 40960), (1, .int x1)] [] (m_h c B F A J) (some (.int r), m_h c B F' A' J') := by
  intro hD
  unfold d_suspects at hD
  refine k_runB (pc' := 6) (loc' := [(0, .ref 40960), (1, .int x1)]) (st' := [.int (F 77), .int 0, .int x1]) 4 rfl ?_
  obtain ⟨v1, hv1, hD⟩ := Option.bind_eq_some_iff.mp hD
  refine k_runC rfl rfl rfl rfl (t_d_in (d := d + 6) hv1) ?_
  refine k_if rfl (fun c9_1 => ?_) (fun c9_1 => ?_)
  · rw [c9_1, cond_true] at hD
    refine k_runB (pc' := 18) (loc' := [(0, .ref 40960), (1, .int x1), (2, .int 0), (3, .int 0)]) (st' := []) 4 rfl ?_
    refine k_wk [0, 1, 2, 3] (loc' := [(0, .ref 40960), (1, .int x1), (2, .int 0), (3, .int 0)]) rfl rfl ?_
    exact t_d_suspects_18 ht  hD
  · rw [c9_1, cond_false] at hD
    refine k_runB (pc' := 13) (loc' := [(0, .ref 40960), (1, .int x1)]) (st' := [.int ((-1))]) 1 rfl ?_
    cases hD
    exact k_iret rfl rfl
def d_pairs_93 (K41 : (Nat → Int32) → (Nat → Nat → Int32) → (Nat → Nat → Int64) → Int32 → Int32 → Int32 → Int32 → Int32 → Option (Int32 × (Nat → Int32) × (Nat → Nat → Int32) × (Nat → Nat → Int64))) (K53 : (Nat → Int32) → (Nat → Nat → Int32) → (Nat → Nat → Int64) → Int32 → Int32 → Int32 → Int32 → Int32 → Int32 → Option (Int32 × (Nat → Int32) × (Nat → Nat → Int32) × (Nat → Nat → Int64))) (n : Nat) (F : Nat → Int32) (A : Nat → Nat → Int32) (J : Nat → Nat → Int64) (x1 : Int32) (x2 : Int32) (x3 : Int32) (x4 : Int32) (x5 : Int32) (x6 : Int32) : Option (Int32 × (Nat → Int32) × (Nat → Nat → Int32) × (Nat → Nat → Int64)) :=
    K53 F A J x1 x2 x3 x4 x5 (x6 + 1)
theorem t_d_pairs_93 (ht : ∀ k, t.1 12 k = k_ty 12 k) {n : Nat} {K41 : (Nat → Int32) → (Nat → Nat → Int32) → (Nat → Nat → Int64) → Int32 → Int32 → Int32 → Int32 → Int32 → Option (Int32 × (Nat → Int32) × (Nat → Nat → Int32) × (Nat → Nat → Int64))} {K53 : (Nat → Int32) → (Nat → Nat → Int32) → (Nat → Nat → Int64) → Int32 → Int32 → Int32 → Int32 → Int32 → Int32 → Option (Int32 × (Nat → Int32) × (Nat → Nat → Int32) × (Nat → Nat → Int64))} (hK41 : ∀ (F : Nat → Int32) (A : Nat → Nat → Int32) (J : Nat → Nat → Int64) (x1 : Int32) (x2 : Int32) (x3 : Int32) (x4 : Int32) (x5 : Int32) (w : Int32 × (Nat → Int32) × (Nat → Nat → Int32) × (Nat → Nat → Int64)), K41 F A J x1 x2 x3 x4 x5 = some w → k_run t lg (d + 6) 236 41 [(0, .ref 40960), (1, .int x1), (2, .int x2), (3, .int x3), (4, .int x4), (5, .int x5)] [] (m_h c B F A J) (some (.int w.1), m_h c B w.2.1 w.2.2.1 w.2.2.2)) (hK53 : ∀ (F : Nat → Int32) (A : Nat → Nat → Int32) (J : Nat → Nat → Int64) (x1 : Int32) (x2 : Int32) (x3 : Int32) (x4 : Int32) (x5 : Int32) (x6 : Int32) (w : Int32 × (Nat → Int32) × (Nat → Nat → Int32) × (Nat → Nat → Int64)), K53 F A J x1 x2 x3 x4 x5 x6 = some w → k_run t lg (d + 6) 236 53 [(0, .ref 40960), (1, .int x1), (2, .int x2), (3, .int x3), (4, .int x4), (5, .int x5), (6, .int x6)] [] (m_h c B F A J) (some (.int w.1), m_h c B w.2.1 w.2.2.1 w.2.2.2)) {F : Nat → Int32} {A : Nat → Nat → Int32} {J : Nat → Nat → Int64} {x1 : Int32} {x2 : Int32} {x3 : Int32} {x4 : Int32} {x5 : Int32} {x6 : Int32} {w : Int32 × (Nat → Int32) × (Nat → Nat → Int32) × (Nat → Nat → Int64)} : d_pairs_93 K41 K53 n F A J x1 x2 x3 x4 x5 x6 = some w → k_run t lg (d + 6) 236 93 [(0, .ref 40960), (1, .int x1), (2, .int x2), (3, .int x3), (4, .int x4), (5, .int x5), (6, .int x6)] [] (m_h c B F A J) (some (.int w.1), m_h c B w.2.1 w.2.2.1 w.2.2.2) := by
  intro hD
  unfold d_pairs_93 at hD
  refine k_runB (pc' := 53) (loc' := [(0, .ref 40960), (1, .int x1), (2, .int x2), (3, .int x3), (4, .int x4), (5, .int x5), (6, .int (x6 + 1))]) (st' := []) 2 rfl ?_
  refine k_wk [0, 1, 2, 3, 4, 5, 6] (loc' := [(0, .ref 40960), (1, .int x1), (2, .int x2), (3, .int x3), (4, .int x4), (5, .int x5), (6, .int (x6 + 1))]) rfl rfl ?_
  exact hK53 _ _ _ _ _ _ _ _ _ _ hD
def d_pairs_53 (K41 : (Nat → Int32) → (Nat → Nat → Int32) → (Nat → Nat → Int64) → Int32 → Int32 → Int32 → Int32 → Int32 → Option (Int32 × (Nat → Int32) × (Nat → Nat → Int32) × (Nat → Nat → Int64))) : Nat → (Nat → Int32) → (Nat → Nat → Int32) → (Nat → Nat → Int64) → Int32 → Int32 → Int32 → Int32 → Int32 → Int32 → Option (Int32 × (Nat → Int32) × (Nat → Nat → Int32) × (Nat → Nat → Int64))
  | 0, _, _, _, _, _, _, _, _, _ => none
  | n + 1, F, A, J, x1, x2, x3, x4, x5, x6 => (d_options n F A J).bind fun v10 =>
    cond (g_cnd .ge x6 v10)
    (K41 F A J x1 x2 x3 x4 (x5 + 1))
    ((d_takes n F A J).bind fun (_, F13, A14, J15) =>
    (d_leaves n F13 A14 J15 x1 x5).bind fun (v16, F17, A18, J19) =>
    (d_leaves n F17 A18 J19 x2 x6).bind fun (v20, F21, A22, J23) =>
    (d_isSo n F21 A22 J23 x3).bind fun (v24, F25, A26, J27) =>
    cond (g_cnd .eq v24 0)
    (d_pairs_93 K41 (d_pairs_53 K41 n) n F25 A26 J27 x1 x2 x3 x4 x5 x6)
    (d_pairs_93 K41 (d_pairs_53 K41 n) n F25 A26 J27 x1 x2 x3 (x4 + 1) x5 x6))
theorem t_d_pairs_53 (ht : ∀ k, t.1 12 k = k_ty 12 k) {n : Nat} {K41 : (Nat → Int32) → (Nat → Nat → Int32) → (Nat → Nat → Int64) → Int32 → Int32 → Int32 → Int32 → Int32 → Option (Int32 × (Nat → Int32) × (Nat → Nat → Int32) × (Nat → Nat → Int64))} (hK41 : ∀ (F : Nat → Int32) (A : Nat → Nat → Int32) (J : Nat → Nat → Int64) (x1 : Int32) (x2 : Int32) (x3 : Int32) (x4 : Int32) (x5 : Int32) (w : Int32 × (Nat → Int32) × (Nat → Nat → Int32) × (Nat → Nat → Int64)), K41 F A J x1 x2 x3 x4 x5 = some w → k_run t lg (d + 6) 236 41 [(0, .ref 40960), (1, .int x1), (2, .int x2), (3, .int x3), (4, .int x4), (5, .int x5)] [] (m_h c B F A J) (some (.int w.1), m_h c B w.2.1 w.2.2.1 w.2.2.2)) {F : Nat → Int32} {A : Nat → Nat → Int32} {J : Nat → Nat → Int64} {x1 : Int32} {x2 : Int32} {x3 : Int32} {x4 : Int32} {x5 : Int32} {x6 : Int32} {w : Int32 × (Nat → Int32) × (Nat → Nat → Int32) × (Nat → Nat → Int64)} : d_pairs_53 K41 n F A J x1 x2 x3 x4 x5 x6 = some w → k_run t lg (d + 6) 236 53 [(0, .ref 40960), (1, .int x1), (2, .int x2), (3, .int x3), (4, .int x4), (5, .int x5), (6, .int x6)] [] (m_h c B F A J) (some (.int w.1), m_h c B w.2.1 w.2.2.1 w.2.2.2) := by
  induction n generalizing F A J x1 x2 x3 x4 x5 x6 w with
  | zero => intro hD; cases hD
  | succ n ih =>
    intro hD
    have hK53 : ∀ (F : Nat → Int32) (A : Nat → Nat → Int32) (J : Nat → Nat → Int64) (x1 : Int32) (x2 : Int32) (x3 : Int32) (x4 : Int32) (x5 : Int32) (x6 : Int32) (w : Int32 × (Nat → Int32) × (Nat → Nat → Int32) × (Nat → Nat → Int64)), d_pairs_53 K41 n F A J x1 x2 x3 x4 x5 x6 = some w → k_run t lg (d + 6) 236 53 [(0, .ref 40960), (1, .int x1), (2, .int x2), (3, .int x3), (4, .int x4), (5, .int x5), (6, .int x6)] [] (m_h c B F A J) (some (.int w.1), m_h c B w.2.1 w.2.2.1 w.2.2.2) := fun _ _ _ _ _ _ _ _ _ _ h => ih h
    unfold d_pairs_53 at hD
    refine k_runB (pc' := 56) (loc' := [(0, .ref 40960), (1, .int x1), (2, .int x2), (3, .int x3), (4, .int x4), (5, .int x5), (6, .int x6)]) (st' := [.ref 40960, .int x6]) 2 rfl ?_
    obtain ⟨v10, hv10, hD⟩ := Option.bind_eq_some_iff.mp hD
    refine k_runC rfl rfl rfl rfl (t_d_options (d := d + 4) hv10) ?_
    refine k_ic rfl (fun c59_10 => ?_) (fun c59_10 => ?_)
    · rw [c59_10, cond_true] at hD
      refine k_runB (pc' := 41) (loc' := [(0, .ref 40960), (1, .int x1), (2, .int x2), (3, .int x3), (4, .int x4), (5, .int (x5 + 1)), (6, .int x6)]) (st' := []) 2 rfl ?_
      refine k_wk [0, 1, 2, 3, 4, 5] (loc' := [(0, .ref 40960), (1, .int x1), (2, .int x2), (3, .int x3), (4, .int x4), (5, .int (x5 + 1))]) rfl rfl ?_
      exact hK41 _ _ _ _ _ _ _ _ _ hD
    · rw [c59_10, cond_false] at hD
      refine k_runB (pc' := 63) (loc' := [(0, .ref 40960), (1, .int x1), (2, .int x2), (3, .int x3), (4, .int x4), (5, .int x5), (6, .int x6)]) (st' := [.ref 40960]) 1 rfl ?_
      obtain ⟨⟨v12, F13, A14, J15⟩, hv12, hD⟩ := Option.bind_eq_some_iff.mp hD
      dsimp only at hD
      refine k_runC rfl rfl rfl rfl (t_d_takes (d := d + 5) hv12) ?_
      refine k_runB (pc' := 70) (loc' := [(0, .ref 40960), (1, .int x1), (2, .int x2), (3, .int x3), (4, .int x4), (5, .int x5), (6, .int x6)]) (st' := [.int x5, .int x1, .ref 40960]) 3 rfl ?_
      obtain ⟨⟨v16, F17, A18, J19⟩, hv16, hD⟩ := Option.bind_eq_some_iff.mp hD
      dsimp only at hD
      refine k_runC rfl rfl rfl rfl (t_d_leaves (d := d + 4) hv16) ?_
      refine k_runB (pc' := 78) (loc' := [(0, .ref 40960), (1, .int x1), (2, .int x2), (3, .int x3), (4, .int x4), (5, .int x5), (6, .int x6)]) (st' := [.int x6, .int x2, .ref 40960]) 4 rfl ?_
      obtain ⟨⟨v20, F21, A22, J23⟩, hv20, hD⟩ := Option.bind_eq_some_iff.mp hD
      dsimp only at hD
      refine k_runC rfl rfl rfl rfl (t_d_leaves (d := d + 4) hv20) ?_
      refine k_runB (pc' := 84) (loc' := [(0, .ref 40960), (1, .int x1), (2, .int x2), (3, .int x3), (4, .int x4), (5, .int x5), (6, .int x6)]) (st' := [.int x3, .ref 40960]) 3 rfl ?_
      obtain ⟨⟨v24, F25, A26, J27⟩, hv24, hD⟩ := Option.bind_eq_some_iff.mp hD
      dsimp only at hD
      refine k_runC rfl rfl rfl rfl (t_d_isSo (d := d) ht hv24) ?_
      refine k_if rfl (fun c87_27 => ?_) (fun c87_27 => ?_)
      · rw [c87_27, cond_true] at hD
        refine k_wk [0, 1, 2, 3, 4, 5, 6] (loc' := [(0, .ref 40960), (1, .int x1), (2, .int x2), (3, .int x3), (4, .int x4), (5, .int x5), (6, .int x6)]) rfl rfl ?_
        exact t_d_pairs_93 ht hK41 hK53 hD
      · rw [c87_27, cond_false] at hD
        refine k_runB (pc' := 93) (loc' := [(0, .ref 40960), (1, .int x1), (2, .int x2), (3, .int x3), (4, .int (x4 + 1)), (5, .int x5), (6, .int x6)]) (st' := []) 1 rfl ?_
        refine k_wk [0, 1, 2, 3, 4, 5, 6] (loc' := [(0, .ref 40960), (1, .int x1), (2, .int x2), (3, .int x3), (4, .int (x4 + 1)), (5, .int x5), (6, .int x6)]) rfl rfl ?_
        exact t_d_pairs_93 ht hK41 hK53 hD
def d_pairs_41 : Nat → (Nat → Int32) → (Nat → Nat → Int32) → (Nat → Nat → Int64) → Int32 → Int32 → Int32 → Int32 → Int32 → Option (Int32 × (Nat → Int32) × (Nat → Nat → Int32) × (Nat → Nat → Int64))
  | 0, _, _, _, _, _, _, _, _ => none
  | n + 1, F, A, J, x1, x2, x3, x4, x5 => (d_options n F A J).bind fun v8 =>
    cond (g_cnd .ge x5 v8)
    (some (x4, F, A, J))
    (d_pairs_53 (d_pairs_41 n) n F A J x1 x2 x3 x4 x5 0)
theorem t_d_pairs_41 (ht : ∀ k, t.1 12 k = k_ty 12 k) {n : Nat}  {F : Nat → Int32} {A : Nat → Nat → Int32} {J : Nat → Nat → Int64} {x1 : Int32} {x2 : Int32} {x3 : Int32} {x4 : Int32} {x5 : Int32} {w : Int32 × (Nat → Int32) × (Nat → Nat → Int32) × (Nat → Nat → Int64)} : d_pairs_41 n F A J x1 x2 x3 x4 x5 = some w → k_run t lg (d + 6) 236 41 [(0, .ref 40960), (1, .int x1), (2, .int x2), (3, .int x3), (4, .int x4), (5, .int x5)] [] (m_h c B F A J) (some (.int w.1), m_h c B w.2.1 w.2.2.1 w.2.2.2) := by
  induction n generalizing F A J x1 x2 x3 x4 x5 w with
  | zero => intro hD; cases hD
  | succ n ih =>
    intro hD
    have hK41 : ∀ (F : Nat → Int32) (A : Nat → Nat → Int32) (J : Nat → Nat → Int64) (x1 : Int32) (x2 : Int32) (x3 : Int32) (x4 : Int32) (x5 : Int32) (w : Int32 × (Nat → Int32) × (Nat → Nat → Int32) × (Nat → Nat → Int64)), d_pairs_41 n F A J x1 x2 x3 x4 x5 = some w → k_run t lg (d + 6) 236 41 [(0, .ref 40960), (1, .int x1), (2, .int x2), (3, .int x3), (4, .int x4), (5, .int x5)] [] (m_h c B F A J) (some (.int w.1), m_h c B w.2.1 w.2.2.1 w.2.2.2) := fun _ _ _ _ _ _ _ _ _ h => ih h
    unfold d_pairs_41 at hD
    refine k_runB (pc' := 44) (loc' := [(0, .ref 40960), (1, .int x1), (2, .int x2), (3, .int x3), (4, .int x4), (5, .int x5)]) (st' := [.ref 40960, .int x5]) 2 rfl ?_
    obtain ⟨v8, hv8, hD⟩ := Option.bind_eq_some_iff.mp hD
    refine k_runC rfl rfl rfl rfl (t_d_options (d := d + 4) hv8) ?_
    refine k_ic rfl (fun c47_8 => ?_) (fun c47_8 => ?_)
    · rw [c47_8, cond_true] at hD
      refine k_runB (pc' := 107) (loc' := [(0, .ref 40960), (1, .int x1), (2, .int x2), (3, .int x3), (4, .int x4), (5, .int x5)]) (st' := [.int x4]) 1 rfl ?_
      cases hD
      exact k_iret rfl rfl
    · rw [c47_8, cond_false] at hD
      refine k_runB (pc' := 53) (loc' := [(0, .ref 40960), (1, .int x1), (2, .int x2), (3, .int x3), (4, .int x4), (5, .int x5), (6, .int 0)]) (st' := []) 2 rfl ?_
      refine k_wk [0, 1, 2, 3, 4, 5, 6] (loc' := [(0, .ref 40960), (1, .int x1), (2, .int x2), (3, .int x3), (4, .int x4), (5, .int x5), (6, .int 0)]) rfl rfl ?_
      exact t_d_pairs_53 ht hK41 hD
/-- SleepWorkModel.pairs(III)I -/
def d_pairs (n : Nat) (F : Nat → Int32) (A : Nat → Nat → Int32) (J : Nat → Nat → Int64) (x1 : Int32) (x2 : Int32) (x3 : Int32) : Option (Int32 × (Nat → Int32) × (Nat → Nat → Int32) × (Nat → Nat → Int64)) :=
  (d_isMan F A J x1).bind fun v1 =>
  cond (g_cnd .eq v1 0)
  (some ((-1), F, A, J))
  ((d_isMan F A J x2).bind fun v3 =>
  cond (g_cnd .eq v3 0)
  (some ((-1), F, A, J))
  (cond (g_cnd .eq x1 x2)
  (some ((-1), F, A, J))
  ((d_in x3 0 (F 77)).bind fun v6 =>
  cond (g_cnd .ne v6 0)
  (d_pairs_41 n F A J x1 x2 x3 0 0)
  (some ((-1), F, A, J)))))
theorem t_d_pairs (ht : ∀ k, t.1 12 k = k_ty 12 k) {n : Nat} {x1 : Int32} {x2 : Int32} {x3 : Int32} {r : Int32} {F' : Nat → Int32} {A' : Nat → Nat → Int32} {J' : Nat → Nat → Int64} : d_pairs n F A J x1 x2 x3 = some (r, F', A', J') → k_run t lg (d + 6) 236 0 [(0, .ref 40960), (1, .int x1), (2, .int x2), (3, .int x3)] [] (m_h c B F A J) (some (.int r), m_h c B F' A' J') := by
  intro hD
  unfold d_pairs at hD
  refine k_runB (pc' := 2) (loc' := [(0, .ref 40960), (1, .int x1), (2, .int x2), (3, .int x3)]) (st' := [.int x1, .ref 40960]) 2 rfl ?_
  obtain ⟨v1, hv1, hD⟩ := Option.bind_eq_some_iff.mp hD
  refine k_runC rfl rfl rfl rfl (t_d_isMan (d := d + 4) hv1) ?_
  refine k_if rfl (fun c5_1 => ?_) (fun c5_1 => ?_)
  · rw [c5_1, cond_true] at hD
    refine k_runB (pc' := 34) (loc' := [(0, .ref 40960), (1, .int x1), (2, .int x2), (3, .int x3)]) (st' := [.int ((-1))]) 1 rfl ?_
    cases hD
    exact k_iret rfl rfl
  · rw [c5_1, cond_false] at hD
    refine k_runB (pc' := 10) (loc' := [(0, .ref 40960), (1, .int x1), (2, .int x2), (3, .int x3)]) (st' := [.int x2, .ref 40960]) 2 rfl ?_
    obtain ⟨v3, hv3, hD⟩ := Option.bind_eq_some_iff.mp hD
    refine k_runC rfl rfl rfl rfl (t_d_isMan (d := d + 4) hv3) ?_
    refine k_if rfl (fun c13_3 => ?_) (fun c13_3 => ?_)
    · rw [c13_3, cond_true] at hD
      refine k_runB (pc' := 34) (loc' := [(0, .ref 40960), (1, .int x1), (2, .int x2), (3, .int x3)]) (st' := [.int ((-1))]) 1 rfl ?_
      cases hD
      exact k_iret rfl rfl
    · rw [c13_3, cond_false] at hD
      refine k_runB (pc' := 18) (loc' := [(0, .ref 40960), (1, .int x1), (2, .int x2), (3, .int x3)]) (st' := [.int x2, .int x1]) 2 rfl ?_
      refine k_ic rfl (fun c18_4 => ?_) (fun c18_4 => ?_)
      · rw [c18_4, cond_true] at hD
        refine k_runB (pc' := 34) (loc' := [(0, .ref 40960), (1, .int x1), (2, .int x2), (3, .int x3)]) (st' := [.int ((-1))]) 1 rfl ?_
        cases hD
        exact k_iret rfl rfl
      · rw [c18_4, cond_false] at hD
        refine k_runB (pc' := 27) (loc' := [(0, .ref 40960), (1, .int x1), (2, .int x2), (3, .int x3)]) (st' := [.int (F 77), .int 0, .int x3]) 4 rfl ?_
        obtain ⟨v6, hv6, hD⟩ := Option.bind_eq_some_iff.mp hD
        refine k_runC rfl rfl rfl rfl (t_d_in (d := d + 5) hv6) ?_
        refine k_if rfl (fun c30_6 => ?_) (fun c30_6 => ?_)
        · rw [c30_6, cond_true] at hD
          refine k_runB (pc' := 41) (loc' := [(0, .ref 40960), (1, .int x1), (2, .int x2), (3, .int x3), (4, .int 0), (5, .int 0)]) (st' := []) 4 rfl ?_
          refine k_wk [0, 1, 2, 3, 4, 5] (loc' := [(0, .ref 40960), (1, .int x1), (2, .int x2), (3, .int x3), (4, .int 0), (5, .int 0)]) rfl rfl ?_
          exact t_d_pairs_41 ht  hD
        · rw [c30_6, cond_false] at hD
          refine k_runB (pc' := 34) (loc' := [(0, .ref 40960), (1, .int x1), (2, .int x2), (3, .int x3)]) (st' := [.int ((-1))]) 1 rfl ?_
          cases hD
          exact k_iret rfl rfl
def d_hold_20 : Nat → (Nat → Int32) → (Nat → Nat → Int32) → (Nat → Nat → Int64) → Int32 → Int32 → Option (Int32 × (Nat → Int32) × (Nat → Nat → Int32) × (Nat → Nat → Int64))
  | 0, _, _, _, _, _ => none
  | n + 1, F, A, J, x1, x2 => cond (g_cnd .ge x2 100)
    (some (1, F, A, J))
    ((m_ld (A 47) 100 x2).bind fun v5 =>
    (m_st A 62 300 ((100 * x1) + x2) v5).bind fun A6 =>
    (d_hold_20 n) F A6 J x1 (x2 + 1))
theorem t_d_hold_20 {n : Nat}  {F : Nat → Int32} {A : Nat → Nat → Int32} {J : Nat → Nat → Int64} {x1 : Int32} {x2 : Int32} {w : Int32 × (Nat → Int32) × (Nat → Nat → Int32) × (Nat → Nat → Int64)} : d_hold_20 n F A J x1 x2 = some w → k_run t lg (d + 1) 237 20 [(0, .ref 40960), (1, .int x1), (2, .int x2)] [] (m_h c B F A J) (some (.int w.1), m_h c B w.2.1 w.2.2.1 w.2.2.2) := by
  induction n generalizing F A J x1 x2 w with
  | zero => intro hD; cases hD
  | succ n ih =>
    intro hD
    have hK20 : ∀ (F : Nat → Int32) (A : Nat → Nat → Int32) (J : Nat → Nat → Int64) (x1 : Int32) (x2 : Int32) (w : Int32 × (Nat → Int32) × (Nat → Nat → Int32) × (Nat → Nat → Int64)), d_hold_20 n F A J x1 x2 = some w → k_run t lg (d + 1) 237 20 [(0, .ref 40960), (1, .int x1), (2, .int x2)] [] (m_h c B F A J) (some (.int w.1), m_h c B w.2.1 w.2.2.1 w.2.2.2) := fun _ _ _ _ _ _ h => ih h
    unfold d_hold_20 at hD
    refine k_runB (pc' := 23) (loc' := [(0, .ref 40960), (1, .int x1), (2, .int x2)]) (st' := [.int 100, .int x2]) 2 rfl ?_
    refine k_ic rfl (fun c23_3 => ?_) (fun c23_3 => ?_)
    · rw [c23_3, cond_true] at hD
      refine k_runB (pc' := 50) (loc' := [(0, .ref 40960), (1, .int x1), (2, .int x2)]) (st' := [.int 1]) 1 rfl ?_
      cases hD
      exact k_zret rfl rfl (Or.inr rfl)
    · rw [c23_3, cond_false] at hD
      refine k_runB (pc' := 41) (loc' := [(0, .ref 40960), (1, .int x1), (2, .int x2)]) (st' := [.int x2, .ref 41007, .int ((100 * x1) + x2), .ref 41022]) 10 rfl ?_
      obtain ⟨v5, hv5, hD⟩ := Option.bind_eq_some_iff.mp hD
      refine k_ldI rfl rfl hv5 ?_
      obtain ⟨A6, hA6, hD⟩ := Option.bind_eq_some_iff.mp hD
      refine k_stI 62 rfl rfl (fun _ => rfl) hA6 ?_
      refine k_runB (pc' := 20) (loc' := [(0, .ref 40960), (1, .int x1), (2, .int (x2 + 1))]) (st' := []) 2 rfl ?_
      refine k_wk [0, 1, 2] (loc' := [(0, .ref 40960), (1, .int x1), (2, .int (x2 + 1))]) rfl rfl ?_
      exact hK20 _ _ _ _ _ _ hD
/-- SleepWorkModel.hold(I)Z -/
def d_hold (n : Nat) (F : Nat → Int32) (A : Nat → Nat → Int32) (J : Nat → Nat → Int64) (x1 : Int32) : Option (Int32 × (Nat → Int32) × (Nat → Nat → Int32) × (Nat → Nat → Int64)) :=
  (d_in x1 0 2).bind fun v1 =>
  cond (g_cnd .ne v1 0)
  ((m_st A 61 3 x1 (vp_nar .boolean 1)).bind fun A3 =>
  d_hold_20 n F A3 J x1 0)
  (some (0, F, A, J))
theorem t_d_hold {n : Nat} {x1 : Int32} {r : Int32} {F' : Nat → Int32} {A' : Nat → Nat → Int32} {J' : Nat → Nat → Int64} : d_hold n F A J x1 = some (r, F', A', J') → k_run t lg (d + 1) 237 0 [(0, .ref 40960), (1, .int x1)] [] (m_h c B F A J) (some (.int r), m_h c B F' A' J') := by
  intro hD
  unfold d_hold at hD
  refine k_runB (pc' := 3) (loc' := [(0, .ref 40960), (1, .int x1)]) (st' := [.int 2, .int 0, .int x1]) 3 rfl ?_
  obtain ⟨v1, hv1, hD⟩ := Option.bind_eq_some_iff.mp hD
  refine k_runC rfl rfl rfl rfl (t_d_in (d := d) hv1) ?_
  refine k_if rfl (fun c6_1 => ?_) (fun c6_1 => ?_)
  · rw [c6_1, cond_true] at hD
    refine k_runB (pc' := 17) (loc' := [(0, .ref 40960), (1, .int x1)]) (st' := [.int 1, .int x1, .ref 41021]) 4 rfl ?_
    obtain ⟨A3, hA3, hD⟩ := Option.bind_eq_some_iff.mp hD
    refine k_stZ 61 rfl rfl (fun _ => rfl) hA3 ?_
    refine k_runB (pc' := 20) (loc' := [(0, .ref 40960), (1, .int x1), (2, .int 0)]) (st' := []) 2 rfl ?_
    refine k_wk [0, 1, 2] (loc' := [(0, .ref 40960), (1, .int x1), (2, .int 0)]) rfl rfl ?_
    exact t_d_hold_20  hD
  · rw [c6_1, cond_false] at hD
    refine k_runB (pc' := 10) (loc' := [(0, .ref 40960), (1, .int x1)]) (st' := [.int 0]) 1 rfl ?_
    cases hD
    exact k_zret rfl rfl (Or.inl rfl)
def d_restore_22 : Nat → (Nat → Int32) → (Nat → Nat → Int32) → (Nat → Nat → Int64) → Int32 → Int32 → Option (Int32 × (Nat → Int32) × (Nat → Nat → Int32) × (Nat → Nat → Int64))
  | 0, _, _, _, _, _ => none
  | n + 1, F, A, J, x1, x2 => cond (g_cnd .ge x2 100)
    ((m_pf F 74 0).bind fun F6 =>
    some (1, F6, A, J))
    ((m_ld (A 62) 300 ((100 * x1) + x2)).bind fun v7 =>
    (m_st A 47 100 x2 v7).bind fun A8 =>
    (d_restore_22 n) F A8 J x1 (x2 + 1))
theorem t_d_restore_22 (ht : ∀ k, t.1 12 k = k_ty 12 k) {n : Nat}  {F : Nat → Int32} {A : Nat → Nat → Int32} {J : Nat → Nat → Int64} {x1 : Int32} {x2 : Int32} {w : Int32 × (Nat → Int32) × (Nat → Nat → Int32) × (Nat → Nat → Int64)} : d_restore_22 n F A J x1 x2 = some w → k_run t lg (d + 1) 238 22 [(0, .ref 40960), (1, .int x1), (2, .int x2)] [] (m_h c B F A J) (some (.int w.1), m_h c B w.2.1 w.2.2.1 w.2.2.2) := by
  induction n generalizing F A J x1 x2 w with
  | zero => intro hD; cases hD
  | succ n ih =>
    intro hD
    have hK22 : ∀ (F : Nat → Int32) (A : Nat → Nat → Int32) (J : Nat → Nat → Int64) (x1 : Int32) (x2 : Int32) (w : Int32 × (Nat → Int32) × (Nat → Nat → Int32) × (Nat → Nat → Int64)), d_restore_22 n F A J x1 x2 = some w → k_run t lg (d + 1) 238 22 [(0, .ref 40960), (1, .int x1), (2, .int x2)] [] (m_h c B F A J) (some (.int w.1), m_h c B w.2.1 w.2.2.1 w.2.2.2) := fun _ _ _ _ _ _ h => ih h
    unfold d_restore_22 at hD
    refine k_runB (pc' := 25) (loc' := [(0, .ref 40960), (1, .int x1), (2, .int x2)]) (st' := [.int 100, .int x2]) 2 rfl ?_
    refine k_ic rfl (fun c25_4 => ?_) (fun c25_4 => ?_)
    · rw [c25_4, cond_true] at hD
      refine k_runB (pc' := 53) (loc' := [(0, .ref 40960), (1, .int x1), (2, .int x2)]) (st' := [.int 0, .ref 40960]) 2 rfl ?_
      obtain ⟨F6, hF6, hD⟩ := Option.bind_eq_some_iff.mp hD
      refine k_ptI rfl (ht 74) rfl rfl hF6 ?_
      refine k_runB (pc' := 57) (loc' := [(0, .ref 40960), (1, .int x1), (2, .int x2)]) (st' := [.int 1]) 1 rfl ?_
      cases hD
      exact k_zret rfl rfl (Or.inr rfl)
    · rw [c25_4, cond_false] at hD
      refine k_runB (pc' := 43) (loc' := [(0, .ref 40960), (1, .int x1), (2, .int x2)]) (st' := [.int ((100 * x1) + x2), .ref 41022, .int x2, .ref 41007]) 10 rfl ?_
      obtain ⟨v7, hv7, hD⟩ := Option.bind_eq_some_iff.mp hD
      refine k_ldI rfl rfl hv7 ?_
      obtain ⟨A8, hA8, hD⟩ := Option.bind_eq_some_iff.mp hD
      refine k_stI 47 rfl rfl (fun _ => rfl) hA8 ?_
      refine k_runB (pc' := 22) (loc' := [(0, .ref 40960), (1, .int x1), (2, .int (x2 + 1))]) (st' := []) 2 rfl ?_
      refine k_wk [0, 1, 2] (loc' := [(0, .ref 40960), (1, .int x1), (2, .int (x2 + 1))]) rfl rfl ?_
      exact hK22 _ _ _ _ _ _ hD
/-- SleepWorkModel.restore(I)Z -/
def d_restore (n : Nat) (F : Nat → Int32) (A : Nat → Nat → Int32) (J : Nat → Nat → Int64) (x1 : Int32) : Option (Int32 × (Nat → Int32) × (Nat → Nat → Int32) × (Nat → Nat → Int64)) :=
  (d_in x1 0 2).bind fun v1 =>
  cond (g_cnd .eq v1 0)
  (some (0, F, A, J))
  ((m_ld (A 61) 3 x1).bind fun v3 =>
  cond (g_cnd .ne v3 0)
  (d_restore_22 n F A J x1 0)
  (some (0, F, A, J)))
theorem t_d_restore (ht : ∀ k, t.1 12 k = k_ty 12 k) {n : Nat} {x1 : Int32} {r : Int32} {F' : Nat → Int32} {A' : Nat → Nat → Int32} {J' : Nat → Nat → Int64} : d_restore n F A J x1 = some (r, F', A', J') → k_run t lg (d + 1) 238 0 [(0, .ref 40960), (1, .int x1)] [] (m_h c B F A J) (some (.int r), m_h c B F' A' J') := by
  intro hD
  unfold d_restore at hD
  refine k_runB (pc' := 3) (loc' := [(0, .ref 40960), (1, .int x1)]) (st' := [.int 2, .int 0, .int x1]) 3 rfl ?_
  obtain ⟨v1, hv1, hD⟩ := Option.bind_eq_some_iff.mp hD
  refine k_runC rfl rfl rfl rfl (t_d_in (d := d) hv1) ?_
  refine k_if rfl (fun c6_1 => ?_) (fun c6_1 => ?_)
  · rw [c6_1, cond_true] at hD
    refine k_runB (pc' := 19) (loc' := [(0, .ref 40960), (1, .int x1)]) (st' := [.int 0]) 1 rfl ?_
    cases hD
    exact k_zret rfl rfl (Or.inl rfl)
  · rw [c6_1, cond_false] at hD
    refine k_runB (pc' := 14) (loc' := [(0, .ref 40960), (1, .int x1)]) (st' := [.int x1, .ref 41021]) 3 rfl ?_
    obtain ⟨v3, hv3, hD⟩ := Option.bind_eq_some_iff.mp hD
    refine k_ldZ rfl rfl hv3 ?_
    refine k_if rfl (fun c15_3 => ?_) (fun c15_3 => ?_)
    · rw [c15_3, cond_true] at hD
      refine k_runB (pc' := 22) (loc' := [(0, .ref 40960), (1, .int x1), (2, .int 0)]) (st' := []) 2 rfl ?_
      refine k_wk [0, 1, 2] (loc' := [(0, .ref 40960), (1, .int x1), (2, .int 0)]) rfl rfl ?_
      exact t_d_restore_22 ht  hD
    · rw [c15_3, cond_false] at hD
      refine k_runB (pc' := 19) (loc' := [(0, .ref 40960), (1, .int x1)]) (st' := [.int 0]) 1 rfl ?_
      cases hD
      exact k_zret rfl rfl (Or.inl rfl)
end MD
end Qz8
section Qz9
/-! the reference's methods as functions (printed by wip/dec.py) -/
section MD
variable {t : gT} {lg : Nat → Nat} {d : Nat} {c : Nat × Nat} {B : Nat → List gE} {F : Nat → Int32} {A : Nat → Nat → Int32} {J : Nat → Nat → Int64}
def d_count_189 (n : Nat) (F : Nat → Int32) (A : Nat → Nat → Int32) (J : Nat → Nat → Int64) (s0 : Int32) (s1 : Int32) : Option (Int32 × (Nat → Int32) × (Nat → Nat → Int32) × (Nat → Nat → Int64)) :=
    (m_ld (A 61) 3 2).bind fun v20 =>
    cond (g_cnd .eq v20 0)
    (some ((s0 + s1) + 0, F, A, J))
    (some ((s0 + s1) + 1, F, A, J))
theorem t_d_count_189 {n : Nat}  {F : Nat → Int32} {A : Nat → Nat → Int32} {J : Nat → Nat → Int64} {s0 : Int32} {s1 : Int32} {w : Int32 × (Nat → Int32) × (Nat → Nat → Int32) × (Nat → Nat → Int64)} : d_count_189 n F A J s0 s1 = some w → k_run t lg (d + 3) 239 189 [(0, .ref 40960)] [.int s1, .int s0] (m_h c B F A J) (some (.int w.1), m_h c B w.2.1 w.2.2.1 w.2.2.2) := by
  intro hD
  unfold d_count_189 at hD
  refine k_runB (pc' := 195) (loc' := [(0, .ref 40960)]) (st' := [.int 2, .ref 41021, .int (s0 + s1)]) 4 rfl ?_
  obtain ⟨v20, hv20, hD⟩ := Option.bind_eq_some_iff.mp hD
  refine k_ldZ rfl rfl hv20 ?_
  refine k_if rfl (fun c196_20 => ?_) (fun c196_20 => ?_)
  · rw [c196_20, cond_true] at hD
    refine k_runB (pc' := 205) (loc' := [(0, .ref 40960)]) (st' := [.int ((s0 + s1) + 0)]) 2 rfl ?_
    cases hD
    exact k_iret rfl rfl
  · rw [c196_20, cond_false] at hD
    refine k_runB (pc' := 205) (loc' := [(0, .ref 40960)]) (st' := [.int ((s0 + s1) + 1)]) 3 rfl ?_
    cases hD
    exact k_iret rfl rfl
def d_count_175 (n : Nat) (F : Nat → Int32) (A : Nat → Nat → Int32) (J : Nat → Nat → Int64) (s0 : Int32) : Option (Int32 × (Nat → Int32) × (Nat → Nat → Int32) × (Nat → Nat → Int64)) :=
    (m_ld (A 61) 3 1).bind fun v18 =>
    cond (g_cnd .eq v18 0)
    (d_count_189 n F A J s0 0)
    (d_count_189 n F A J s0 1)
theorem t_d_count_175 {n : Nat}  {F : Nat → Int32} {A : Nat → Nat → Int32} {J : Nat → Nat → Int64} {s0 : Int32} {w : Int32 × (Nat → Int32) × (Nat → Nat → Int32) × (Nat → Nat → Int64)} : d_count_175 n F A J s0 = some w → k_run t lg (d + 3) 239 175 [(0, .ref 40960)] [.int s0] (m_h c B F A J) (some (.int w.1), m_h c B w.2.1 w.2.2.1 w.2.2.2) := by
  intro hD
  unfold d_count_175 at hD
  refine k_runB (pc' := 180) (loc' := [(0, .ref 40960)]) (st' := [.int 1, .ref 41021, .int s0]) 3 rfl ?_
  obtain ⟨v18, hv18, hD⟩ := Option.bind_eq_some_iff.mp hD
  refine k_ldZ rfl rfl hv18 ?_
  refine k_if rfl (fun c181_18 => ?_) (fun c181_18 => ?_)
  · rw [c181_18, cond_true] at hD
    refine k_runB (pc' := 189) (loc' := [(0, .ref 40960)]) (st' := [.int 0, .int s0]) 1 rfl ?_
    refine k_wk [0] (loc' := [(0, .ref 40960)]) rfl rfl ?_
    exact t_d_count_189  hD
  · rw [c181_18, cond_false] at hD
    refine k_runB (pc' := 189) (loc' := [(0, .ref 40960)]) (st' := [.int 1, .int s0]) 2 rfl ?_
    refine k_wk [0] (loc' := [(0, .ref 40960)]) rfl rfl ?_
    exact t_d_count_189  hD
/-- SleepWorkModel.count(I)I -/
def d_count (n : Nat) (F : Nat → Int32) (A : Nat → Nat → Int32) (J : Nat → Nat → Int64) (x1 : Int32) : Option (Int32 × (Nat → Int32) × (Nat → Nat → Int32) × (Nat → Nat → Int64)) :=
  cond (decide (x1 = 0))
  ((m_ld (A 11) 2 (F 18)).bind fun v2 =>
  some (v2, F, A, J))
  (cond (decide (x1 = 1))
  ((m_ld (A 12) 2 (F 18)).bind fun v3 =>
  some (v3, F, A, J))
  (cond (decide (x1 = 2))
  ((m_ld (A 17) 2 (F 18)).bind fun v4 =>
  some (v4, F, A, J))
  (cond (decide (x1 = 3))
  ((d_tasksNow F A J).bind fun v5 =>
  some (v5, F, A, J))
  (cond (decide (x1 = 4))
  ((d_menNow F A J).bind fun v6 =>
  some (v6, F, A, J))
  (cond (decide (x1 = 5))
  ((m_ld (A 41) 2 (F 18)).bind fun v7 =>
  some (v7, F, A, J))
  (cond (decide (x1 = 6))
  ((m_ld (A 47) 100 79).bind fun v8 =>
  some (v8, F, A, J))
  (cond (decide (x1 = 7))
  ((m_ld (A 47) 100 78).bind fun v9 =>
  (d_bits n F A J v9).bind fun v10 =>
  some (v10, F, A, J))
  (cond (decide (x1 = 8))
  ((d_takes n F A J).bind fun (_, F12, A13, J14) =>
  (d_worthNow n F12 A13 J14).bind fun v15 =>
  some (v15, F12, A13, J14))
  (cond (decide (x1 = 9))
  (some (F 2, F, A, J))
  (cond (decide (x1 = 10))
  (some (F 74, F, A, J))
  (cond (decide (x1 = 11))
  (some (F 77, F, A, J))
  (cond (decide (x1 = 12))
  ((m_ld (A 61) 3 0).bind fun v16 =>
  cond (g_cnd .eq v16 0)
  (d_count_175 n F A J 0)
  (d_count_175 n F A J 1))
  (some ((-1), F, A, J))))))))))))))
theorem t_d_count {n : Nat} {x1 : Int32} {r : Int32} {F' : Nat → Int32} {A' : Nat → Nat → Int32} {J' : Nat → Nat → Int64} : d_count n F A J x1 = some (r, F', A', J') → k_run t lg (d + 3) 239 0 [(0, .ref 40960), (1, .int x1)] [] (m_h c B F A J) (some (.int r), m_h c B F' A' J') := by
  intro hD
  unfold d_count at hD
  refine k_runB (pc' := 1) (loc' := [(0, .ref 40960), (1, .int x1)]) (st' := [.int x1]) 1 rfl ?_
  cases c1_0_0 : decide (x1 = 0) with
  | true =>
    rw [c1_0_0, cond_true] at hD
    refine k_tab (tgt := 68) rfl (by rw [of_decide_eq_true c1_0_0]; decide) ?_
    refine k_runB (pc' := 76) (loc' := [(0, .ref 40960), (1, .int x1)]) (st' := [.int (F 18), .ref 40971]) 4 rfl ?_
    obtain ⟨v2, hv2, hD⟩ := Option.bind_eq_some_iff.mp hD
    refine k_ldI rfl rfl hv2 ?_
    cases hD
    exact k_iret rfl rfl
  | false =>
    rw [c1_0_0, cond_false] at hD
    cases c1_0_1 : decide (x1 = 1) with
    | true =>
      rw [c1_0_1, cond_true] at hD
      refine k_tab (tgt := 78) rfl (by rw [of_decide_eq_true c1_0_1]; decide) ?_
      refine k_runB (pc' := 86) (loc' := [(0, .ref 40960), (1, .int x1)]) (st' := [.int (F 18), .ref 40972]) 4 rfl ?_
      obtain ⟨v3, hv3, hD⟩ := Option.bind_eq_some_iff.mp hD
      refine k_ldI rfl rfl hv3 ?_
      cases hD
      exact k_iret rfl rfl
    | false =>
      rw [c1_0_1, cond_false] at hD
      cases c1_0_2 : decide (x1 = 2) with
      | true =>
        rw [c1_0_2, cond_true] at hD
        refine k_tab (tgt := 88) rfl (by rw [of_decide_eq_true c1_0_2]; decide) ?_
        refine k_runB (pc' := 96) (loc' := [(0, .ref 40960), (1, .int x1)]) (st' := [.int (F 18), .ref 40977]) 4 rfl ?_
        obtain ⟨v4, hv4, hD⟩ := Option.bind_eq_some_iff.mp hD
        refine k_ldI rfl rfl hv4 ?_
        cases hD
        exact k_iret rfl rfl
      | false =>
        rw [c1_0_2, cond_false] at hD
        cases c1_0_3 : decide (x1 = 3) with
        | true =>
          rw [c1_0_3, cond_true] at hD
          refine k_tab (tgt := 98) rfl (by rw [of_decide_eq_true c1_0_3]; decide) ?_
          refine k_runB (pc' := 99) (loc' := [(0, .ref 40960), (1, .int x1)]) (st' := [.ref 40960]) 1 rfl ?_
          obtain ⟨v5, hv5, hD⟩ := Option.bind_eq_some_iff.mp hD
          refine k_runC rfl rfl rfl rfl (t_d_tasksNow (d := d + 2) hv5) ?_
          cases hD
          exact k_iret rfl rfl
        | false =>
          rw [c1_0_3, cond_false] at hD
          cases c1_0_4 : decide (x1 = 4) with
          | true =>
            rw [c1_0_4, cond_true] at hD
            refine k_tab (tgt := 103) rfl (by rw [of_decide_eq_true c1_0_4]; decide) ?_
            refine k_runB (pc' := 104) (loc' := [(0, .ref 40960), (1, .int x1)]) (st' := [.ref 40960]) 1 rfl ?_
            obtain ⟨v6, hv6, hD⟩ := Option.bind_eq_some_iff.mp hD
            refine k_runC rfl rfl rfl rfl (t_d_menNow (d := d + 2) hv6) ?_
            cases hD
            exact k_iret rfl rfl
          | false =>
            rw [c1_0_4, cond_false] at hD
            cases c1_0_5 : decide (x1 = 5) with
            | true =>
              rw [c1_0_5, cond_true] at hD
              refine k_tab (tgt := 108) rfl (by rw [of_decide_eq_true c1_0_5]; decide) ?_
              refine k_runB (pc' := 116) (loc' := [(0, .ref 40960), (1, .int x1)]) (st' := [.int (F 18), .ref 41001]) 4 rfl ?_
              obtain ⟨v7, hv7, hD⟩ := Option.bind_eq_some_iff.mp hD
              refine k_ldI rfl rfl hv7 ?_
              cases hD
              exact k_iret rfl rfl
            | false =>
              rw [c1_0_5, cond_false] at hD
              cases c1_0_6 : decide (x1 = 6) with
              | true =>
                rw [c1_0_6, cond_true] at hD
                refine k_tab (tgt := 118) rfl (by rw [of_decide_eq_true c1_0_6]; decide) ?_
                refine k_runB (pc' := 124) (loc' := [(0, .ref 40960), (1, .int x1)]) (st' := [.int 79, .ref 41007]) 3 rfl ?_
                obtain ⟨v8, hv8, hD⟩ := Option.bind_eq_some_iff.mp hD
                refine k_ldI rfl rfl hv8 ?_
                cases hD
                exact k_iret rfl rfl
              | false =>
                rw [c1_0_6, cond_false] at hD
                cases c1_0_7 : decide (x1 = 7) with
                | true =>
                  rw [c1_0_7, cond_true] at hD
                  refine k_tab (tgt := 126) rfl (by rw [of_decide_eq_true c1_0_7]; decide) ?_
                  refine k_runB (pc' := 132) (loc' := [(0, .ref 40960), (1, .int x1)]) (st' := [.int 78, .ref 41007]) 3 rfl ?_
                  obtain ⟨v9, hv9, hD⟩ := Option.bind_eq_some_iff.mp hD
                  refine k_ldI rfl rfl hv9 ?_
                  obtain ⟨v10, hv10, hD⟩ := Option.bind_eq_some_iff.mp hD
                  refine k_runC rfl rfl rfl rfl (t_d_bits (d := d + 2) hv10) ?_
                  cases hD
                  exact k_iret rfl rfl
                | false =>
                  rw [c1_0_7, cond_false] at hD
                  cases c1_0_8 : decide (x1 = 8) with
                  | true =>
                    rw [c1_0_8, cond_true] at hD
                    refine k_tab (tgt := 137) rfl (by rw [of_decide_eq_true c1_0_8]; decide) ?_
                    refine k_runB (pc' := 138) (loc' := [(0, .ref 40960), (1, .int x1)]) (st' := [.ref 40960]) 1 rfl ?_
                    obtain ⟨⟨v11, F12, A13, J14⟩, hv11, hD⟩ := Option.bind_eq_some_iff.mp hD
                    dsimp only at hD
                    refine k_runC rfl rfl rfl rfl (t_d_takes (d := d + 2) hv11) ?_
                    refine k_runB (pc' := 142) (loc' := [(0, .ref 40960), (1, .int x1)]) (st' := [.ref 40960]) 1 rfl ?_
                    obtain ⟨v15, hv15, hD⟩ := Option.bind_eq_some_iff.mp hD
                    refine k_runC rfl rfl rfl rfl (t_d_worthNow (d := d) hv15) ?_
                    cases hD
                    exact k_iret rfl rfl
                  | false =>
                    rw [c1_0_8, cond_false] at hD
                    cases c1_0_9 : decide (x1 = 9) with
                    | true =>
                      rw [c1_0_9, cond_true] at hD
                      refine k_tab (tgt := 146) rfl (by rw [of_decide_eq_true c1_0_9]; decide) ?_
                      refine k_runB (pc' := 150) (loc' := [(0, .ref 40960), (1, .int x1)]) (st' := [.int (F 2)]) 2 rfl ?_
                      cases hD
                      exact k_iret rfl rfl
                    | false =>
                      rw [c1_0_9, cond_false] at hD
                      cases c1_0_10 : decide (x1 = 10) with
                      | true =>
                        rw [c1_0_10, cond_true] at hD
                        refine k_tab (tgt := 151) rfl (by rw [of_decide_eq_true c1_0_10]; decide) ?_
                        refine k_runB (pc' := 155) (loc' := [(0, .ref 40960), (1, .int x1)]) (st' := [.int (F 74)]) 2 rfl ?_
                        cases hD
                        exact k_iret rfl rfl
                      | false =>
                        rw [c1_0_10, cond_false] at hD
                        cases c1_0_11 : decide (x1 = 11) with
                        | true =>
                          rw [c1_0_11, cond_true] at hD
                          refine k_tab (tgt := 156) rfl (by rw [of_decide_eq_true c1_0_11]; decide) ?_
                          refine k_runB (pc' := 160) (loc' := [(0, .ref 40960), (1, .int x1)]) (st' := [.int (F 77)]) 2 rfl ?_
                          cases hD
                          exact k_iret rfl rfl
                        | false =>
                          rw [c1_0_11, cond_false] at hD
                          cases c1_0_12 : decide (x1 = 12) with
                          | true =>
                            rw [c1_0_12, cond_true] at hD
                            refine k_tab (tgt := 161) rfl (by rw [of_decide_eq_true c1_0_12]; decide) ?_
                            refine k_runB (pc' := 166) (loc' := [(0, .ref 40960), (1, .int x1)]) (st' := [.int 0, .ref 41021]) 3 rfl ?_
                            obtain ⟨v16, hv16, hD⟩ := Option.bind_eq_some_iff.mp hD
                            refine k_ldZ rfl rfl hv16 ?_
                            refine k_if rfl (fun c167_16 => ?_) (fun c167_16 => ?_)
                            · rw [c167_16, cond_true] at hD
                              refine k_runB (pc' := 175) (loc' := [(0, .ref 40960), (1, .int x1)]) (st' := [.int 0]) 1 rfl ?_
                              refine k_wk [0] (loc' := [(0, .ref 40960)]) rfl rfl ?_
                              exact t_d_count_175  hD
                            · rw [c167_16, cond_false] at hD
                              refine k_runB (pc' := 175) (loc' := [(0, .ref 40960), (1, .int x1)]) (st' := [.int 1]) 2 rfl ?_
                              refine k_wk [0] (loc' := [(0, .ref 40960)]) rfl rfl ?_
                              exact t_d_count_175  hD
                          | false =>
                            rw [c1_0_12, cond_false] at hD
                            refine k_tab (tgt := 206) rfl (by rw [if_pos (m_out (lo := 0) (hi := 12) [0, 1, 2, 3, 4, 5, 6, 7, 8, 9, 10, 11, 12] (by decide) (by decide) (List.forall_mem_cons.mpr ⟨of_decide_eq_false c1_0_0, List.forall_mem_cons.mpr ⟨of_decide_eq_false c1_0_1, List.forall_mem_cons.mpr ⟨of_decide_eq_false c1_0_2, List.forall_mem_cons.mpr ⟨of_decide_eq_false c1_0_3, List.forall_mem_cons.mpr ⟨of_decide_eq_false c1_0_4, List.forall_mem_cons.mpr ⟨of_decide_eq_false c1_0_5, List.forall_mem_cons.mpr ⟨of_decide_eq_false c1_0_6, List.forall_mem_cons.mpr ⟨of_decide_eq_false c1_0_7, List.forall_mem_cons.mpr ⟨of_decide_eq_false c1_0_8, List.forall_mem_cons.mpr ⟨of_decide_eq_false c1_0_9, List.forall_mem_cons.mpr ⟨of_decide_eq_false c1_0_10, List.forall_mem_cons.mpr ⟨of_decide_eq_false c1_0_11, List.forall_mem_cons.mpr ⟨of_decide_eq_false c1_0_12, fun _ h => absurd h List.not_mem_nil⟩⟩⟩⟩⟩⟩⟩⟩⟩⟩⟩⟩⟩))]; rfl) ?_
                            refine k_runB (pc' := 207) (loc' := [(0, .ref 40960), (1, .int x1)]) (st' := [.int ((-1))]) 1 rfl ?_
                            cases hD
                            exact k_iret rfl rfl
/-- SleepWorkModel.feed(IIIII)I -/
def d_feed (n : Nat) (F : Nat → Int32) (A : Nat → Nat → Int32) (J : Nat → Nat → Int64) (x1 : Int32) (x2 : Int32) (x3 : Int32) (x4 : Int32) (x5 : Int32) : Option (Int32 × (Nat → Int32) × (Nat → Nat → Int32) × (Nat → Nat → Int64)) :=
  cond (g_cnd .le ((F 2) + 20) 2000)
  ((d_put n F A J x1).bind fun (_, F3, A4, J5) =>
  (d_put n F3 A4 J5 x2).bind fun (_, F7, A8, J9) =>
  (d_put n F7 A8 J9 x3).bind fun (_, F11, A12, J13) =>
  (d_put n F11 A12 J13 x4).bind fun (_, F15, A16, J17) =>
  (d_put n F15 A16 J17 x5).bind fun (_, F19, A20, J21) =>
  some (F19 2, F19, A20, J21))
  (some ((-1), F, A, J))
theorem t_d_feed (ht : ∀ k, t.1 12 k = k_ty 12 k) {n : Nat} {x1 : Int32} {x2 : Int32} {x3 : Int32} {x4 : Int32} {x5 : Int32} {r : Int32} {F' : Nat → Int32} {A' : Nat → Nat → Int32} {J' : Nat → Nat → Int64} : d_feed n F A J x1 x2 x3 x4 x5 = some (r, F', A', J') → k_run t lg (d + 1) 139 0 [(0, .ref 40960), (1, .int x1), (2, .int x2), (3, .int x3), (4, .int x4), (5, .int x5)] [] (m_h c B F A J) (some (.int r), m_h c B F' A' J') := by
  intro hD
  unfold d_feed at hD
  refine k_runB (pc' := 10) (loc' := [(0, .ref 40960), (1, .int x1), (2, .int x2), (3, .int x3), (4, .int x4), (5, .int x5)]) (st' := [.int 2000, .int ((F 2) + 20)]) 5 rfl ?_
  refine k_ic rfl (fun c10_0 => ?_) (fun c10_0 => ?_)
  · rw [c10_0, cond_true] at hD
    refine k_runB (pc' := 17) (loc' := [(0, .ref 40960), (1, .int x1), (2, .int x2), (3, .int x3), (4, .int x4), (5, .int x5)]) (st' := [.int x1, .ref 40960]) 2 rfl ?_
    obtain ⟨⟨v2, F3, A4, J5⟩, hv2, hD⟩ := Option.bind_eq_some_iff.mp hD
    dsimp only at hD
    refine k_runC rfl rfl rfl rfl (t_d_put (d := d) ht hv2) ?_
    refine k_runB (pc' := 22) (loc' := [(0, .ref 40960), (1, .int x1), (2, .int x2), (3, .int x3), (4, .int x4), (5, .int x5)]) (st' := [.int x2, .ref 40960]) 2 rfl ?_
    obtain ⟨⟨v6, F7, A8, J9⟩, hv6, hD⟩ := Option.bind_eq_some_iff.mp hD
    dsimp only at hD
    refine k_runC rfl rfl rfl rfl (t_d_put (d := d) ht hv6) ?_
    refine k_runB (pc' := 27) (loc' := [(0, .ref 40960), (1, .int x1), (2, .int x2), (3, .int x3), (4, .int x4), (5, .int x5)]) (st' := [.int x3, .ref 40960]) 2 rfl ?_
    obtain ⟨⟨v10, F11, A12, J13⟩, hv10, hD⟩ := Option.bind_eq_some_iff.mp hD
    dsimp only at hD
    refine k_runC rfl rfl rfl rfl (t_d_put (d := d) ht hv10) ?_
    refine k_runB (pc' := 33) (loc' := [(0, .ref 40960), (1, .int x1), (2, .int x2), (3, .int x3), (4, .int x4), (5, .int x5)]) (st' := [.int x4, .ref 40960]) 2 rfl ?_
    obtain ⟨⟨v14, F15, A16, J17⟩, hv14, hD⟩ := Option.bind_eq_some_iff.mp hD
    dsimp only at hD
    refine k_runC rfl rfl rfl rfl (t_d_put (d := d) ht hv14) ?_
    refine k_runB (pc' := 39) (loc' := [(0, .ref 40960), (1, .int x1), (2, .int x2), (3, .int x3), (4, .int x4), (5, .int x5)]) (st' := [.int x5, .ref 40960]) 2 rfl ?_
    obtain ⟨⟨v18, F19, A20, J21⟩, hv18, hD⟩ := Option.bind_eq_some_iff.mp hD
    dsimp only at hD
    refine k_runC rfl rfl rfl rfl (t_d_put (d := d) ht hv18) ?_
    refine k_runB (pc' := 46) (loc' := [(0, .ref 40960), (1, .int x1), (2, .int x2), (3, .int x3), (4, .int x4), (5, .int x5)]) (st' := [.int (F19 2)]) 2 rfl ?_
    cases hD
    exact k_iret rfl rfl
  · rw [c10_0, cond_false] at hD
    refine k_runB (pc' := 14) (loc' := [(0, .ref 40960), (1, .int x1), (2, .int x2), (3, .int x3), (4, .int x4), (5, .int x5)]) (st' := [.int ((-1))]) 1 rfl ?_
    cases hD
    exact k_iret rfl rfl
def d_cut_291 (K7 : (Nat → Int32) → (Nat → Nat → Int32) → (Nat → Nat → Int64) → Int32 → Option (Unit × (Nat → Int32) × (Nat → Nat → Int32) × (Nat → Nat → Int64))) (n : Nat) (F : Nat → Int32) (A : Nat → Nat → Int32) (J : Nat → Nat → Int64) (x1 : Int32) : Option (Unit × (Nat → Int32) × (Nat → Nat → Int32) × (Nat → Nat → Int64)) :=
    K7 F A J x1
theorem t_d_cut_291 (ht : ∀ k, t.1 12 k = k_ty 12 k) {n : Nat} {K7 : (Nat → Int32) → (Nat → Nat → Int32) → (Nat → Nat → Int64) → Int32 → Option (Unit × (Nat → Int32) × (Nat → Nat → Int32) × (Nat → Nat → Int64))} (hK7 : ∀ (F : Nat → Int32) (A : Nat → Nat → Int32) (J : Nat → Nat → Int64) (x1 : Int32) (w : Unit × (Nat → Int32) × (Nat → Nat → Int32) × (Nat → Nat → Int64)), K7 F A J x1 = some w → k_run t lg (d + 2) 148 7 [(0, .ref 40960), (1, .int x1)] [] (m_h c B F A J) (none, m_h c B w.2.1 w.2.2.1 w.2.2.2)) {F : Nat → Int32} {A : Nat → Nat → Int32} {J : Nat → Nat → Int64} {x1 : Int32} {w : Unit × (Nat → Int32) × (Nat → Nat → Int32) × (Nat → Nat → Int64)} : d_cut_291 K7 n F A J x1 = some w → k_run t lg (d + 2) 148 291 [(0, .ref 40960), (1, .int x1)] [] (m_h c B F A J) (none, m_h c B w.2.1 w.2.2.1 w.2.2.2) := by
  intro hD
  unfold d_cut_291 at hD
  refine k_runB (pc' := 7) (loc' := [(0, .ref 40960), (1, .int x1)]) (st' := []) 1 rfl ?_
  refine k_wk [0, 1] (loc' := [(0, .ref 40960), (1, .int x1)]) rfl rfl ?_
  exact hK7 _ _ _ _ _ hD
def d_cut_261 (K7 : (Nat → Int32) → (Nat → Nat → Int32) → (Nat → Nat → Int64) → Int32 → Option (Unit × (Nat → Int32) × (Nat → Nat → Int32) × (Nat → Nat → Int64))) (n : Nat) (F : Nat → Int32) (A : Nat → Nat → Int32) (J : Nat → Nat → Int64) (x1 : Int32) (x3 : Int32) (x4 : Int32) (s1 : Int32) : Option (Unit × (Nat → Int32) × (Nat → Nat → Int32) × (Nat → Nat → Int64)) :=
    (d_token F A J s1 x1 x4 0).bind fun (_, F36, A37, J38) =>
    d_cut_291 K7 n F36 A37 J38 (x1 + x3)
theorem t_d_cut_261 (ht : ∀ k, t.1 12 k = k_ty 12 k) {n : Nat} {K7 : (Nat → Int32) → (Nat → Nat → Int32) → (Nat → Nat → Int64) → Int32 → Option (Unit × (Nat → Int32) × (Nat → Nat → Int32) × (Nat → Nat → Int64))} (hK7 : ∀ (F : Nat → Int32) (A : Nat → Nat → Int32) (J : Nat → Nat → Int64) (x1 : Int32) (w : Unit × (Nat → Int32) × (Nat → Nat → Int32) × (Nat → Nat → Int64)), K7 F A J x1 = some w → k_run t lg (d + 2) 148 7 [(0, .ref 40960), (1, .int x1)] [] (m_h c B F A J) (none, m_h c B w.2.1 w.2.2.1 w.2.2.2)) {F : Nat → Int32} {A : Nat → Nat → Int32} {J : Nat → Nat → Int64} {x1 : Int32} {x3 : Int32} {x4 : Int32} {s1 : Int32} {w : Unit × (Nat → Int32) × (Nat → Nat → Int32) × (Nat → Nat → Int64)} : d_cut_261 K7 n F A J x1 x3 x4 s1 = some w → k_run t lg (d + 2) 148 261 [(0, .ref 40960), (1, .int x1), (3, .int x3), (4, .int x4)] [.int s1, .ref 40960] (m_h c B F A J) (none, m_h c B w.2.1 w.2.2.1 w.2.2.2) := by
  intro hD
  unfold d_cut_261 at hD
  refine k_runB (pc' := 265) (loc' := [(0, .ref 40960), (1, .int x1), (3, .int x3), (4, .int x4)]) (st' := [.long (0), .int x4, .int x1, .int s1, .ref 40960]) 3 rfl ?_
  obtain ⟨⟨v35, F36, A37, J38⟩, hv35, hD⟩ := Option.bind_eq_some_iff.mp hD
  dsimp only at hD
  refine k_runC rfl rfl rfl rfl (t_d_token (d := d + 1) ht hv35) ?_
  refine k_runB (pc' := 291) (loc' := [(0, .ref 40960), (1, .int (x1 + x3)), (3, .int x3), (4, .int x4)]) (st' := []) 5 rfl ?_
  refine k_wk [0, 1] (loc' := [(0, .ref 40960), (1, .int (x1 + x3))]) rfl rfl ?_
  exact t_d_cut_291 ht hK7 hD
def d_cut_244 (K7 : (Nat → Int32) → (Nat → Nat → Int32) → (Nat → Nat → Int64) → Int32 → Option (Unit × (Nat → Int32) × (Nat → Nat → Int32) × (Nat → Nat → Int64))) (K208 : (Nat → Int32) → (Nat → Nat → Int32) → (Nat → Nat → Int64) → Int32 → Int32 → Int32 → Option (Unit × (Nat → Int32) × (Nat → Nat → Int32) × (Nat → Nat → Int64))) (n : Nat) (F : Nat → Int32) (A : Nat → Nat → Int32) (J : Nat → Nat → Int64) (x1 : Int32) (x3 : Int32) (x4 : Int32) : Option (Unit × (Nat → Int32) × (Nat → Nat → Int32) × (Nat → Nat → Int64)) :=
    K208 F A J x1 (x3 + 1) x4
theorem t_d_cut_244 (ht : ∀ k, t.1 12 k = k_ty 12 k) {n : Nat} {K7 : (Nat → Int32) → (Nat → Nat → Int32) → (Nat → Nat → Int64) → Int32 → Option (Unit × (Nat → Int32) × (Nat → Nat → Int32) × (Nat → Nat → Int64))} {K208 : (Nat → Int32) → (Nat → Nat → Int32) → (Nat → Nat → Int64) → Int32 → Int32 → Int32 → Option (Unit × (Nat → Int32) × (Nat → Nat → Int32) × (Nat → Nat → Int64))} (hK7 : ∀ (F : Nat → Int32) (A : Nat → Nat → Int32) (J : Nat → Nat → Int64) (x1 : Int32) (w : Unit × (Nat → Int32) × (Nat → Nat → Int32) × (Nat → Nat → Int64)), K7 F A J x1 = some w → k_run t lg (d + 2) 148 7 [(0, .ref 40960), (1, .int x1)] [] (m_h c B F A J) (none, m_h c B w.2.1 w.2.2.1 w.2.2.2)) (hK208 : ∀ (F : Nat → Int32) (A : Nat → Nat → Int32) (J : Nat → Nat → Int64) (x1 : Int32) (x3 : Int32) (x4 : Int32) (w : Unit × (Nat → Int32) × (Nat → Nat → Int32) × (Nat → Nat → Int64)), K208 F A J x1 x3 x4 = some w → k_run t lg (d + 2) 148 208 [(0, .ref 40960), (1, .int x1), (3, .int x3), (4, .int x4)] [] (m_h c B F A J) (none, m_h c B w.2.1 w.2.2.1 w.2.2.2)) {F : Nat → Int32} {A : Nat → Nat → Int32} {J : Nat → Nat → Int64} {x1 : Int32} {x3 : Int32} {x4 : Int32} {w : Unit × (Nat → Int32) × (Nat → Nat → Int32) × (Nat → Nat → Int64)} : d_cut_244 K7 K208 n F A J x1 x3 x4 = some w → k_run t lg (d + 2) 148 244 [(0, .ref 40960), (1, .int x1), (3, .int x3), (4, .int x4)] [] (m_h c B F A J) (none, m_h c B w.2.1 w.2.2.1 w.2.2.2) := by
  intro hD
  unfold d_cut_244 at hD
  refine k_runB (pc' := 208) (loc' := [(0, .ref 40960), (1, .int x1), (3, .int (x3 + 1)), (4, .int x4)]) (st' := []) 2 rfl ?_
  refine k_wk [0, 1, 3, 4] (loc' := [(0, .ref 40960), (1, .int x1), (3, .int (x3 + 1)), (4, .int x4)]) rfl rfl ?_
  exact hK208 _ _ _ _ _ _ _ hD
def d_cut_208 (K7 : (Nat → Int32) → (Nat → Nat → Int32) → (Nat → Nat → Int64) → Int32 → Option (Unit × (Nat → Int32) × (Nat → Nat → Int32) × (Nat → Nat → Int64))) : Nat → (Nat → Int32) → (Nat → Nat → Int32) → (Nat → Nat → Int64) → Int32 → Int32 → Int32 → Option (Unit × (Nat → Int32) × (Nat → Nat → Int32) × (Nat → Nat → Int64))
  | 0, _, _, _, _, _, _ => none
  | n + 1, F, A, J, x1, x3, x4 => (d_byteAt F A J (x1 + x3)).bind fun v22 =>
    (d_isDigit v22).bind fun v23 =>
    cond (g_cnd .eq v23 0)
    (cond (g_cnd .le x3 4)
    (d_cut_261 K7 n F A J x1 x3 x4 2)
    (d_cut_261 K7 n F A J x1 x3 x4 3))
    (cond (g_cnd .ge x3 4)
    (d_cut_244 K7 (d_cut_208 K7 n) n F A J x1 x3 x4)
    ((d_byteAt F A J (x1 + x3)).bind fun v27 =>
    d_cut_244 K7 (d_cut_208 K7 n) n F A J x1 x3 (((10 * x4) + v27) - 48)))
theorem t_d_cut_208 (ht : ∀ k, t.1 12 k = k_ty 12 k) {n : Nat} {K7 : (Nat → Int32) → (Nat → Nat → Int32) → (Nat → Nat → Int64) → Int32 → Option (Unit × (Nat → Int32) × (Nat → Nat → Int32) × (Nat → Nat → Int64))} (hK7 : ∀ (F : Nat → Int32) (A : Nat → Nat → Int32) (J : Nat → Nat → Int64) (x1 : Int32) (w : Unit × (Nat → Int32) × (Nat → Nat → Int32) × (Nat → Nat → Int64)), K7 F A J x1 = some w → k_run t lg (d + 2) 148 7 [(0, .ref 40960), (1, .int x1)] [] (m_h c B F A J) (none, m_h c B w.2.1 w.2.2.1 w.2.2.2)) {F : Nat → Int32} {A : Nat → Nat → Int32} {J : Nat → Nat → Int64} {x1 : Int32} {x3 : Int32} {x4 : Int32} {w : Unit × (Nat → Int32) × (Nat → Nat → Int32) × (Nat → Nat → Int64)} : d_cut_208 K7 n F A J x1 x3 x4 = some w → k_run t lg (d + 2) 148 208 [(0, .ref 40960), (1, .int x1), (3, .int x3), (4, .int x4)] [] (m_h c B F A J) (none, m_h c B w.2.1 w.2.2.1 w.2.2.2) := by
  induction n generalizing F A J x1 x3 x4 w with
  | zero => intro hD; cases hD
  | succ n ih =>
    intro hD
    have hK208 : ∀ (F : Nat → Int32) (A : Nat → Nat → Int32) (J : Nat → Nat → Int64) (x1 : Int32) (x3 : Int32) (x4 : Int32) (w : Unit × (Nat → Int32) × (Nat → Nat → Int32) × (Nat → Nat → Int64)), d_cut_208 K7 n F A J x1 x3 x4 = some w → k_run t lg (d + 2) 148 208 [(0, .ref 40960), (1, .int x1), (3, .int x3), (4, .int x4)] [] (m_h c B F A J) (none, m_h c B w.2.1 w.2.2.1 w.2.2.2) := fun _ _ _ _ _ _ _ h => ih h
    unfold d_cut_208 at hD
    refine k_runB (pc' := 212) (loc' := [(0, .ref 40960), (1, .int x1), (3, .int x3), (4, .int x4)]) (st' := [.int (x1 + x3), .ref 40960]) 4 rfl ?_
    obtain ⟨v22, hv22, hD⟩ := Option.bind_eq_some_iff.mp hD
    refine k_runC rfl rfl rfl rfl (t_d_byteAt (d := d + 1) hv22) ?_
    obtain ⟨v23, hv23, hD⟩ := Option.bind_eq_some_iff.mp hD
    refine k_runC rfl rfl rfl rfl (t_d_isDigit (d := d + 1) hv23) ?_
    refine k_if rfl (fun c218_23 => ?_) (fun c218_23 => ?_)
    · rw [c218_23, cond_true] at hD
      refine k_runB (pc' := 253) (loc' := [(0, .ref 40960), (1, .int x1), (3, .int x3), (4, .int x4)]) (st' := [.int 4, .int x3, .ref 40960]) 3 rfl ?_
      refine k_ic rfl (fun c253_24 => ?_) (fun c253_24 => ?_)
      · rw [c253_24, cond_true] at hD
        refine k_runB (pc' := 261) (loc' := [(0, .ref 40960), (1, .int x1), (3, .int x3), (4, .int x4)]) (st' := [.int 2, .ref 40960]) 1 rfl ?_
        refine k_wk [0, 1, 3, 4] (loc' := [(0, .ref 40960), (1, .int x1), (3, .int x3), (4, .int x4)]) rfl rfl ?_
        exact t_d_cut_261 ht hK7 hD
      · rw [c253_24, cond_false] at hD
        refine k_runB (pc' := 261) (loc' := [(0, .ref 40960), (1, .int x1), (3, .int x3), (4, .int x4)]) (st' := [.int 3, .ref 40960]) 2 rfl ?_
        refine k_wk [0, 1, 3, 4] (loc' := [(0, .ref 40960), (1, .int x1), (3, .int x3), (4, .int x4)]) rfl rfl ?_
        exact t_d_cut_261 ht hK7 hD
    · rw [c218_23, cond_false] at hD
      refine k_runB (pc' := 223) (loc' := [(0, .ref 40960), (1, .int x1), (3, .int x3), (4, .int x4)]) (st' := [.int 4, .int x3]) 2 rfl ?_
      refine k_ic rfl (fun c223_25 => ?_) (fun c223_25 => ?_)
      · rw [c223_25, cond_true] at hD
        refine k_wk [0, 1, 3, 4] (loc' := [(0, .ref 40960), (1, .int x1), (3, .int x3), (4, .int x4)]) rfl rfl ?_
        exact t_d_cut_244 ht hK7 hK208 hD
      · rw [c223_25, cond_false] at hD
        refine k_runB (pc' := 235) (loc' := [(0, .ref 40960), (1, .int x1), (3, .int x3), (4, .int x4)]) (st' := [.int (x1 + x3), .ref 40960, .int (10 * x4)]) 7 rfl ?_
        obtain ⟨v27, hv27, hD⟩ := Option.bind_eq_some_iff.mp hD
        refine k_runC rfl rfl rfl rfl (t_d_byteAt (d := d + 1) hv27) ?_
        refine k_runB (pc' := 244) (loc' := [(0, .ref 40960), (1, .int x1), (3, .int x3), (4, .int (((10 * x4) + v27) - 48))]) (st' := []) 4 rfl ?_
        refine k_wk [0, 1, 3, 4] (loc' := [(0, .ref 40960), (1, .int x1), (3, .int x3), (4, .int (((10 * x4) + v27) - 48))]) rfl rfl ?_
        exact t_d_cut_244 ht hK7 hK208 hD
def d_cut_179 (K7 : (Nat → Int32) → (Nat → Nat → Int32) → (Nat → Nat → Int64) → Int32 → Option (Unit × (Nat → Int32) × (Nat → Nat → Int32) × (Nat → Nat → Int64))) (n : Nat) (F : Nat → Int32) (A : Nat → Nat → Int32) (J : Nat → Nat → Int64) (x1 : Int32) (x3 : Int32) (x4 : Int64) (x6 : Int32) : Option (Unit × (Nat → Int32) × (Nat → Nat → Int32) × (Nat → Nat → Int64)) :=
    (d_token F A J x6 x1 0 x4).bind fun (_, F41, A42, J43) =>
    d_cut_291 K7 n F41 A42 J43 (x1 + x3)
theorem t_d_cut_179 (ht : ∀ k, t.1 12 k = k_ty 12 k) {n : Nat} {K7 : (Nat → Int32) → (Nat → Nat → Int32) → (Nat → Nat → Int64) → Int32 → Option (Unit × (Nat → Int32) × (Nat → Nat → Int32) × (Nat → Nat → Int64))} (hK7 : ∀ (F : Nat → Int32) (A : Nat → Nat → Int32) (J : Nat → Nat → Int64) (x1 : Int32) (w : Unit × (Nat → Int32) × (Nat → Nat → Int32) × (Nat → Nat → Int64)), K7 F A J x1 = some w → k_run t lg (d + 2) 148 7 [(0, .ref 40960), (1, .int x1)] [] (m_h c B F A J) (none, m_h c B w.2.1 w.2.2.1 w.2.2.2)) {F : Nat → Int32} {A : Nat → Nat → Int32} {J : Nat → Nat → Int64} {x1 : Int32} {x3 : Int32} {x4 : Int64} {x6 : Int32} {w : Unit × (Nat → Int32) × (Nat → Nat → Int32) × (Nat → Nat → Int64)} : d_cut_179 K7 n F A J x1 x3 x4 x6 = some w → k_run t lg (d + 2) 148 179 [(0, .ref 40960), (1, .int x1), (3, .int x3), (4, .long (x4)), (6, .int x6)] [] (m_h c B F A J) (none, m_h c B w.2.1 w.2.2.1 w.2.2.2) := by
  intro hD
  unfold d_cut_179 at hD
  refine k_runB (pc' := 186) (loc' := [(0, .ref 40960), (1, .int x1), (3, .int x3), (4, .long (x4)), (6, .int x6)]) (st' := [.long (x4), .int 0, .int x1, .int x6, .ref 40960]) 5 rfl ?_
  obtain ⟨⟨v40, F41, A42, J43⟩, hv40, hD⟩ := Option.bind_eq_some_iff.mp hD
  dsimp only at hD
  refine k_runC rfl rfl rfl rfl (t_d_token (d := d + 1) ht hv40) ?_
  refine k_runB (pc' := 291) (loc' := [(0, .ref 40960), (1, .int (x1 + x3)), (3, .int x3), (4, .long (x4)), (6, .int x6)]) (st' := []) 5 rfl ?_
  refine k_wk [0, 1] (loc' := [(0, .ref 40960), (1, .int (x1 + x3))]) rfl rfl ?_
  exact t_d_cut_291 ht hK7 hD
def d_cut_173 (K7 : (Nat → Int32) → (Nat → Nat → Int32) → (Nat → Nat → Int64) → Int32 → Option (Unit × (Nat → Int32) × (Nat → Nat → Int32) × (Nat → Nat → Int64))) (K146 : (Nat → Int32) → (Nat → Nat → Int32) → (Nat → Nat → Int64) → Int32 → Int32 → Int64 → Int32 → Int32 → Option (Unit × (Nat → Int32) × (Nat → Nat → Int32) × (Nat → Nat → Int64))) (n : Nat) (F : Nat → Int32) (A : Nat → Nat → Int32) (J : Nat → Nat → Int64) (x1 : Int32) (x3 : Int32) (x4 : Int64) (x6 : Int32) (x7 : Int32) : Option (Unit × (Nat → Int32) × (Nat → Nat → Int32) × (Nat → Nat → Int64)) :=
    K146 F A J x1 x3 x4 x6 (x7 + 1)
theorem t_d_cut_173 (ht : ∀ k, t.1 12 k = k_ty 12 k) {n : Nat} {K7 : (Nat → Int32) → (Nat → Nat → Int32) → (Nat → Nat → Int64) → Int32 → Option (Unit × (Nat → Int32) × (Nat → Nat → Int32) × (Nat → Nat → Int64))} {K146 : (Nat → Int32) → (Nat → Nat → Int32) → (Nat → Nat → Int64) → Int32 → Int32 → Int64 → Int32 → Int32 → Option (Unit × (Nat → Int32) × (Nat → Nat → Int32) × (Nat → Nat → Int64))} (hK7 : ∀ (F : Nat → Int32) (A : Nat → Nat → Int32) (J : Nat → Nat → Int64) (x1 : Int32) (w : Unit × (Nat → Int32) × (Nat → Nat → Int32) × (Nat → Nat → Int64)), K7 F A J x1 = some w → k_run t lg (d + 2) 148 7 [(0, .ref 40960), (1, .int x1)] [] (m_h c B F A J) (none, m_h c B w.2.1 w.2.2.1 w.2.2.2)) (hK146 : ∀ (F : Nat → Int32) (A : Nat → Nat → Int32) (J : Nat → Nat → Int64) (x1 : Int32) (x3 : Int32) (x4 : Int64) (x6 : Int32) (x7 : Int32) (w : Unit × (Nat → Int32) × (Nat → Nat → Int32) × (Nat → Nat → Int64)), K146 F A J x1 x3 x4 x6 x7 = some w → k_run t lg (d + 2) 148 146 [(0, .ref 40960), (1, .int x1), (3, .int x3), (4, .long (x4)), (6, .int x6), (7, .int x7)] [] (m_h c B F A J) (none, m_h c B w.2.1 w.2.2.1 w.2.2.2)) {F : Nat → Int32} {A : Nat → Nat → Int32} {J : Nat → Nat → Int64} {x1 : Int32} {x3 : Int32} {x4 : Int64} {x6 : Int32} {x7 : Int32} {w : Unit × (Nat → Int32) × (Nat → Nat → Int32) × (Nat → Nat → Int64)} : d_cut_173 K7 K146 n F A J x1 x3 x4 x6 x7 = some w → k_run t lg (d + 2) 148 173 [(0, .ref 40960), (1, .int x1), (3, .int x3), (4, .long (x4)), (6, .int x6), (7, .int x7)] [] (m_h c B F A J) (none, m_h c B w.2.1 w.2.2.1 w.2.2.2) := by
  intro hD
  unfold d_cut_173 at hD
  refine k_runB (pc' := 146) (loc' := [(0, .ref 40960), (1, .int x1), (3, .int x3), (4, .long (x4)), (6, .int x6), (7, .int (x7 + 1))]) (st' := []) 2 rfl ?_
  refine k_wk [0, 1, 3, 4, 6, 7] (loc' := [(0, .ref 40960), (1, .int x1), (3, .int x3), (4, .long (x4)), (6, .int x6), (7, .int (x7 + 1))]) rfl rfl ?_
  exact hK146 _ _ _ _ _ _ _ _ _ hD
def d_cut_146 (K7 : (Nat → Int32) → (Nat → Nat → Int32) → (Nat → Nat → Int64) → Int32 → Option (Unit × (Nat → Int32) × (Nat → Nat → Int32) × (Nat → Nat → Int64))) : Nat → (Nat → Int32) → (Nat → Nat → Int32) → (Nat → Nat → Int64) → Int32 → Int32 → Int64 → Int32 → Int32 → Option (Unit × (Nat → Int32) × (Nat → Nat → Int32) × (Nat → Nat → Int64))
  | 0, _, _, _, _, _, _, _, _ => none
  | n + 1, F, A, J, x1, x3, x4, x6, x7 => cond (g_cnd .ge x7 21)
    (d_cut_179 K7 n F A J x1 x3 x4 x6)
    ((m_ldJ (J 7) 21 x7).bind fun v45 =>
    cond (g_cnd .ne (lg_cmp v45 x4) 0)
    (d_cut_173 K7 (d_cut_146 K7 n) n F A J x1 x3 x4 x6 x7)
    (d_cut_173 K7 (d_cut_146 K7 n) n F A J x1 x3 x4 (20 + x7) x7))
theorem t_d_cut_146 (ht : ∀ k, t.1 12 k = k_ty 12 k) {n : Nat} {K7 : (Nat → Int32) → (Nat → Nat → Int32) → (Nat → Nat → Int64) → Int32 → Option (Unit × (Nat → Int32) × (Nat → Nat → Int32) × (Nat → Nat → Int64))} (hK7 : ∀ (F : Nat → Int32) (A : Nat → Nat → Int32) (J : Nat → Nat → Int64) (x1 : Int32) (w : Unit × (Nat → Int32) × (Nat → Nat → Int32) × (Nat → Nat → Int64)), K7 F A J x1 = some w → k_run t lg (d + 2) 148 7 [(0, .ref 40960), (1, .int x1)] [] (m_h c B F A J) (none, m_h c B w.2.1 w.2.2.1 w.2.2.2)) {F : Nat → Int32} {A : Nat → Nat → Int32} {J : Nat → Nat → Int64} {x1 : Int32} {x3 : Int32} {x4 : Int64} {x6 : Int32} {x7 : Int32} {w : Unit × (Nat → Int32) × (Nat → Nat → Int32) × (Nat → Nat → Int64)} : d_cut_146 K7 n F A J x1 x3 x4 x6 x7 = some w → k_run t lg (d + 2) 148 146 [(0, .ref 40960), (1, .int x1), (3, .int x3), (4, .long (x4)), (6, .int x6), (7, .int x7)] [] (m_h c B F A J) (none, m_h c B w.2.1 w.2.2.1 w.2.2.2) := by
  induction n generalizing F A J x1 x3 x4 x6 x7 w with
  | zero => intro hD; cases hD
  | succ n ih =>
    intro hD
    have hK146 : ∀ (F : Nat → Int32) (A : Nat → Nat → Int32) (J : Nat → Nat → Int64) (x1 : Int32) (x3 : Int32) (x4 : Int64) (x6 : Int32) (x7 : Int32) (w : Unit × (Nat → Int32) × (Nat → Nat → Int32) × (Nat → Nat → Int64)), d_cut_146 K7 n F A J x1 x3 x4 x6 x7 = some w → k_run t lg (d + 2) 148 146 [(0, .ref 40960), (1, .int x1), (3, .int x3), (4, .long (x4)), (6, .int x6), (7, .int x7)] [] (m_h c B F A J) (none, m_h c B w.2.1 w.2.2.1 w.2.2.2) := fun _ _ _ _ _ _ _ _ _ h => ih h
    unfold d_cut_146 at hD
    refine k_runB (pc' := 150) (loc' := [(0, .ref 40960), (1, .int x1), (3, .int x3), (4, .long (x4)), (6, .int x6), (7, .int x7)]) (st' := [.int 21, .int x7]) 2 rfl ?_
    refine k_ic rfl (fun c150_43 => ?_) (fun c150_43 => ?_)
    · rw [c150_43, cond_true] at hD
      refine k_wk [0, 1, 3, 4, 6] (loc' := [(0, .ref 40960), (1, .int x1), (3, .int x3), (4, .long (x4)), (6, .int x6)]) rfl rfl ?_
      exact t_d_cut_179 ht hK7 hD
    · rw [c150_43, cond_false] at hD
      refine k_runB (pc' := 159) (loc' := [(0, .ref 40960), (1, .int x1), (3, .int x3), (4, .long (x4)), (6, .int x6), (7, .int x7)]) (st' := [.int x7, .ref 40967]) 3 rfl ?_
      obtain ⟨v45, hv45, hD⟩ := Option.bind_eq_some_iff.mp hD
      refine k_ldL rfl rfl hv45 ?_
      refine k_runB (pc' := 163) (loc' := [(0, .ref 40960), (1, .int x1), (3, .int x3), (4, .long (x4)), (6, .int x6), (7, .int x7)]) (st' := [.int (lg_cmp v45 x4)]) 2 rfl ?_
      refine k_if rfl (fun c163_45 => ?_) (fun c163_45 => ?_)
      · rw [c163_45, cond_true] at hD
        refine k_wk [0, 1, 3, 4, 6, 7] (loc' := [(0, .ref 40960), (1, .int x1), (3, .int x3), (4, .long (x4)), (6, .int x6), (7, .int x7)]) rfl rfl ?_
        exact t_d_cut_173 ht hK7 hK146 hD
      · rw [c163_45, cond_false] at hD
        refine k_runB (pc' := 173) (loc' := [(0, .ref 40960), (1, .int x1), (3, .int x3), (4, .long (x4)), (6, .int (20 + x7)), (7, .int x7)]) (st' := []) 4 rfl ?_
        refine k_wk [0, 1, 3, 4, 6, 7] (loc' := [(0, .ref 40960), (1, .int x1), (3, .int x3), (4, .long (x4)), (6, .int (20 + x7)), (7, .int x7)]) rfl rfl ?_
        exact t_d_cut_173 ht hK7 hK146 hD
def d_cut_135 (K7 : (Nat → Int32) → (Nat → Nat → Int32) → (Nat → Nat → Int64) → Int32 → Option (Unit × (Nat → Int32) × (Nat → Nat → Int32) × (Nat → Nat → Int64))) (n : Nat) (F : Nat → Int32) (A : Nat → Nat → Int32) (J : Nat → Nat → Int64) (x1 : Int32) (x3 : Int32) (x4 : Int64) (s0 : Int32) : Option (Unit × (Nat → Int32) × (Nat → Nat → Int32) × (Nat → Nat → Int64)) :=
    cond (g_cnd .gt x3 7)
    (d_cut_179 K7 n F A J x1 x3 x4 s0)
    (d_cut_146 K7 n F A J x1 x3 x4 s0 0)
theorem t_d_cut_135 (ht : ∀ k, t.1 12 k = k_ty 12 k) {n : Nat} {K7 : (Nat → Int32) → (Nat → Nat → Int32) → (Nat → Nat → Int64) → Int32 → Option (Unit × (Nat → Int32) × (Nat → Nat → Int32) × (Nat → Nat → Int64))} (hK7 : ∀ (F : Nat → Int32) (A : Nat → Nat → Int32) (J : Nat → Nat → Int64) (x1 : Int32) (w : Unit × (Nat → Int32) × (Nat → Nat → Int32) × (Nat → Nat → Int64)), K7 F A J x1 = some w → k_run t lg (d + 2) 148 7 [(0, .ref 40960), (1, .int x1)] [] (m_h c B F A J) (none, m_h c B w.2.1 w.2.2.1 w.2.2.2)) {F : Nat → Int32} {A : Nat → Nat → Int32} {J : Nat → Nat → Int64} {x1 : Int32} {x3 : Int32} {x4 : Int64} {s0 : Int32} {w : Unit × (Nat → Int32) × (Nat → Nat → Int32) × (Nat → Nat → Int64)} : d_cut_135 K7 n F A J x1 x3 x4 s0 = some w → k_run t lg (d + 2) 148 135 [(0, .ref 40960), (1, .int x1), (3, .int x3), (4, .long (x4))] [.int s0] (m_h c B F A J) (none, m_h c B w.2.1 w.2.2.1 w.2.2.2) := by
  intro hD
  unfold d_cut_135 at hD
  refine k_runB (pc' := 140) (loc' := [(0, .ref 40960), (1, .int x1), (3, .int x3), (4, .long (x4)), (6, .int s0)]) (st' := [.int 7, .int x3]) 3 rfl ?_
  refine k_ic rfl (fun c140_38 => ?_) (fun c140_38 => ?_)
  · rw [c140_38, cond_true] at hD
    refine k_wk [0, 1, 3, 4, 6] (loc' := [(0, .ref 40960), (1, .int x1), (3, .int x3), (4, .long (x4)), (6, .int s0)]) rfl rfl ?_
    exact t_d_cut_179 ht hK7 hD
  · rw [c140_38, cond_false] at hD
    refine k_runB (pc' := 146) (loc' := [(0, .ref 40960), (1, .int x1), (3, .int x3), (4, .long (x4)), (6, .int s0), (7, .int 0)]) (st' := []) 2 rfl ?_
    refine k_wk [0, 1, 3, 4, 6, 7] (loc' := [(0, .ref 40960), (1, .int x1), (3, .int x3), (4, .long (x4)), (6, .int s0), (7, .int 0)]) rfl rfl ?_
    exact t_d_cut_146 ht hK7 hD
def d_cut_118 (K7 : (Nat → Int32) → (Nat → Nat → Int32) → (Nat → Nat → Int64) → Int32 → Option (Unit × (Nat → Int32) × (Nat → Nat → Int32) × (Nat → Nat → Int64))) (K85 : (Nat → Int32) → (Nat → Nat → Int32) → (Nat → Nat → Int64) → Int32 → Int32 → Int64 → Option (Unit × (Nat → Int32) × (Nat → Nat → Int32) × (Nat → Nat → Int64))) (n : Nat) (F : Nat → Int32) (A : Nat → Nat → Int32) (J : Nat → Nat → Int64) (x1 : Int32) (x3 : Int32) (x4 : Int64) : Option (Unit × (Nat → Int32) × (Nat → Nat → Int32) × (Nat → Nat → Int64)) :=
    K85 F A J x1 (x3 + 1) x4
theorem t_d_cut_118 (ht : ∀ k, t.1 12 k = k_ty 12 k) {n : Nat} {K7 : (Nat → Int32) → (Nat → Nat → Int32) → (Nat → Nat → Int64) → Int32 → Option (Unit × (Nat → Int32) × (Nat → Nat → Int32) × (Nat → Nat → Int64))} {K85 : (Nat → Int32) → (Nat → Nat → Int32) → (Nat → Nat → Int64) → Int32 → Int32 → Int64 → Option (Unit × (Nat → Int32) × (Nat → Nat → Int32) × (Nat → Nat → Int64))} (hK7 : ∀ (F : Nat → Int32) (A : Nat → Nat → Int32) (J : Nat → Nat → Int64) (x1 : Int32) (w : Unit × (Nat → Int32) × (Nat → Nat → Int32) × (Nat → Nat → Int64)), K7 F A J x1 = some w → k_run t lg (d + 2) 148 7 [(0, .ref 40960), (1, .int x1)] [] (m_h c B F A J) (none, m_h c B w.2.1 w.2.2.1 w.2.2.2)) (hK85 : ∀ (F : Nat → Int32) (A : Nat → Nat → Int32) (J : Nat → Nat → Int64) (x1 : Int32) (x3 : Int32) (x4 : Int64) (w : Unit × (Nat → Int32) × (Nat → Nat → Int32) × (Nat → Nat → Int64)), K85 F A J x1 x3 x4 = some w → k_run t lg (d + 2) 148 85 [(0, .ref 40960), (1, .int x1), (3, .int x3), (4, .long (x4))] [] (m_h c B F A J) (none, m_h c B w.2.1 w.2.2.1 w.2.2.2)) {F : Nat → Int32} {A : Nat → Nat → Int32} {J : Nat → Nat → Int64} {x1 : Int32} {x3 : Int32} {x4 : Int64} {w : Unit × (Nat → Int32) × (Nat → Nat → Int32) × (Nat → Nat → Int64)} : d_cut_118 K7 K85 n F A J x1 x3 x4 = some w → k_run t lg (d + 2) 148 118 [(0, .ref 40960), (1, .int x1), (3, .int x3), (4, .long (x4))] [] (m_h c B F A J) (none, m_h c B w.2.1 w.2.2.1 w.2.2.2) := by
  intro hD
  unfold d_cut_118 at hD
  refine k_runB (pc' := 85) (loc' := [(0, .ref 40960), (1, .int x1), (3, .int (x3 + 1)), (4, .long (x4))]) (st' := []) 2 rfl ?_
  refine k_wk [0, 1, 3, 4] (loc' := [(0, .ref 40960), (1, .int x1), (3, .int (x3 + 1)), (4, .long (x4))]) rfl rfl ?_
  exact hK85 _ _ _ _ _ _ _ hD
def d_cut_85 (K7 : (Nat → Int32) → (Nat → Nat → Int32) → (Nat → Nat → Int64) → Int32 → Option (Unit × (Nat → Int32) × (Nat → Nat → Int32) × (Nat → Nat → Int64))) : Nat → (Nat → Int32) → (Nat → Nat → Int32) → (Nat → Nat → Int64) → Int32 → Int32 → Int64 → Option (Unit × (Nat → Int32) × (Nat → Nat → Int32) × (Nat → Nat → Int64))
  | 0, _, _, _, _, _, _ => none
  | n + 1, F, A, J, x1, x3, x4 => (d_byteAt F A J (x1 + x3)).bind fun v28 =>
    (d_isLetter v28).bind fun v29 =>
    cond (g_cnd .eq v29 0)
    (cond (g_cnd .le x3 8)
    (d_cut_135 K7 n F A J x1 x3 x4 1)
    (d_cut_135 K7 n F A J x1 x3 x4 3))
    (cond (g_cnd .ge x3 8)
    (d_cut_118 K7 (d_cut_85 K7 n) n F A J x1 x3 x4)
    ((d_byteAt F A J (x1 + x3)).bind fun v33 =>
    (d_appends x4 v33).bind fun v34 =>
    d_cut_118 K7 (d_cut_85 K7 n) n F A J x1 x3 v34))
theorem t_d_cut_85 (ht : ∀ k, t.1 12 k = k_ty 12 k) {n : Nat} {K7 : (Nat → Int32) → (Nat → Nat → Int32) → (Nat → Nat → Int64) → Int32 → Option (Unit × (Nat → Int32) × (Nat → Nat → Int32) × (Nat → Nat → Int64))} (hK7 : ∀ (F : Nat → Int32) (A : Nat → Nat → Int32) (J : Nat → Nat → Int64) (x1 : Int32) (w : Unit × (Nat → Int32) × (Nat → Nat → Int32) × (Nat → Nat → Int64)), K7 F A J x1 = some w → k_run t lg (d + 2) 148 7 [(0, .ref 40960), (1, .int x1)] [] (m_h c B F A J) (none, m_h c B w.2.1 w.2.2.1 w.2.2.2)) {F : Nat → Int32} {A : Nat → Nat → Int32} {J : Nat → Nat → Int64} {x1 : Int32} {x3 : Int32} {x4 : Int64} {w : Unit × (Nat → Int32) × (Nat → Nat → Int32) × (Nat → Nat → Int64)} : d_cut_85 K7 n F A J x1 x3 x4 = some w → k_run t lg (d + 2) 148 85 [(0, .ref 40960), (1, .int x1), (3, .int x3), (4, .long (x4))] [] (m_h c B F A J) (none, m_h c B w.2.1 w.2.2.1 w.2.2.2) := by
  induction n generalizing F A J x1 x3 x4 w with
  | zero => intro hD; cases hD
  | succ n ih =>
    intro hD
    have hK85 : ∀ (F : Nat → Int32) (A : Nat → Nat → Int32) (J : Nat → Nat → Int64) (x1 : Int32) (x3 : Int32) (x4 : Int64) (w : Unit × (Nat → Int32) × (Nat → Nat → Int32) × (Nat → Nat → Int64)), d_cut_85 K7 n F A J x1 x3 x4 = some w → k_run t lg (d + 2) 148 85 [(0, .ref 40960), (1, .int x1), (3, .int x3), (4, .long (x4))] [] (m_h c B F A J) (none, m_h c B w.2.1 w.2.2.1 w.2.2.2) := fun _ _ _ _ _ _ _ h => ih h
    unfold d_cut_85 at hD
    refine k_runB (pc' := 89) (loc' := [(0, .ref 40960), (1, .int x1), (3, .int x3), (4, .long (x4))]) (st' := [.int (x1 + x3), .ref 40960]) 4 rfl ?_
    obtain ⟨v28, hv28, hD⟩ := Option.bind_eq_some_iff.mp hD
    refine k_runC rfl rfl rfl rfl (t_d_byteAt (d := d + 1) hv28) ?_
    obtain ⟨v29, hv29, hD⟩ := Option.bind_eq_some_iff.mp hD
    refine k_runC rfl rfl rfl rfl (t_d_isLetter (d := d + 1) hv29) ?_
    refine k_if rfl (fun c95_29 => ?_) (fun c95_29 => ?_)
    · rw [c95_29, cond_true] at hD
      refine k_runB (pc' := 127) (loc' := [(0, .ref 40960), (1, .int x1), (3, .int x3), (4, .long (x4))]) (st' := [.int 8, .int x3]) 2 rfl ?_
      refine k_ic rfl (fun c127_30 => ?_) (fun c127_30 => ?_)
      · rw [c127_30, cond_true] at hD
        refine k_runB (pc' := 135) (loc' := [(0, .ref 40960), (1, .int x1), (3, .int x3), (4, .long (x4))]) (st' := [.int 1]) 1 rfl ?_
        refine k_wk [0, 1, 3, 4] (loc' := [(0, .ref 40960), (1, .int x1), (3, .int x3), (4, .long (x4))]) rfl rfl ?_
        exact t_d_cut_135 ht hK7 hD
      · rw [c127_30, cond_false] at hD
        refine k_runB (pc' := 135) (loc' := [(0, .ref 40960), (1, .int x1), (3, .int x3), (4, .long (x4))]) (st' := [.int 3]) 2 rfl ?_
        refine k_wk [0, 1, 3, 4] (loc' := [(0, .ref 40960), (1, .int x1), (3, .int x3), (4, .long (x4))]) rfl rfl ?_
        exact t_d_cut_135 ht hK7 hD
    · rw [c95_29, cond_false] at hD
      refine k_runB (pc' := 101) (loc' := [(0, .ref 40960), (1, .int x1), (3, .int x3), (4, .long (x4))]) (st' := [.int 8, .int x3]) 2 rfl ?_
      refine k_ic rfl (fun c101_31 => ?_) (fun c101_31 => ?_)
      · rw [c101_31, cond_true] at hD
        refine k_wk [0, 1, 3, 4] (loc' := [(0, .ref 40960), (1, .int x1), (3, .int x3), (4, .long (x4))]) rfl rfl ?_
        exact t_d_cut_118 ht hK7 hK85 hD
      · rw [c101_31, cond_false] at hD
        refine k_runB (pc' := 110) (loc' := [(0, .ref 40960), (1, .int x1), (3, .int x3), (4, .long (x4))]) (st' := [.int (x1 + x3), .ref 40960, .long (x4)]) 5 rfl ?_
        obtain ⟨v33, hv33, hD⟩ := Option.bind_eq_some_iff.mp hD
        refine k_runC rfl rfl rfl rfl (t_d_byteAt (d := d + 1) hv33) ?_
        obtain ⟨v34, hv34, hD⟩ := Option.bind_eq_some_iff.mp hD
        refine k_runC rfl rfl rfl rfl (t_d_appends (d := d + 1) hv34) ?_
        refine k_runB (pc' := 118) (loc' := [(0, .ref 40960), (1, .int x1), (3, .int x3), (4, .long (v34))]) (st' := []) 1 rfl ?_
        refine k_wk [0, 1, 3, 4] (loc' := [(0, .ref 40960), (1, .int x1), (3, .int x3), (4, .long (v34))]) rfl rfl ?_
        exact t_d_cut_118 ht hK7 hK85 hD
def d_cut_67 (K7 : (Nat → Int32) → (Nat → Nat → Int32) → (Nat → Nat → Int64) → Int32 → Option (Unit × (Nat → Int32) × (Nat → Nat → Int32) × (Nat → Nat → Int64))) (n : Nat) (F : Nat → Int32) (A : Nat → Nat → Int32) (J : Nat → Nat → Int64) (x1 : Int32) : Option (Unit × (Nat → Int32) × (Nat → Nat → Int32) × (Nat → Nat → Int64)) :=
    d_cut_291 K7 n F A J (x1 + 1)
theorem t_d_cut_67 (ht : ∀ k, t.1 12 k = k_ty 12 k) {n : Nat} {K7 : (Nat → Int32) → (Nat → Nat → Int32) → (Nat → Nat → Int64) → Int32 → Option (Unit × (Nat → Int32) × (Nat → Nat → Int32) × (Nat → Nat → Int64))} (hK7 : ∀ (F : Nat → Int32) (A : Nat → Nat → Int32) (J : Nat → Nat → Int64) (x1 : Int32) (w : Unit × (Nat → Int32) × (Nat → Nat → Int32) × (Nat → Nat → Int64)), K7 F A J x1 = some w → k_run t lg (d + 2) 148 7 [(0, .ref 40960), (1, .int x1)] [] (m_h c B F A J) (none, m_h c B w.2.1 w.2.2.1 w.2.2.2)) {F : Nat → Int32} {A : Nat → Nat → Int32} {J : Nat → Nat → Int64} {x1 : Int32} {w : Unit × (Nat → Int32) × (Nat → Nat → Int32) × (Nat → Nat → Int64)} : d_cut_67 K7 n F A J x1 = some w → k_run t lg (d + 2) 148 67 [(0, .ref 40960), (1, .int x1)] [] (m_h c B F A J) (none, m_h c B w.2.1 w.2.2.1 w.2.2.2) := by
  intro hD
  unfold d_cut_67 at hD
  refine k_runB (pc' := 291) (loc' := [(0, .ref 40960), (1, .int (x1 + 1))]) (st' := []) 2 rfl ?_
  refine k_wk [0, 1] (loc' := [(0, .ref 40960), (1, .int (x1 + 1))]) rfl rfl ?_
  exact t_d_cut_291 ht hK7 hD
def d_cut_7 : Nat → (Nat → Int32) → (Nat → Nat → Int32) → (Nat → Nat → Int64) → Int32 → Option (Unit × (Nat → Int32) × (Nat → Nat → Int32) × (Nat → Nat → Int64))
  | 0, _, _, _, _ => none
  | n + 1, F, A, J, x1 => cond (g_cnd .gt (F 10) 400)
    (some ((), F, A, J))
    ((d_byteAt F A J x1).bind fun v3 =>
    cond (g_cnd .lt x1 (F 4))
    (cond (g_cnd .eq v3 9)
    (d_cut_67 (d_cut_7 n) n F A J x1)
    (cond (g_cnd .eq v3 10)
    (d_cut_67 (d_cut_7 n) n F A J x1)
    (cond (g_cnd .eq v3 13)
    (d_cut_67 (d_cut_7 n) n F A J x1)
    (cond (g_cnd .ne v3 32)
    ((d_isLetter v3).bind fun v9 =>
    cond (g_cnd .eq v9 0)
    ((d_isDigit v3).bind fun v11 =>
    cond (g_cnd .eq v11 0)
    ((d_byteAt F A J (x1 + 1)).bind fun v13 =>
    (d_sign F A J x1 v3 v13).bind fun (v14, F15, A16, J17) =>
    d_cut_291 (d_cut_7 n) n F15 A16 J17 (x1 + v14))
    (d_cut_208 (d_cut_7 n) n F A J x1 0 0))
    (d_cut_85 (d_cut_7 n) n F A J x1 0 0))
    (d_cut_67 (d_cut_7 n) n F A J x1)))))
    ((d_token F A J 0 (F 4) 0 0).bind fun (_, F19, A20, J21) =>
    some ((), F19, A20, J21)))
theorem t_d_cut_7 (ht : ∀ k, t.1 12 k = k_ty 12 k) {n : Nat}  {F : Nat → Int32} {A : Nat → Nat → Int32} {J : Nat → Nat → Int64} {x1 : Int32} {w : Unit × (Nat → Int32) × (Nat → Nat → Int32) × (Nat → Nat → Int64)} : d_cut_7 n F A J x1 = some w → k_run t lg (d + 2) 148 7 [(0, .ref 40960), (1, .int x1)] [] (m_h c B F A J) (none, m_h c B w.2.1 w.2.2.1 w.2.2.2) := by
  induction n generalizing F A J x1 w with
  | zero => intro hD; cases hD
  | succ n ih =>
    intro hD
    have hK7 : ∀ (F : Nat → Int32) (A : Nat → Nat → Int32) (J : Nat → Nat → Int64) (x1 : Int32) (w : Unit × (Nat → Int32) × (Nat → Nat → Int32) × (Nat → Nat → Int64)), d_cut_7 n F A J x1 = some w → k_run t lg (d + 2) 148 7 [(0, .ref 40960), (1, .int x1)] [] (m_h c B F A J) (none, m_h c B w.2.1 w.2.2.1 w.2.2.2) := fun _ _ _ _ _ h => ih h
    unfold d_cut_7 at hD
    refine k_runB (pc' := 14) (loc' := [(0, .ref 40960), (1, .int x1)]) (st' := [.int 400, .int (F 10)]) 3 rfl ?_
    refine k_ic rfl (fun c14_1 => ?_) (fun c14_1 => ?_)
    · rw [c14_1, cond_true] at hD
      cases hD
      exact k_vret rfl rfl
    · rw [c14_1, cond_false] at hD
      refine k_runB (pc' := 19) (loc' := [(0, .ref 40960), (1, .int x1)]) (st' := [.int x1, .ref 40960]) 2 rfl ?_
      obtain ⟨v3, hv3, hD⟩ := Option.bind_eq_some_iff.mp hD
      refine k_runC rfl rfl rfl rfl (t_d_byteAt (d := d + 1) hv3) ?_
      refine k_runB (pc' := 28) (loc' := [(0, .ref 40960), (1, .int x1), (2, .int v3)]) (st' := [.int (F 4), .int x1]) 4 rfl ?_
      refine k_ic rfl (fun c28_3 => ?_) (fun c28_3 => ?_)
      · rw [c28_3, cond_true] at hD
        refine k_runB (pc' := 46) (loc' := [(0, .ref 40960), (1, .int x1), (2, .int v3)]) (st' := [.int 9, .int v3]) 2 rfl ?_
        refine k_ic rfl (fun c46_4 => ?_) (fun c46_4 => ?_)
        · rw [c46_4, cond_true] at hD
          refine k_wk [0, 1] (loc' := [(0, .ref 40960), (1, .int x1)]) rfl rfl ?_
          exact t_d_cut_67 ht hK7 hD
        · rw [c46_4, cond_false] at hD
          refine k_runB (pc' := 52) (loc' := [(0, .ref 40960), (1, .int x1), (2, .int v3)]) (st' := [.int 10, .int v3]) 2 rfl ?_
          refine k_ic rfl (fun c52_5 => ?_) (fun c52_5 => ?_)
          · rw [c52_5, cond_true] at hD
            refine k_wk [0, 1] (loc' := [(0, .ref 40960), (1, .int x1)]) rfl rfl ?_
            exact t_d_cut_67 ht hK7 hD
          · rw [c52_5, cond_false] at hD
            refine k_runB (pc' := 58) (loc' := [(0, .ref 40960), (1, .int x1), (2, .int v3)]) (st' := [.int 13, .int v3]) 2 rfl ?_
            refine k_ic rfl (fun c58_6 => ?_) (fun c58_6 => ?_)
            · rw [c58_6, cond_true] at hD
              refine k_wk [0, 1] (loc' := [(0, .ref 40960), (1, .int x1)]) rfl rfl ?_
              exact t_d_cut_67 ht hK7 hD
            · rw [c58_6, cond_false] at hD
              refine k_runB (pc' := 64) (loc' := [(0, .ref 40960), (1, .int x1), (2, .int v3)]) (st' := [.int 32, .int v3]) 2 rfl ?_
              refine k_ic rfl (fun c64_7 => ?_) (fun c64_7 => ?_)
              · rw [c64_7, cond_true] at hD
                refine k_runB (pc' := 74) (loc' := [(0, .ref 40960), (1, .int x1), (2, .int v3)]) (st' := [.int v3]) 1 rfl ?_
                obtain ⟨v9, hv9, hD⟩ := Option.bind_eq_some_iff.mp hD
                refine k_runC rfl rfl rfl rfl (t_d_isLetter (d := d + 1) hv9) ?_
                refine k_if rfl (fun c77_9 => ?_) (fun c77_9 => ?_)
                · rw [c77_9, cond_true] at hD
                  refine k_runB (pc' := 197) (loc' := [(0, .ref 40960), (1, .int x1), (2, .int v3)]) (st' := [.int v3]) 1 rfl ?_
                  obtain ⟨v11, hv11, hD⟩ := Option.bind_eq_some_iff.mp hD
                  refine k_runC rfl rfl rfl rfl (t_d_isDigit (d := d + 1) hv11) ?_
                  refine k_if rfl (fun c200_11 => ?_) (fun c200_11 => ?_)
                  · rw [c200_11, cond_true] at hD
                    refine k_runB (pc' := 283) (loc' := [(0, .ref 40960), (1, .int x1), (2, .int v3)]) (st' := [.int (x1 + 1), .ref 40960, .int v3, .int x1, .ref 40960, .int x1]) 8 rfl ?_
                    obtain ⟨v13, hv13, hD⟩ := Option.bind_eq_some_iff.mp hD
                    refine k_runC rfl rfl rfl rfl (t_d_byteAt (d := d + 1) hv13) ?_
                    obtain ⟨⟨v14, F15, A16, J17⟩, hv14, hD⟩ := Option.bind_eq_some_iff.mp hD
                    dsimp only at hD
                    refine k_runC rfl rfl rfl rfl (t_d_sign (d := d) ht hv14) ?_
                    refine k_runB (pc' := 291) (loc' := [(0, .ref 40960), (1, .int (x1 + v14)), (2, .int v3)]) (st' := []) 2 rfl ?_
                    refine k_wk [0, 1] (loc' := [(0, .ref 40960), (1, .int (x1 + v14))]) rfl rfl ?_
                    exact t_d_cut_291 ht hK7 hD
                  · rw [c200_11, cond_false] at hD
                    refine k_runB (pc' := 208) (loc' := [(0, .ref 40960), (1, .int x1), (2, .int v3), (3, .int 0), (4, .int 0)]) (st' := []) 4 rfl ?_
                    refine k_wk [0, 1, 3, 4] (loc' := [(0, .ref 40960), (1, .int x1), (3, .int 0), (4, .int 0)]) rfl rfl ?_
                    exact t_d_cut_208 ht hK7 hD
                · rw [c77_9, cond_false] at hD
                  refine k_runB (pc' := 85) (loc' := [(0, .ref 40960), (1, .int x1), (2, .int v3), (3, .int 0), (4, .long (0))]) (st' := []) 4 rfl ?_
                  refine k_wk [0, 1, 3, 4] (loc' := [(0, .ref 40960), (1, .int x1), (3, .int 0), (4, .long (0))]) rfl rfl ?_
                  exact t_d_cut_85 ht hK7 hD
              · rw [c64_7, cond_false] at hD
                refine k_wk [0, 1] (loc' := [(0, .ref 40960), (1, .int x1)]) rfl rfl ?_
                exact t_d_cut_67 ht hK7 hD
      · rw [c28_3, cond_false] at hD
        refine k_runB (pc' := 39) (loc' := [(0, .ref 40960), (1, .int x1), (2, .int v3)]) (st' := [.long (0), .int 0, .int (F 4), .int 0, .ref 40960]) 6 rfl ?_
        obtain ⟨⟨v18, F19, A20, J21⟩, hv18, hD⟩ := Option.bind_eq_some_iff.mp hD
        dsimp only at hD
        refine k_runC rfl rfl rfl rfl (t_d_token (d := d + 1) ht hv18) ?_
        cases hD
        exact k_vret rfl rfl
/-- SleepWorkModel.cut()V -/
def d_cut (n : Nat) (F : Nat → Int32) (A : Nat → Nat → Int32) (J : Nat → Nat → Int64) : Option (Unit × (Nat → Int32) × (Nat → Nat → Int32) × (Nat → Nat → Int64)) :=
  (m_pf F 10 0).bind fun F1 =>
  d_cut_7 n F1 A J 0
theorem t_d_cut (ht : ∀ k, t.1 12 k = k_ty 12 k) {n : Nat} {r : Unit} {F' : Nat → Int32} {A' : Nat → Nat → Int32} {J' : Nat → Nat → Int64} : d_cut n F A J = some (r, F', A', J') → k_run t lg (d + 2) 148 0 [(0, .ref 40960)] [] (m_h c B F A J) (none, m_h c B F' A' J') := by
  intro hD
  unfold d_cut at hD
  refine k_runB (pc' := 2) (loc' := [(0, .ref 40960)]) (st' := [.int 0, .ref 40960]) 2 rfl ?_
  obtain ⟨F1, hF1, hD⟩ := Option.bind_eq_some_iff.mp hD
  refine k_ptI rfl (ht 10) rfl rfl hF1 ?_
  refine k_runB (pc' := 7) (loc' := [(0, .ref 40960), (1, .int 0)]) (st' := []) 2 rfl ?_
  refine k_wk [0, 1] (loc' := [(0, .ref 40960), (1, .int 0)]) rfl rfl ?_
  exact t_d_cut_7 ht  hD
def d_expression_234 (K12 : (Nat → Int32) → (Nat → Nat → Int32) → (Nat → Nat → Int64) → Int32 → Int32 → Option (Unit × (Nat → Int32) × (Nat → Nat → Int32) × (Nat → Nat → Int64))) (n : Nat) (F : Nat → Int32) (A : Nat → Nat → Int32) (J : Nat → Nat → Int64) (x1 : Int32) (x2 : Int32) (s1 : Int32) : Option (Unit × (Nat → Int32) × (Nat → Nat → Int32) × (Nat → Nat → Int64)) :=
    (d_comesOut n F A J s1).bind fun (_, F66, A67, J68) =>
    (m_ld (A67 3) 403 (F66 11)).bind fun v69 =>
    (m_st A67 44 64 (F66 60) v69).bind fun A70 =>
    (m_pf F66 60 ((F66 60) + 1)).bind fun F71 =>
    (d_goesOn F71 A70 J68).bind fun (_, F73, A74, J75) =>
    K12 F73 A74 J75 x1 x2
theorem t_d_expression_234 (ht : ∀ k, t.1 12 k = k_ty 12 k) {n : Nat} {K12 : (Nat → Int32) → (Nat → Nat → Int32) → (Nat → Nat → Int64) → Int32 → Int32 → Option (Unit × (Nat → Int32) × (Nat → Nat → Int32) × (Nat → Nat → Int64))} (hK12 : ∀ (F : Nat → Int32) (A : Nat → Nat → Int32) (J : Nat → Nat → Int64) (x1 : Int32) (x2 : Int32) (w : Unit × (Nat → Int32) × (Nat → Nat → Int32) × (Nat → Nat → Int64)), K12 F A J x1 x2 = some w → k_run t lg (d + 3) 174 12 [(0, .ref 40960), (1, .int x1), (2, .int x2)] [] (m_h c B F A J) (none, m_h c B w.2.1 w.2.2.1 w.2.2.2)) {F : Nat → Int32} {A : Nat → Nat → Int32} {J : Nat → Nat → Int64} {x1 : Int32} {x2 : Int32} {s1 : Int32} {w : Unit × (Nat → Int32) × (Nat → Nat → Int32) × (Nat → Nat → Int64)} : d_expression_234 K12 n F A J x1 x2 s1 = some w → k_run t lg (d + 3) 174 234 [(0, .ref 40960), (1, .int x1), (2, .int x2)] [.int s1, .ref 40960] (m_h c B F A J) (none, m_h c B w.2.1 w.2.2.1 w.2.2.2) := by
  intro hD
  unfold d_expression_234 at hD
  obtain ⟨⟨v65, F66, A67, J68⟩, hv65, hD⟩ := Option.bind_eq_some_iff.mp hD
  dsimp only at hD
  refine k_runC rfl rfl rfl rfl (t_d_comesOut (d := d + 1) ht hv65) ?_
  refine k_runB (pc' := 253) (loc' := [(0, .ref 40960), (1, .int x1), (2, .int x2)]) (st' := [.int (F66 11), .ref 40963, .int (F66 60), .ref 41004]) 8 rfl ?_
  obtain ⟨v69, hv69, hD⟩ := Option.bind_eq_some_iff.mp hD
  refine k_ldI rfl rfl hv69 ?_
  obtain ⟨A70, hA70, hD⟩ := Option.bind_eq_some_iff.mp hD
  refine k_stI 44 rfl rfl (fun _ => rfl) hA70 ?_
  refine k_runB (pc' := 262) (loc' := [(0, .ref 40960), (1, .int x1), (2, .int x2)]) (st' := [.int ((F66 60) + 1), .ref 40960]) 5 rfl ?_
  obtain ⟨F71, hF71, hD⟩ := Option.bind_eq_some_iff.mp hD
  refine k_ptI rfl (ht 60) rfl rfl hF71 ?_
  refine k_runB (pc' := 266) (loc' := [(0, .ref 40960), (1, .int x1), (2, .int x2)]) (st' := [.ref 40960]) 1 rfl ?_
  obtain ⟨⟨v72, F73, A74, J75⟩, hv72, hD⟩ := Option.bind_eq_some_iff.mp hD
  dsimp only at hD
  refine k_runC rfl rfl rfl rfl (t_d_goesOn (d := d + 1) ht hv72) ?_
  refine k_runB (pc' := 12) (loc' := [(0, .ref 40960), (1, .int x1), (2, .int x2)]) (st' := []) 1 rfl ?_
  refine k_wk [0, 1, 2] (loc' := [(0, .ref 40960), (1, .int x1), (2, .int x2)]) rfl rfl ?_
  exact hK12 _ _ _ _ _ _ hD
def d_expression_229 (K12 : (Nat → Int32) → (Nat → Nat → Int32) → (Nat → Nat → Int64) → Int32 → Int32 → Option (Unit × (Nat → Int32) × (Nat → Nat → Int32) × (Nat → Nat → Int64))) (n : Nat) (F : Nat → Int32) (A : Nat → Nat → Int32) (J : Nat → Nat → Int64) (x1 : Int32) (x2 : Int32) : Option (Unit × (Nat → Int32) × (Nat → Nat → Int32) × (Nat → Nat → Int64)) :=
    d_expression_234 K12 n F A J x1 x2 1
theorem t_d_expression_229 (ht : ∀ k, t.1 12 k = k_ty 12 k) {n : Nat} {K12 : (Nat → Int32) → (Nat → Nat → Int32) → (Nat → Nat → Int64) → Int32 → Int32 → Option (Unit × (Nat → Int32) × (Nat → Nat → Int32) × (Nat → Nat → Int64))} (hK12 : ∀ (F : Nat → Int32) (A : Nat → Nat → Int32) (J : Nat → Nat → Int64) (x1 : Int32) (x2 : Int32) (w : Unit × (Nat → Int32) × (Nat → Nat → Int32) × (Nat → Nat → Int64)), K12 F A J x1 x2 = some w → k_run t lg (d + 3) 174 12 [(0, .ref 40960), (1, .int x1), (2, .int x2)] [] (m_h c B F A J) (none, m_h c B w.2.1 w.2.2.1 w.2.2.2)) {F : Nat → Int32} {A : Nat → Nat → Int32} {J : Nat → Nat → Int64} {x1 : Int32} {x2 : Int32} {w : Unit × (Nat → Int32) × (Nat → Nat → Int32) × (Nat → Nat → Int64)} : d_expression_229 K12 n F A J x1 x2 = some w → k_run t lg (d + 3) 174 229 [(0, .ref 40960), (1, .int x1), (2, .int x2)] [.ref 40960] (m_h c B F A J) (none, m_h c B w.2.1 w.2.2.1 w.2.2.2) := by
  intro hD
  unfold d_expression_229 at hD
  refine k_runB (pc' := 234) (loc' := [(0, .ref 40960), (1, .int x1), (2, .int x2)]) (st' := [.int 1, .ref 40960]) 2 rfl ?_
  refine k_wk [0, 1, 2] (loc' := [(0, .ref 40960), (1, .int x1), (2, .int x2)]) rfl rfl ?_
  exact t_d_expression_234 ht hK12 hD
def d_expression_204 (n : Nat) (F : Nat → Int32) (A : Nat → Nat → Int32) (J : Nat → Nat → Int64) : Option (Unit × (Nat → Int32) × (Nat → Nat → Int32) × (Nat → Nat → Int64)) :=
    (d_comesOut n F A J 0).bind fun (_, F77, A78, J79) =>
    some ((), F77, A78, J79)
theorem t_d_expression_204 (ht : ∀ k, t.1 12 k = k_ty 12 k) {n : Nat}  {F : Nat → Int32} {A : Nat → Nat → Int32} {J : Nat → Nat → Int64}  {w : Unit × (Nat → Int32) × (Nat → Nat → Int32) × (Nat → Nat → Int64)} : d_expression_204 n F A J = some w → k_run t lg (d + 3) 174 204 [(0, .ref 40960)] [] (m_h c B F A J) (none, m_h c B w.2.1 w.2.2.1 w.2.2.2) := by
  intro hD
  unfold d_expression_204 at hD
  refine k_runB (pc' := 206) (loc' := [(0, .ref 40960)]) (st' := [.int 0, .ref 40960]) 2 rfl ?_
  obtain ⟨⟨v76, F77, A78, J79⟩, hv76, hD⟩ := Option.bind_eq_some_iff.mp hD
  dsimp only at hD
  refine k_runC rfl rfl rfl rfl (t_d_comesOut (d := d + 1) ht hv76) ?_
  cases hD
  exact k_vret rfl rfl
def d_expression_186 (K12 : (Nat → Int32) → (Nat → Nat → Int32) → (Nat → Nat → Int64) → Int32 → Int32 → Option (Unit × (Nat → Int32) × (Nat → Nat → Int32) × (Nat → Nat → Int64))) (n : Nat) (F : Nat → Int32) (A : Nat → Nat → Int32) (J : Nat → Nat → Int64) (x1 : Int32) (s0 : Int32) : Option (Unit × (Nat → Int32) × (Nat → Nat → Int32) × (Nat → Nat → Int64)) :=
    cond (g_cnd .ne s0 0)
    ((d_is F A J 10).bind fun v52 =>
    cond (g_cnd .ne v52 0)
    (d_expression_229 K12 n F A J x1 s0)
    ((d_is F A J 15).bind fun v54 =>
    cond (g_cnd .eq v54 0)
    (d_expression_234 K12 n F A J x1 s0 0)
    (d_expression_229 K12 n F A J x1 s0)))
    (cond (g_cnd .le (F 12) x1)
    (d_expression_204 n F A J)
    ((d_fail F A J 1).bind fun (_, F58, A59, J60) =>
    (d_comesOut n F58 A59 J60 0).bind fun (_, F62, A63, J64) =>
    some ((), F62, A63, J64)))
theorem t_d_expression_186 (ht : ∀ k, t.1 12 k = k_ty 12 k) {n : Nat} {K12 : (Nat → Int32) → (Nat → Nat → Int32) → (Nat → Nat → Int64) → Int32 → Int32 → Option (Unit × (Nat → Int32) × (Nat → Nat → Int32) × (Nat → Nat → Int64))} (hK12 : ∀ (F : Nat → Int32) (A : Nat → Nat → Int32) (J : Nat → Nat → Int64) (x1 : Int32) (x2 : Int32) (w : Unit × (Nat → Int32) × (Nat → Nat → Int32) × (Nat → Nat → Int64)), K12 F A J x1 x2 = some w → k_run t lg (d + 3) 174 12 [(0, .ref 40960), (1, .int x1), (2, .int x2)] [] (m_h c B F A J) (none, m_h c B w.2.1 w.2.2.1 w.2.2.2)) {F : Nat → Int32} {A : Nat → Nat → Int32} {J : Nat → Nat → Int64} {x1 : Int32} {s0 : Int32} {w : Unit × (Nat → Int32) × (Nat → Nat → Int32) × (Nat → Nat → Int64)} : d_expression_186 K12 n F A J x1 s0 = some w → k_run t lg (d + 3) 174 186 [(0, .ref 40960), (1, .int x1)] [.int s0] (m_h c B F A J) (none, m_h c B w.2.1 w.2.2.1 w.2.2.2) := by
  intro hD
  unfold d_expression_186 at hD
  refine k_runB (pc' := 188) (loc' := [(0, .ref 40960), (1, .int x1), (2, .int s0)]) (st' := [.int s0]) 2 rfl ?_
  refine k_if rfl (fun c188_50 => ?_) (fun c188_50 => ?_)
  · rw [c188_50, cond_true] at hD
    refine k_runB (pc' := 214) (loc' := [(0, .ref 40960), (1, .int x1), (2, .int s0)]) (st' := [.int 10, .ref 40960, .ref 40960]) 3 rfl ?_
    obtain ⟨v52, hv52, hD⟩ := Option.bind_eq_some_iff.mp hD
    refine k_runC rfl rfl rfl rfl (t_d_is (d := d + 2) hv52) ?_
    refine k_if rfl (fun c217_52 => ?_) (fun c217_52 => ?_)
    · rw [c217_52, cond_true] at hD
      refine k_wk [0, 1, 2] (loc' := [(0, .ref 40960), (1, .int x1), (2, .int s0)]) rfl rfl ?_
      exact t_d_expression_229 ht hK12 hD
    · rw [c217_52, cond_false] at hD
      refine k_runB (pc' := 223) (loc' := [(0, .ref 40960), (1, .int x1), (2, .int s0)]) (st' := [.int 15, .ref 40960, .ref 40960]) 2 rfl ?_
      obtain ⟨v54, hv54, hD⟩ := Option.bind_eq_some_iff.mp hD
      refine k_runC rfl rfl rfl rfl (t_d_is (d := d + 2) hv54) ?_
      refine k_if rfl (fun c226_54 => ?_) (fun c226_54 => ?_)
      · rw [c226_54, cond_true] at hD
        refine k_runB (pc' := 234) (loc' := [(0, .ref 40960), (1, .int x1), (2, .int s0)]) (st' := [.int 0, .ref 40960]) 1 rfl ?_
        refine k_wk [0, 1, 2] (loc' := [(0, .ref 40960), (1, .int x1), (2, .int s0)]) rfl rfl ?_
        exact t_d_expression_234 ht hK12 hD
      · rw [c226_54, cond_false] at hD
        refine k_wk [0, 1, 2] (loc' := [(0, .ref 40960), (1, .int x1), (2, .int s0)]) rfl rfl ?_
        exact t_d_expression_229 ht hK12 hD
  · rw [c188_50, cond_false] at hD
    refine k_runB (pc' := 196) (loc' := [(0, .ref 40960), (1, .int x1), (2, .int s0)]) (st' := [.int x1, .int (F 12)]) 3 rfl ?_
    refine k_ic rfl (fun c196_55 => ?_) (fun c196_55 => ?_)
    · rw [c196_55, cond_true] at hD
      refine k_wk [0] (loc' := [(0, .ref 40960)]) rfl rfl ?_
      exact t_d_expression_204 ht  hD
    · rw [c196_55, cond_false] at hD
      refine k_runB (pc' := 201) (loc' := [(0, .ref 40960), (1, .int x1), (2, .int s0)]) (st' := [.int 1, .ref 40960]) 2 rfl ?_
      obtain ⟨⟨v57, F58, A59, J60⟩, hv57, hD⟩ := Option.bind_eq_some_iff.mp hD
      dsimp only at hD
      refine k_runC rfl rfl rfl rfl (t_d_fail (d := d + 2) ht hv57) ?_
      refine k_runB (pc' := 206) (loc' := [(0, .ref 40960), (1, .int x1), (2, .int s0)]) (st' := [.int 0, .ref 40960]) 2 rfl ?_
      obtain ⟨⟨v61, F62, A63, J64⟩, hv61, hD⟩ := Option.bind_eq_some_iff.mp hD
      dsimp only at hD
      refine k_runC rfl rfl rfl rfl (t_d_comesOut (d := d + 1) ht hv61) ?_
      cases hD
      exact k_vret rfl rfl
def d_expression_181 (K12 : (Nat → Int32) → (Nat → Nat → Int32) → (Nat → Nat → Int64) → Int32 → Int32 → Option (Unit × (Nat → Int32) × (Nat → Nat → Int32) × (Nat → Nat → Int64))) (n : Nat) (F : Nat → Int32) (A : Nat → Nat → Int32) (J : Nat → Nat → Int64) (x1 : Int32) : Option (Unit × (Nat → Int32) × (Nat → Nat → Int32) × (Nat → Nat → Int64)) :=
    d_expression_186 K12 n F A J x1 1
theorem t_d_expression_181 (ht : ∀ k, t.1 12 k = k_ty 12 k) {n : Nat} {K12 : (Nat → Int32) → (Nat → Nat → Int32) → (Nat → Nat → Int64) → Int32 → Int32 → Option (Unit × (Nat → Int32) × (Nat → Nat → Int32) × (Nat → Nat → Int64))} (hK12 : ∀ (F : Nat → Int32) (A : Nat → Nat → Int32) (J : Nat → Nat → Int64) (x1 : Int32) (x2 : Int32) (w : Unit × (Nat → Int32) × (Nat → Nat → Int32) × (Nat → Nat → Int64)), K12 F A J x1 x2 = some w → k_run t lg (d + 3) 174 12 [(0, .ref 40960), (1, .int x1), (2, .int x2)] [] (m_h c B F A J) (none, m_h c B w.2.1 w.2.2.1 w.2.2.2)) {F : Nat → Int32} {A : Nat → Nat → Int32} {J : Nat → Nat → Int64} {x1 : Int32} {w : Unit × (Nat → Int32) × (Nat → Nat → Int32) × (Nat → Nat → Int64)} : d_expression_181 K12 n F A J x1 = some w → k_run t lg (d + 3) 174 181 [(0, .ref 40960), (1, .int x1)] [] (m_h c B F A J) (none, m_h c B w.2.1 w.2.2.1 w.2.2.2) := by
  intro hD
  unfold d_expression_181 at hD
  refine k_runB (pc' := 186) (loc' := [(0, .ref 40960), (1, .int x1)]) (st' := [.int 1]) 2 rfl ?_
  refine k_wk [0, 1] (loc' := [(0, .ref 40960), (1, .int x1)]) rfl rfl ?_
  exact t_d_expression_186 ht hK12 hD
def d_expression_145 (K12 : (Nat → Int32) → (Nat → Nat → Int32) → (Nat → Nat → Int64) → Int32 → Int32 → Option (Unit × (Nat → Int32) × (Nat → Nat → Int32) × (Nat → Nat → Int64))) (n : Nat) (F : Nat → Int32) (A : Nat → Nat → Int32) (J : Nat → Nat → Int64) (x1 : Int32) : Option (Unit × (Nat → Int32) × (Nat → Nat → Int32) × (Nat → Nat → Int64)) :=
    (d_is F A J 8).bind fun v43 =>
    cond (g_cnd .ne v43 0)
    (d_expression_181 K12 n F A J x1)
    ((d_is F A J 9).bind fun v45 =>
    cond (g_cnd .ne v45 0)
    (d_expression_181 K12 n F A J x1)
    ((d_is F A J 10).bind fun v47 =>
    cond (g_cnd .ne v47 0)
    (d_expression_181 K12 n F A J x1)
    ((d_is F A J 15).bind fun v49 =>
    cond (g_cnd .eq v49 0)
    (d_expression_186 K12 n F A J x1 0)
    (d_expression_181 K12 n F A J x1))))
theorem t_d_expression_145 (ht : ∀ k, t.1 12 k = k_ty 12 k) {n : Nat} {K12 : (Nat → Int32) → (Nat → Nat → Int32) → (Nat → Nat → Int64) → Int32 → Int32 → Option (Unit × (Nat → Int32) × (Nat → Nat → Int32) × (Nat → Nat → Int64))} (hK12 : ∀ (F : Nat → Int32) (A : Nat → Nat → Int32) (J : Nat → Nat → Int64) (x1 : Int32) (x2 : Int32) (w : Unit × (Nat → Int32) × (Nat → Nat → Int32) × (Nat → Nat → Int64)), K12 F A J x1 x2 = some w → k_run t lg (d + 3) 174 12 [(0, .ref 40960), (1, .int x1), (2, .int x2)] [] (m_h c B F A J) (none, m_h c B w.2.1 w.2.2.1 w.2.2.2)) {F : Nat → Int32} {A : Nat → Nat → Int32} {J : Nat → Nat → Int64} {x1 : Int32} {w : Unit × (Nat → Int32) × (Nat → Nat → Int32) × (Nat → Nat → Int64)} : d_expression_145 K12 n F A J x1 = some w → k_run t lg (d + 3) 174 145 [(0, .ref 40960), (1, .int x1)] [] (m_h c B F A J) (none, m_h c B w.2.1 w.2.2.1 w.2.2.2) := by
  intro hD
  unfold d_expression_145 at hD
  refine k_runB (pc' := 148) (loc' := [(0, .ref 40960), (1, .int x1)]) (st' := [.int 8, .ref 40960]) 2 rfl ?_
  obtain ⟨v43, hv43, hD⟩ := Option.bind_eq_some_iff.mp hD
  refine k_runC rfl rfl rfl rfl (t_d_is (d := d + 2) hv43) ?_
  refine k_if rfl (fun c151_43 => ?_) (fun c151_43 => ?_)
  · rw [c151_43, cond_true] at hD
    refine k_wk [0, 1] (loc' := [(0, .ref 40960), (1, .int x1)]) rfl rfl ?_
    exact t_d_expression_181 ht hK12 hD
  · rw [c151_43, cond_false] at hD
    refine k_runB (pc' := 157) (loc' := [(0, .ref 40960), (1, .int x1)]) (st' := [.int 9, .ref 40960]) 2 rfl ?_
    obtain ⟨v45, hv45, hD⟩ := Option.bind_eq_some_iff.mp hD
    refine k_runC rfl rfl rfl rfl (t_d_is (d := d + 2) hv45) ?_
    refine k_if rfl (fun c160_45 => ?_) (fun c160_45 => ?_)
    · rw [c160_45, cond_true] at hD
      refine k_wk [0, 1] (loc' := [(0, .ref 40960), (1, .int x1)]) rfl rfl ?_
      exact t_d_expression_181 ht hK12 hD
    · rw [c160_45, cond_false] at hD
      refine k_runB (pc' := 166) (loc' := [(0, .ref 40960), (1, .int x1)]) (st' := [.int 10, .ref 40960]) 2 rfl ?_
      obtain ⟨v47, hv47, hD⟩ := Option.bind_eq_some_iff.mp hD
      refine k_runC rfl rfl rfl rfl (t_d_is (d := d + 2) hv47) ?_
      refine k_if rfl (fun c169_47 => ?_) (fun c169_47 => ?_)
      · rw [c169_47, cond_true] at hD
        refine k_wk [0, 1] (loc' := [(0, .ref 40960), (1, .int x1)]) rfl rfl ?_
        exact t_d_expression_181 ht hK12 hD
      · rw [c169_47, cond_false] at hD
        refine k_runB (pc' := 175) (loc' := [(0, .ref 40960), (1, .int x1)]) (st' := [.int 15, .ref 40960]) 2 rfl ?_
        obtain ⟨v49, hv49, hD⟩ := Option.bind_eq_some_iff.mp hD
        refine k_runC rfl rfl rfl rfl (t_d_is (d := d + 2) hv49) ?_
        refine k_if rfl (fun c178_49 => ?_) (fun c178_49 => ?_)
        · rw [c178_49, cond_true] at hD
          refine k_runB (pc' := 186) (loc' := [(0, .ref 40960), (1, .int x1)]) (st' := [.int 0]) 1 rfl ?_
          refine k_wk [0, 1] (loc' := [(0, .ref 40960), (1, .int x1)]) rfl rfl ?_
          exact t_d_expression_186 ht hK12 hD
        · rw [c178_49, cond_false] at hD
          refine k_wk [0, 1] (loc' := [(0, .ref 40960), (1, .int x1)]) rfl rfl ?_
          exact t_d_expression_181 ht hK12 hD
def d_expression_96 (K12 : (Nat → Int32) → (Nat → Nat → Int32) → (Nat → Nat → Int64) → Int32 → Int32 → Option (Unit × (Nat → Int32) × (Nat → Nat → Int32) × (Nat → Nat → Int64))) : Nat → (Nat → Int32) → (Nat → Nat → Int32) → (Nat → Nat → Int64) → Int32 → Option (Unit × (Nat → Int32) × (Nat → Nat → Int32) × (Nat → Nat → Int64))
  | 0, _, _, _, _ => none
  | n + 1, F, A, J, x1 => (d_is F A J 7).bind fun v23 =>
    cond (g_cnd .eq v23 0)
    (d_expression_145 K12 n F A J x1)
    (cond (g_cnd .le (F 12) x1)
    (d_expression_145 K12 n F A J x1)
    ((d_comesOut n F A J 0).bind fun (_, F27, A28, J29) =>
    (m_pf F27 60 ((F27 60) - 1)).bind fun F30 =>
    (m_pf F30 12 ((F30 12) - 1)).bind fun F31 =>
    (d_goesOn F31 A28 J29).bind fun (_, F33, A34, J35) =>
    (d_expression_96 K12 n) F33 A34 J35 x1))
theorem t_d_expression_96 (ht : ∀ k, t.1 12 k = k_ty 12 k) {n : Nat} {K12 : (Nat → Int32) → (Nat → Nat → Int32) → (Nat → Nat → Int64) → Int32 → Int32 → Option (Unit × (Nat → Int32) × (Nat → Nat → Int32) × (Nat → Nat → Int64))} (hK12 : ∀ (F : Nat → Int32) (A : Nat → Nat → Int32) (J : Nat → Nat → Int64) (x1 : Int32) (x2 : Int32) (w : Unit × (Nat → Int32) × (Nat → Nat → Int32) × (Nat → Nat → Int64)), K12 F A J x1 x2 = some w → k_run t lg (d + 3) 174 12 [(0, .ref 40960), (1, .int x1), (2, .int x2)] [] (m_h c B F A J) (none, m_h c B w.2.1 w.2.2.1 w.2.2.2)) {F : Nat → Int32} {A : Nat → Nat → Int32} {J : Nat → Nat → Int64} {x1 : Int32} {w : Unit × (Nat → Int32) × (Nat → Nat → Int32) × (Nat → Nat → Int64)} : d_expression_96 K12 n F A J x1 = some w → k_run t lg (d + 3) 174 96 [(0, .ref 40960), (1, .int x1)] [] (m_h c B F A J) (none, m_h c B w.2.1 w.2.2.1 w.2.2.2) := by
  induction n generalizing F A J x1 w with
  | zero => intro hD; cases hD
  | succ n ih =>
    intro hD
    have hK96 : ∀ (F : Nat → Int32) (A : Nat → Nat → Int32) (J : Nat → Nat → Int64) (x1 : Int32) (w : Unit × (Nat → Int32) × (Nat → Nat → Int32) × (Nat → Nat → Int64)), d_expression_96 K12 n F A J x1 = some w → k_run t lg (d + 3) 174 96 [(0, .ref 40960), (1, .int x1)] [] (m_h c B F A J) (none, m_h c B w.2.1 w.2.2.1 w.2.2.2) := fun _ _ _ _ _ h => ih h
    unfold d_expression_96 at hD
    refine k_runB (pc' := 99) (loc' := [(0, .ref 40960), (1, .int x1)]) (st' := [.int 7, .ref 40960]) 2 rfl ?_
    obtain ⟨v23, hv23, hD⟩ := Option.bind_eq_some_iff.mp hD
    refine k_runC rfl rfl rfl rfl (t_d_is (d := d + 2) hv23) ?_
    refine k_if rfl (fun c102_23 => ?_) (fun c102_23 => ?_)
    · rw [c102_23, cond_true] at hD
      refine k_wk [0, 1] (loc' := [(0, .ref 40960), (1, .int x1)]) rfl rfl ?_
      exact t_d_expression_145 ht hK12 hD
    · rw [c102_23, cond_false] at hD
      refine k_runB (pc' := 110) (loc' := [(0, .ref 40960), (1, .int x1)]) (st' := [.int x1, .int (F 12)]) 3 rfl ?_
      refine k_ic rfl (fun c110_24 => ?_) (fun c110_24 => ?_)
      · rw [c110_24, cond_true] at hD
        refine k_wk [0, 1] (loc' := [(0, .ref 40960), (1, .int x1)]) rfl rfl ?_
        exact t_d_expression_145 ht hK12 hD
      · rw [c110_24, cond_false] at hD
        refine k_runB (pc' := 115) (loc' := [(0, .ref 40960), (1, .int x1)]) (st' := [.int 0, .ref 40960]) 2 rfl ?_
        obtain ⟨⟨v26, F27, A28, J29⟩, hv26, hD⟩ := Option.bind_eq_some_iff.mp hD
        dsimp only at hD
        refine k_runC rfl rfl rfl rfl (t_d_comesOut (d := d + 1) ht hv26) ?_
        refine k_runB (pc' := 125) (loc' := [(0, .ref 40960), (1, .int x1)]) (st' := [.int ((F27 60) - 1), .ref 40960]) 5 rfl ?_
        obtain ⟨F30, hF30, hD⟩ := Option.bind_eq_some_iff.mp hD
        refine k_ptI rfl (ht 60) rfl rfl hF30 ?_
        refine k_runB (pc' := 135) (loc' := [(0, .ref 40960), (1, .int x1)]) (st' := [.int ((F30 12) - 1), .ref 40960]) 5 rfl ?_
        obtain ⟨F31, hF31, hD⟩ := Option.bind_eq_some_iff.mp hD
        refine k_ptI rfl (ht 12) rfl rfl hF31 ?_
        refine k_runB (pc' := 139) (loc' := [(0, .ref 40960), (1, .int x1)]) (st' := [.ref 40960]) 1 rfl ?_
        obtain ⟨⟨v32, F33, A34, J35⟩, hv32, hD⟩ := Option.bind_eq_some_iff.mp hD
        dsimp only at hD
        refine k_runC rfl rfl rfl rfl (t_d_goesOn (d := d + 1) ht hv32) ?_
        refine k_runB (pc' := 96) (loc' := [(0, .ref 40960), (1, .int x1)]) (st' := []) 1 rfl ?_
        refine k_wk [0, 1] (loc' := [(0, .ref 40960), (1, .int x1)]) rfl rfl ?_
        exact hK96 _ _ _ _ _ hD
def d_expression_46 (K12 : (Nat → Int32) → (Nat → Nat → Int32) → (Nat → Nat → Int64) → Int32 → Int32 → Option (Unit × (Nat → Int32) × (Nat → Nat → Int32) × (Nat → Nat → Int64))) (K23 : (Nat → Int32) → (Nat → Nat → Int32) → (Nat → Nat → Int64) → Int32 → Option (Unit × (Nat → Int32) × (Nat → Nat → Int32) × (Nat → Nat → Int64))) (n : Nat) (F : Nat → Int32) (A : Nat → Nat → Int32) (J : Nat → Nat → Int64) (x1 : Int32) : Option (Unit × (Nat → Int32) × (Nat → Nat → Int32) × (Nat → Nat → Int64)) :=
    (m_pf F 12 ((F 12) + 1)).bind fun F36 =>
    (d_goesOn F36 A J).bind fun (_, F38, A39, J40) =>
    (m_st A39 44 64 (F38 60) 6).bind fun A41 =>
    (m_pf F38 60 ((F38 60) + 1)).bind fun F42 =>
    K23 F42 A41 J40 x1
theorem t_d_expression_46 (ht : ∀ k, t.1 12 k = k_ty 12 k) {n : Nat} {K12 : (Nat → Int32) → (Nat → Nat → Int32) → (Nat → Nat → Int64) → Int32 → Int32 → Option (Unit × (Nat → Int32) × (Nat → Nat → Int32) × (Nat → Nat → Int64))} {K23 : (Nat → Int32) → (Nat → Nat → Int32) → (Nat → Nat → Int64) → Int32 → Option (Unit × (Nat → Int32) × (Nat → Nat → Int32) × (Nat → Nat → Int64))} (hK12 : ∀ (F : Nat → Int32) (A : Nat → Nat → Int32) (J : Nat → Nat → Int64) (x1 : Int32) (x2 : Int32) (w : Unit × (Nat → Int32) × (Nat → Nat → Int32) × (Nat → Nat → Int64)), K12 F A J x1 x2 = some w → k_run t lg (d + 3) 174 12 [(0, .ref 40960), (1, .int x1), (2, .int x2)] [] (m_h c B F A J) (none, m_h c B w.2.1 w.2.2.1 w.2.2.2)) (hK23 : ∀ (F : Nat → Int32) (A : Nat → Nat → Int32) (J : Nat → Nat → Int64) (x1 : Int32) (w : Unit × (Nat → Int32) × (Nat → Nat → Int32) × (Nat → Nat → Int64)), K23 F A J x1 = some w → k_run t lg (d + 3) 174 23 [(0, .ref 40960), (1, .int x1)] [] (m_h c B F A J) (none, m_h c B w.2.1 w.2.2.1 w.2.2.2)) {F : Nat → Int32} {A : Nat → Nat → Int32} {J : Nat → Nat → Int64} {x1 : Int32} {w : Unit × (Nat → Int32) × (Nat → Nat → Int32) × (Nat → Nat → Int64)} : d_expression_46 K12 K23 n F A J x1 = some w → k_run t lg (d + 3) 174 46 [(0, .ref 40960), (1, .int x1)] [] (m_h c B F A J) (none, m_h c B w.2.1 w.2.2.1 w.2.2.2) := by
  intro hD
  unfold d_expression_46 at hD
  refine k_runB (pc' := 53) (loc' := [(0, .ref 40960), (1, .int x1)]) (st' := [.int ((F 12) + 1), .ref 40960]) 5 rfl ?_
  obtain ⟨F36, hF36, hD⟩ := Option.bind_eq_some_iff.mp hD
  refine k_ptI rfl (ht 12) rfl rfl hF36 ?_
  refine k_runB (pc' := 57) (loc' := [(0, .ref 40960), (1, .int x1)]) (st' := [.ref 40960]) 1 rfl ?_
  obtain ⟨⟨v37, F38, A39, J40⟩, hv37, hD⟩ := Option.bind_eq_some_iff.mp hD
  dsimp only at hD
  refine k_runC rfl rfl rfl rfl (t_d_goesOn (d := d + 1) ht hv37) ?_
  refine k_runB (pc' := 70) (loc' := [(0, .ref 40960), (1, .int x1)]) (st' := [.int 6, .int (F38 60), .ref 41004]) 5 rfl ?_
  obtain ⟨A41, hA41, hD⟩ := Option.bind_eq_some_iff.mp hD
  refine k_stI 44 rfl rfl (fun _ => rfl) hA41 ?_
  refine k_runB (pc' := 78) (loc' := [(0, .ref 40960), (1, .int x1)]) (st' := [.int ((F38 60) + 1), .ref 40960]) 5 rfl ?_
  obtain ⟨F42, hF42, hD⟩ := Option.bind_eq_some_iff.mp hD
  refine k_ptI rfl (ht 60) rfl rfl hF42 ?_
  refine k_runB (pc' := 23) (loc' := [(0, .ref 40960), (1, .int x1)]) (st' := []) 1 rfl ?_
  refine k_wk [0, 1] (loc' := [(0, .ref 40960), (1, .int x1)]) rfl rfl ?_
  exact hK23 _ _ _ _ _ hD
def d_expression_23 (K12 : (Nat → Int32) → (Nat → Nat → Int32) → (Nat → Nat → Int64) → Int32 → Int32 → Option (Unit × (Nat → Int32) × (Nat → Nat → Int32) × (Nat → Nat → Int64))) : Nat → (Nat → Int32) → (Nat → Nat → Int32) → (Nat → Nat → Int64) → Int32 → Option (Unit × (Nat → Int32) × (Nat → Nat → Int32) × (Nat → Nat → Int64))
  | 0, _, _, _, _ => none
  | n + 1, F, A, J, x1 => (d_is F A J 6).bind fun v4 =>
    cond (g_cnd .eq v4 0)
    ((d_unit F A J).bind fun (_, F7, A8, J9) =>
    cond (g_cnd .le (F7 13) 0)
    (d_expression_96 K12 n F7 A8 J9 x1)
    (some ((), F7, A8, J9)))
    (cond (g_cnd .ne (F 12) 6)
    (d_expression_46 K12 (d_expression_23 K12 n) n F A J x1)
    ((d_fail F A J 2).bind fun (_, F13, A14, J15) =>
    (m_pf F13 12 ((F13 12) + 1)).bind fun F16 =>
    (d_goesOn F16 A14 J15).bind fun (_, F18, A19, J20) =>
    (m_st A19 44 64 (F18 60) 6).bind fun A21 =>
    (m_pf F18 60 ((F18 60) + 1)).bind fun F22 =>
    (d_expression_23 K12 n) F22 A21 J20 x1))
theorem t_d_expression_23 (ht : ∀ k, t.1 12 k = k_ty 12 k) {n : Nat} {K12 : (Nat → Int32) → (Nat → Nat → Int32) → (Nat → Nat → Int64) → Int32 → Int32 → Option (Unit × (Nat → Int32) × (Nat → Nat → Int32) × (Nat → Nat → Int64))} (hK12 : ∀ (F : Nat → Int32) (A : Nat → Nat → Int32) (J : Nat → Nat → Int64) (x1 : Int32) (x2 : Int32) (w : Unit × (Nat → Int32) × (Nat → Nat → Int32) × (Nat → Nat → Int64)), K12 F A J x1 x2 = some w → k_run t lg (d + 3) 174 12 [(0, .ref 40960), (1, .int x1), (2, .int x2)] [] (m_h c B F A J) (none, m_h c B w.2.1 w.2.2.1 w.2.2.2)) {F : Nat → Int32} {A : Nat → Nat → Int32} {J : Nat → Nat → Int64} {x1 : Int32} {w : Unit × (Nat → Int32) × (Nat → Nat → Int32) × (Nat → Nat → Int64)} : d_expression_23 K12 n F A J x1 = some w → k_run t lg (d + 3) 174 23 [(0, .ref 40960), (1, .int x1)] [] (m_h c B F A J) (none, m_h c B w.2.1 w.2.2.1 w.2.2.2) := by
  induction n generalizing F A J x1 w with
  | zero => intro hD; cases hD
  | succ n ih =>
    intro hD
    have hK23 : ∀ (F : Nat → Int32) (A : Nat → Nat → Int32) (J : Nat → Nat → Int64) (x1 : Int32) (w : Unit × (Nat → Int32) × (Nat → Nat → Int32) × (Nat → Nat → Int64)), d_expression_23 K12 n F A J x1 = some w → k_run t lg (d + 3) 174 23 [(0, .ref 40960), (1, .int x1)] [] (m_h c B F A J) (none, m_h c B w.2.1 w.2.2.1 w.2.2.2) := fun _ _ _ _ _ h => ih h
    unfold d_expression_23 at hD
    refine k_runB (pc' := 26) (loc' := [(0, .ref 40960), (1, .int x1)]) (st' := [.int 6, .ref 40960]) 2 rfl ?_
    obtain ⟨v4, hv4, hD⟩ := Option.bind_eq_some_iff.mp hD
    refine k_runC rfl rfl rfl rfl (t_d_is (d := d + 2) hv4) ?_
    refine k_if rfl (fun c29_4 => ?_) (fun c29_4 => ?_)
    · rw [c29_4, cond_true] at hD
      refine k_runB (pc' := 85) (loc' := [(0, .ref 40960), (1, .int x1)]) (st' := [.ref 40960]) 1 rfl ?_
      obtain ⟨⟨v6, F7, A8, J9⟩, hv6, hD⟩ := Option.bind_eq_some_iff.mp hD
      dsimp only at hD
      refine k_runC rfl rfl rfl rfl (t_d_unit (d := d) ht hv6) ?_
      refine k_runB (pc' := 92) (loc' := [(0, .ref 40960), (1, .int x1)]) (st' := [.int (F7 13)]) 2 rfl ?_
      refine k_if rfl (fun c92_9 => ?_) (fun c92_9 => ?_)
      · rw [c92_9, cond_true] at hD
        refine k_wk [0, 1] (loc' := [(0, .ref 40960), (1, .int x1)]) rfl rfl ?_
        exact t_d_expression_96 ht hK12 hD
      · rw [c92_9, cond_false] at hD
        cases hD
        exact k_vret rfl rfl
    · rw [c29_4, cond_false] at hD
      refine k_runB (pc' := 38) (loc' := [(0, .ref 40960), (1, .int x1)]) (st' := [.int 6, .int (F 12)]) 3 rfl ?_
      refine k_ic rfl (fun c38_10 => ?_) (fun c38_10 => ?_)
      · rw [c38_10, cond_true] at hD
        refine k_wk [0, 1] (loc' := [(0, .ref 40960), (1, .int x1)]) rfl rfl ?_
        exact t_d_expression_46 ht hK12 hK23 hD
      · rw [c38_10, cond_false] at hD
        refine k_runB (pc' := 43) (loc' := [(0, .ref 40960), (1, .int x1)]) (st' := [.int 2, .ref 40960]) 2 rfl ?_
        obtain ⟨⟨v12, F13, A14, J15⟩, hv12, hD⟩ := Option.bind_eq_some_iff.mp hD
        dsimp only at hD
        refine k_runC rfl rfl rfl rfl (t_d_fail (d := d + 2) ht hv12) ?_
        refine k_runB (pc' := 53) (loc' := [(0, .ref 40960), (1, .int x1)]) (st' := [.int ((F13 12) + 1), .ref 40960]) 5 rfl ?_
        obtain ⟨F16, hF16, hD⟩ := Option.bind_eq_some_iff.mp hD
        refine k_ptI rfl (ht 12) rfl rfl hF16 ?_
        refine k_runB (pc' := 57) (loc' := [(0, .ref 40960), (1, .int x1)]) (st' := [.ref 40960]) 1 rfl ?_
        obtain ⟨⟨v17, F18, A19, J20⟩, hv17, hD⟩ := Option.bind_eq_some_iff.mp hD
        dsimp only at hD
        refine k_runC rfl rfl rfl rfl (t_d_goesOn (d := d + 1) ht hv17) ?_
        refine k_runB (pc' := 70) (loc' := [(0, .ref 40960), (1, .int x1)]) (st' := [.int 6, .int (F18 60), .ref 41004]) 5 rfl ?_
        obtain ⟨A21, hA21, hD⟩ := Option.bind_eq_some_iff.mp hD
        refine k_stI 44 rfl rfl (fun _ => rfl) hA21 ?_
        refine k_runB (pc' := 78) (loc' := [(0, .ref 40960), (1, .int x1)]) (st' := [.int ((F18 60) + 1), .ref 40960]) 5 rfl ?_
        obtain ⟨F22, hF22, hD⟩ := Option.bind_eq_some_iff.mp hD
        refine k_ptI rfl (ht 60) rfl rfl hF22 ?_
        refine k_runB (pc' := 23) (loc' := [(0, .ref 40960), (1, .int x1)]) (st' := []) 1 rfl ?_
        refine k_wk [0, 1] (loc' := [(0, .ref 40960), (1, .int x1)]) rfl rfl ?_
        exact hK23 _ _ _ _ _ hD
def d_expression_12 : Nat → (Nat → Int32) → (Nat → Nat → Int32) → (Nat → Nat → Int64) → Int32 → Int32 → Option (Unit × (Nat → Int32) × (Nat → Nat → Int32) × (Nat → Nat → Int64))
  | 0, _, _, _, _, _ => none
  | n + 1, F, A, J, x1, x2 => cond (g_cnd .eq x2 0)
    (some ((), F, A, J))
    (cond (g_cnd .ne (F 13) 0)
    (some ((), F, A, J))
    (d_expression_23 (d_expression_12 n) n F A J x1))
theorem t_d_expression_12 (ht : ∀ k, t.1 12 k = k_ty 12 k) {n : Nat}  {F : Nat → Int32} {A : Nat → Nat → Int32} {J : Nat → Nat → Int64} {x1 : Int32} {x2 : Int32} {w : Unit × (Nat → Int32) × (Nat → Nat → Int32) × (Nat → Nat → Int64)} : d_expression_12 n F A J x1 x2 = some w → k_run t lg (d + 3) 174 12 [(0, .ref 40960), (1, .int x1), (2, .int x2)] [] (m_h c B F A J) (none, m_h c B w.2.1 w.2.2.1 w.2.2.2) := by
  induction n generalizing F A J x1 x2 w with
  | zero => intro hD; cases hD
  | succ n ih =>
    intro hD
    have hK12 : ∀ (F : Nat → Int32) (A : Nat → Nat → Int32) (J : Nat → Nat → Int64) (x1 : Int32) (x2 : Int32) (w : Unit × (Nat → Int32) × (Nat → Nat → Int32) × (Nat → Nat → Int64)), d_expression_12 n F A J x1 x2 = some w → k_run t lg (d + 3) 174 12 [(0, .ref 40960), (1, .int x1), (2, .int x2)] [] (m_h c B F A J) (none, m_h c B w.2.1 w.2.2.1 w.2.2.2) := fun _ _ _ _ _ _ h => ih h
    unfold d_expression_12 at hD
    refine k_runB (pc' := 13) (loc' := [(0, .ref 40960), (1, .int x1), (2, .int x2)]) (st' := [.int x2]) 1 rfl ?_
    refine k_if rfl (fun c13_1 => ?_) (fun c13_1 => ?_)
    · rw [c13_1, cond_true] at hD
      cases hD
      exact k_vret rfl rfl
    · rw [c13_1, cond_false] at hD
      refine k_runB (pc' := 20) (loc' := [(0, .ref 40960), (1, .int x1), (2, .int x2)]) (st' := [.int (F 13)]) 2 rfl ?_
      refine k_if rfl (fun c20_2 => ?_) (fun c20_2 => ?_)
      · rw [c20_2, cond_true] at hD
        cases hD
        exact k_vret rfl rfl
      · rw [c20_2, cond_false] at hD
        refine k_wk [0, 1] (loc' := [(0, .ref 40960), (1, .int x1)]) rfl rfl ?_
        exact t_d_expression_23 ht hK12 hD
/-- SleepWorkModel.expression()V -/
def d_expression (n : Nat) (F : Nat → Int32) (A : Nat → Nat → Int32) (J : Nat → Nat → Int64) : Option (Unit × (Nat → Int32) × (Nat → Nat → Int32) × (Nat → Nat → Int64)) :=
  (m_pf F 60 0).bind fun F1 =>
  d_expression_12 n F1 A J (F1 12) 1
theorem t_d_expression (ht : ∀ k, t.1 12 k = k_ty 12 k) {n : Nat} {r : Unit} {F' : Nat → Int32} {A' : Nat → Nat → Int32} {J' : Nat → Nat → Int64} : d_expression n F A J = some (r, F', A', J') → k_run t lg (d + 3) 174 0 [(0, .ref 40960)] [] (m_h c B F A J) (none, m_h c B F' A' J') := by
  intro hD
  unfold d_expression at hD
  refine k_runB (pc' := 2) (loc' := [(0, .ref 40960)]) (st' := [.int 0, .ref 40960]) 2 rfl ?_
  obtain ⟨F1, hF1, hD⟩ := Option.bind_eq_some_iff.mp hD
  refine k_ptI rfl (ht 60) rfl rfl hF1 ?_
  refine k_runB (pc' := 12) (loc' := [(0, .ref 40960), (1, .int (F1 12)), (2, .int 1)]) (st' := []) 5 rfl ?_
  refine k_wk [0, 1, 2] (loc' := [(0, .ref 40960), (1, .int (F1 12)), (2, .int 1)]) rfl rfl ?_
  exact t_d_expression_12 ht  hD
end MD
end Qz9
