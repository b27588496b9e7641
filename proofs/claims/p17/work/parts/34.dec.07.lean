/-! the reference's methods as functions (printed by wip/dec.py) -/
section MD
variable {t : gT} {lg : Nat → Nat} {d : Nat} {c : Nat × Nat} {B : Nat → List gE} {F : Nat → Int32} {A : Nat → Nat → Int32} {J : Nat → Nat → Int64}
/-- SleepWorkModel.where(II)I -/
def d_where (n : Nat) (F : Nat → Int32) (A : Nat → Nat → Int32) (J : Nat → Nat → Int64) (x1 : Int32) (x2 : Int32) : Option (Int32 × (Nat → Int32) × (Nat → Nat → Int32) × (Nat → Nat → Int64)) :=
  (d_isMan F A J x1).bind fun v1 =>
  cond (g_cnd .eq v1 0)
  (some ((-1), F, A, J))
  ((m_ld (A 41) 2 (F 18)).bind fun v3 =>
  (d_in x2 0 v3).bind fun v4 =>
  cond (g_cnd .ne v4 0)
  ((d_takes n F A J).bind fun (_, F7, A8, J9) =>
  (d_fillsWays n F7 A8 J9).bind fun (_, F11, A12, J13) =>
  (m_ld (A12 30) 12 ((6 * (F11 18)) + x1)).bind fun v14 =>
  (m_ld (A12 48) 100 (42 + x1)).bind fun v15 =>
  cond (g_cnd .ge v15 0)
  ((m_ld (A12 48) 100 (42 + x1)).bind fun v17 =>
  (m_ld (A12 20) 12 ((6 * (F11 18)) + v17)).bind fun v18 =>
  (m_ld (A12 49) 64 ((8 * v14) + v18)).bind fun v19 =>
  cond (g_cnd .gt v19 x2)
  (some (v14, F11, A12, J13))
  (some (v18, F11, A12, J13)))
  (some (v14, F11, A12, J13)))
  (some ((-1), F, A, J)))
theorem t_d_where {n : Nat} {x1 : Int32} {x2 : Int32} {r : Int32} {F' : Nat → Int32} {A' : Nat → Nat → Int32} {J' : Nat → Nat → Int64} : d_where n F A J x1 x2 = some (r, F', A', J') → k_run t lg (d + 2) 228 0 [(0, .ref 40960), (1, .int x1), (2, .int x2)] [] (m_h c B F A J) (some (.int r), m_h c B F' A' J') := by
  intro hD
  unfold d_where at hD
  refine k_runB (pc' := 2) (loc' := [(0, .ref 40960), (1, .int x1), (2, .int x2)]) (st' := [.int x1, .ref 40960]) 2 rfl ?_
  obtain ⟨v1, hv1, hD⟩ := Option.bind_eq_some_iff.mp hD
  refine k_runC rfl rfl rfl rfl (t_d_isMan (d := d) hv1) ?_
  refine k_if rfl (fun c5_1 => ?_) (fun c5_1 => ?_)
  · rw [c5_1, cond_true] at hD
    refine k_runB (pc' := 26) (loc' := [(0, .ref 40960), (1, .int x1), (2, .int x2)]) (st' := [.int ((-1))]) 1 rfl ?_
    cases hD
    exact k_iret rfl rfl
  · rw [c5_1, cond_false] at hD
    refine k_runB (pc' := 18) (loc' := [(0, .ref 40960), (1, .int x1), (2, .int x2)]) (st' := [.int (F 18), .ref 41001, .int 0, .int x2]) 6 rfl ?_
    obtain ⟨v3, hv3, hD⟩ := Option.bind_eq_some_iff.mp hD
    refine k_ldI rfl rfl hv3 ?_
    obtain ⟨v4, hv4, hD⟩ := Option.bind_eq_some_iff.mp hD
    refine k_runC rfl rfl rfl rfl (t_d_in (d := d + 1) hv4) ?_
    refine k_if rfl (fun c22_4 => ?_) (fun c22_4 => ?_)
    · rw [c22_4, cond_true] at hD
      refine k_runB (pc' := 28) (loc' := [(0, .ref 40960), (1, .int x1), (2, .int x2)]) (st' := [.ref 40960]) 1 rfl ?_
      obtain ⟨⟨v6, F7, A8, J9⟩, hv6, hD⟩ := Option.bind_eq_some_iff.mp hD
      dsimp only at hD
      refine k_runC rfl rfl rfl rfl (t_d_takes (d := d + 1) hv6) ?_
      refine k_runB (pc' := 32) (loc' := [(0, .ref 40960), (1, .int x1), (2, .int x2)]) (st' := [.ref 40960]) 1 rfl ?_
      obtain ⟨⟨v10, F11, A12, J13⟩, hv10, hD⟩ := Option.bind_eq_some_iff.mp hD
      dsimp only at hD
      refine k_runC rfl rfl rfl rfl (t_d_fillsWays (d := d + 1) hv10) ?_
      refine k_runB (pc' := 48) (loc' := [(0, .ref 40960), (1, .int x1), (2, .int x2)]) (st' := [.int ((6 * (F11 18)) + x1), .ref 40990]) 8 rfl ?_
      obtain ⟨v14, hv14, hD⟩ := Option.bind_eq_some_iff.mp hD
      refine k_ldI rfl rfl hv14 ?_
      refine k_runB (pc' := 58) (loc' := [(0, .ref 40960), (1, .int x1), (2, .int x2), (3, .int v14)]) (st' := [.int (42 + x1), .ref 41008]) 6 rfl ?_
      obtain ⟨v15, hv15, hD⟩ := Option.bind_eq_some_iff.mp hD
      refine k_ldI rfl rfl hv15 ?_
      refine k_if rfl (fun c59_15 => ?_) (fun c59_15 => ?_)
      · rw [c59_15, cond_true] at hD
        refine k_runB (pc' := 83) (loc' := [(0, .ref 40960), (1, .int x1), (2, .int x2), (3, .int v14)]) (st' := [.int (42 + x1), .ref 41008, .int (6 * (F11 18)), .ref 40980]) 11 rfl ?_
        obtain ⟨v17, hv17, hD⟩ := Option.bind_eq_some_iff.mp hD
        refine k_ldI rfl rfl hv17 ?_
        refine k_runB (pc' := 85) (loc' := [(0, .ref 40960), (1, .int x1), (2, .int x2), (3, .int v14)]) (st' := [.int ((6 * (F11 18)) + v17), .ref 40980]) 1 rfl ?_
        obtain ⟨v18, hv18, hD⟩ := Option.bind_eq_some_iff.mp hD
        refine k_ldI rfl rfl hv18 ?_
        refine k_runB (pc' := 99) (loc' := [(0, .ref 40960), (1, .int x1), (2, .int x2), (3, .int v14), (4, .int v18)]) (st' := [.int ((8 * v14) + v18), .ref 41009]) 8 rfl ?_
        obtain ⟨v19, hv19, hD⟩ := Option.bind_eq_some_iff.mp hD
        refine k_ldI rfl rfl hv19 ?_
        refine k_runB (pc' := 101) (loc' := [(0, .ref 40960), (1, .int x1), (2, .int x2), (3, .int v14), (4, .int v18)]) (st' := [.int x2, .int v19]) 1 rfl ?_
        refine k_ic rfl (fun c101_19 => ?_) (fun c101_19 => ?_)
        · rw [c101_19, cond_true] at hD
          refine k_runB (pc' := 110) (loc' := [(0, .ref 40960), (1, .int x1), (2, .int x2), (3, .int v14), (4, .int v18)]) (st' := [.int v14]) 1 rfl ?_
          cases hD
          exact k_iret rfl rfl
        · rw [c101_19, cond_false] at hD
          refine k_runB (pc' := 110) (loc' := [(0, .ref 40960), (1, .int x1), (2, .int x2), (3, .int v14), (4, .int v18)]) (st' := [.int v18]) 2 rfl ?_
          cases hD
          exact k_iret rfl rfl
      · rw [c59_15, cond_false] at hD
        refine k_runB (pc' := 63) (loc' := [(0, .ref 40960), (1, .int x1), (2, .int x2), (3, .int v14)]) (st' := [.int v14]) 1 rfl ?_
        cases hD
        exact k_iret rfl rfl
    · rw [c22_4, cond_false] at hD
      refine k_runB (pc' := 26) (loc' := [(0, .ref 40960), (1, .int x1), (2, .int x2)]) (st' := [.int ((-1))]) 1 rfl ?_
      cases hD
      exact k_iret rfl rfl
/-- SleepWorkModel.strokes(II)I -/
def d_strokes (n : Nat) (F : Nat → Int32) (A : Nat → Nat → Int32) (J : Nat → Nat → Int64) (x1 : Int32) (x2 : Int32) : Option (Int32 × (Nat → Int32) × (Nat → Nat → Int32) × (Nat → Nat → Int64)) :=
  (d_isMan F A J x1).bind fun v1 =>
  cond (g_cnd .eq v1 0)
  (some ((-1), F, A, J))
  ((m_ld (A 41) 2 (F 18)).bind fun v3 =>
  (d_in x2 0 v3).bind fun v4 =>
  cond (g_cnd .ne v4 0)
  ((d_takes n F A J).bind fun (_, F7, A8, J9) =>
  (d_goesTill n F7 A8 J9 x2).bind fun (_, F11, A12, J13) =>
  (m_ld (A12 55) 6 x1).bind fun v14 =>
  some (v14, F11, A12, J13))
  (some ((-1), F, A, J)))
theorem t_d_strokes (ht : ∀ k, t.1 12 k = k_ty 12 k) {n : Nat} {x1 : Int32} {x2 : Int32} {r : Int32} {F' : Nat → Int32} {A' : Nat → Nat → Int32} {J' : Nat → Nat → Int64} : d_strokes n F A J x1 x2 = some (r, F', A', J') → k_run t lg (d + 4) 229 0 [(0, .ref 40960), (1, .int x1), (2, .int x2)] [] (m_h c B F A J) (some (.int r), m_h c B F' A' J') := by
  intro hD
  unfold d_strokes at hD
  refine k_runB (pc' := 2) (loc' := [(0, .ref 40960), (1, .int x1), (2, .int x2)]) (st' := [.int x1, .ref 40960]) 2 rfl ?_
  obtain ⟨v1, hv1, hD⟩ := Option.bind_eq_some_iff.mp hD
  refine k_runC rfl rfl rfl rfl (t_d_isMan (d := d + 2) hv1) ?_
  refine k_if rfl (fun c5_1 => ?_) (fun c5_1 => ?_)
  · rw [c5_1, cond_true] at hD
    refine k_runB (pc' := 26) (loc' := [(0, .ref 40960), (1, .int x1), (2, .int x2)]) (st' := [.int ((-1))]) 1 rfl ?_
    cases hD
    exact k_iret rfl rfl
  · rw [c5_1, cond_false] at hD
    refine k_runB (pc' := 18) (loc' := [(0, .ref 40960), (1, .int x1), (2, .int x2)]) (st' := [.int (F 18), .ref 41001, .int 0, .int x2]) 6 rfl ?_
    obtain ⟨v3, hv3, hD⟩ := Option.bind_eq_some_iff.mp hD
    refine k_ldI rfl rfl hv3 ?_
    obtain ⟨v4, hv4, hD⟩ := Option.bind_eq_some_iff.mp hD
    refine k_runC rfl rfl rfl rfl (t_d_in (d := d + 3) hv4) ?_
    refine k_if rfl (fun c22_4 => ?_) (fun c22_4 => ?_)
    · rw [c22_4, cond_true] at hD
      refine k_runB (pc' := 28) (loc' := [(0, .ref 40960), (1, .int x1), (2, .int x2)]) (st' := [.ref 40960]) 1 rfl ?_
      obtain ⟨⟨v6, F7, A8, J9⟩, hv6, hD⟩ := Option.bind_eq_some_iff.mp hD
      dsimp only at hD
      refine k_runC rfl rfl rfl rfl (t_d_takes (d := d + 3) hv6) ?_
      refine k_runB (pc' := 33) (loc' := [(0, .ref 40960), (1, .int x1), (2, .int x2)]) (st' := [.int x2, .ref 40960]) 2 rfl ?_
      obtain ⟨⟨v10, F11, A12, J13⟩, hv10, hD⟩ := Option.bind_eq_some_iff.mp hD
      dsimp only at hD
      refine k_runC rfl rfl rfl rfl (t_d_goesTill (d := d) ht hv10) ?_
      refine k_runB (pc' := 41) (loc' := [(0, .ref 40960), (1, .int x1), (2, .int x2)]) (st' := [.int x1, .ref 41015]) 3 rfl ?_
      obtain ⟨v14, hv14, hD⟩ := Option.bind_eq_some_iff.mp hD
      refine k_ldI rfl rfl hv14 ?_
      cases hD
      exact k_iret rfl rfl
    · rw [c22_4, cond_false] at hD
      refine k_runB (pc' := 26) (loc' := [(0, .ref 40960), (1, .int x1), (2, .int x2)]) (st' := [.int ((-1))]) 1 rfl ?_
      cases hD
      exact k_iret rfl rfl
/-- SleepWorkModel.forget()I -/
def d_forget (F : Nat → Int32) (A : Nat → Nat → Int32) (J : Nat → Nat → Int64) : Option (Int32 × (Nat → Int32) × (Nat → Nat → Int32) × (Nat → Nat → Int64)) :=
  (m_pf F 77 0).bind fun F1 =>
  some (F 77, F1, A, J)
theorem t_d_forget (ht : ∀ k, t.1 12 k = k_ty 12 k) {r : Int32} {F' : Nat → Int32} {A' : Nat → Nat → Int32} {J' : Nat → Nat → Int64} : d_forget F A J = some (r, F', A', J') → k_run t lg (d) 231 0 [(0, .ref 40960)] [] (m_h c B F A J) (some (.int r), m_h c B F' A' J') := by
  intro hD
  unfold d_forget at hD
  refine k_runB (pc' := 7) (loc' := [(0, .ref 40960), (1, .int (F 77))]) (st' := [.int 0, .ref 40960]) 5 rfl ?_
  obtain ⟨F1, hF1, hD⟩ := Option.bind_eq_some_iff.mp hD
  refine k_ptI rfl (ht 77) rfl rfl hF1 ?_
  refine k_runB (pc' := 11) (loc' := [(0, .ref 40960), (1, .int (F 77))]) (st' := [.int (F 77)]) 1 rfl ?_
  cases hD
  exact k_iret rfl rfl
def d_isSo_7 : Nat → (Nat → Int32) → (Nat → Nat → Int32) → (Nat → Nat → Int64) → Int32 → Int32 → Option (Int32 × (Nat → Int32) × (Nat → Nat → Int32) × (Nat → Nat → Int64))
  | 0, _, _, _, _, _ => none
  | n + 1, F, A, J, x1, x2 => cond (g_cnd .ge x2 x1)
    (some (1, F, A, J))
    ((m_ld (A 58) 30 x2).bind fun v6 =>
    (m_ld (A 59) 30 x2).bind fun v7 =>
    (m_ld (A 48) 100 ((6 + (6 * v6)) + v7)).bind fun v8 =>
    (m_ld (A 60) 30 x2).bind fun v9 =>
    cond (g_cnd .eq v8 v9)
    ((d_isSo_7 n) F A J x1 (x2 + 1))
    (some (0, F, A, J)))
theorem t_d_isSo_7 (ht : ∀ k, t.1 12 k = k_ty 12 k) {n : Nat}  {F : Nat → Int32} {A : Nat → Nat → Int32} {J : Nat → Nat → Int64} {x1 : Int32} {x2 : Int32} {w : Int32 × (Nat → Int32) × (Nat → Nat → Int32) × (Nat → Nat → Int64)} : d_isSo_7 n F A J x1 x2 = some w → k_run t lg (d + 5) 232 7 [(0, .ref 40960), (1, .int x1), (2, .int x2)] [] (m_h c B F A J) (some (.int w.1), m_h c B w.2.1 w.2.2.1 w.2.2.2) := by
  induction n generalizing F A J x1 x2 w with
  | zero => intro hD; cases hD
  | succ n ih =>
    intro hD
    have hK7 : ∀ (F : Nat → Int32) (A : Nat → Nat → Int32) (J : Nat → Nat → Int64) (x1 : Int32) (x2 : Int32) (w : Int32 × (Nat → Int32) × (Nat → Nat → Int32) × (Nat → Nat → Int64)), d_isSo_7 n F A J x1 x2 = some w → k_run t lg (d + 5) 232 7 [(0, .ref 40960), (1, .int x1), (2, .int x2)] [] (m_h c B F A J) (some (.int w.1), m_h c B w.2.1 w.2.2.1 w.2.2.2) := fun _ _ _ _ _ _ h => ih h
    unfold d_isSo_7 at hD
    refine k_runB (pc' := 9) (loc' := [(0, .ref 40960), (1, .int x1), (2, .int x2)]) (st' := [.int x1, .int x2]) 2 rfl ?_
    refine k_ic rfl (fun c9_4 => ?_) (fun c9_4 => ?_)
    · rw [c9_4, cond_true] at hD
      refine k_runB (pc' := 54) (loc' := [(0, .ref 40960), (1, .int x1), (2, .int x2)]) (st' := [.int 1]) 1 rfl ?_
      cases hD
      exact k_zret rfl rfl (Or.inr rfl)
    · rw [c9_4, cond_false] at hD
      refine k_runB (pc' := 25) (loc' := [(0, .ref 40960), (1, .int x1), (2, .int x2)]) (st' := [.int x2, .ref 41018, .int 6, .int 6, .ref 41008]) 7 rfl ?_
      obtain ⟨v6, hv6, hD⟩ := Option.bind_eq_some_iff.mp hD
      refine k_ldI rfl rfl hv6 ?_
      refine k_runB (pc' := 33) (loc' := [(0, .ref 40960), (1, .int x1), (2, .int x2)]) (st' := [.int x2, .ref 41019, .int (6 + (6 * v6)), .ref 41008]) 5 rfl ?_
      obtain ⟨v7, hv7, hD⟩ := Option.bind_eq_some_iff.mp hD
      refine k_ldI rfl rfl hv7 ?_
      refine k_runB (pc' := 35) (loc' := [(0, .ref 40960), (1, .int x1), (2, .int x2)]) (st' := [.int ((6 + (6 * v6)) + v7), .ref 41008]) 1 rfl ?_
      obtain ⟨v8, hv8, hD⟩ := Option.bind_eq_some_iff.mp hD
      refine k_ldI rfl rfl hv8 ?_
      refine k_runB (pc' := 41) (loc' := [(0, .ref 40960), (1, .int x1), (2, .int x2)]) (st' := [.int x2, .ref 41020, .int v8]) 3 rfl ?_
      obtain ⟨v9, hv9, hD⟩ := Option.bind_eq_some_iff.mp hD
      refine k_ldI rfl rfl hv9 ?_
      refine k_ic rfl (fun c42_9 => ?_) (fun c42_9 => ?_)
      · rw [c42_9, cond_true] at hD
        refine k_runB (pc' := 7) (loc' := [(0, .ref 40960), (1, .int x1), (2, .int (x2 + 1))]) (st' := []) 2 rfl ?_
        refine k_wk [0, 1, 2] (loc' := [(0, .ref 40960), (1, .int x1), (2, .int (x2 + 1))]) rfl rfl ?_
        exact hK7 _ _ _ _ _ _ hD
      · rw [c42_9, cond_false] at hD
        refine k_runB (pc' := 46) (loc' := [(0, .ref 40960), (1, .int x1), (2, .int x2)]) (st' := [.int 0]) 1 rfl ?_
        cases hD
        exact k_zret rfl rfl (Or.inl rfl)
/-- SleepWorkModel.isSo(I)Z -/
def d_isSo (n : Nat) (F : Nat → Int32) (A : Nat → Nat → Int32) (J : Nat → Nat → Int64) (x1 : Int32) : Option (Int32 × (Nat → Int32) × (Nat → Nat → Int32) × (Nat → Nat → Int64)) :=
  (d_wholeNight n F A J).bind fun (v1, F2, A3, J4) =>
  d_isSo_7 n F2 A3 J4 x1 0
theorem t_d_isSo (ht : ∀ k, t.1 12 k = k_ty 12 k) {n : Nat} {x1 : Int32} {r : Int32} {F' : Nat → Int32} {A' : Nat → Nat → Int32} {J' : Nat → Nat → Int64} : d_isSo n F A J x1 = some (r, F', A', J') → k_run t lg (d + 5) 232 0 [(0, .ref 40960), (1, .int x1)] [] (m_h c B F A J) (some (.int r), m_h c B F' A' J') := by
  intro hD
  unfold d_isSo at hD
  refine k_runB (pc' := 1) (loc' := [(0, .ref 40960), (1, .int x1)]) (st' := [.ref 40960]) 1 rfl ?_
  obtain ⟨⟨v1, F2, A3, J4⟩, hv1, hD⟩ := Option.bind_eq_some_iff.mp hD
  dsimp only at hD
  refine k_runC rfl rfl rfl rfl (t_d_wholeNight (d := d) ht hv1) ?_
  refine k_runB (pc' := 7) (loc' := [(0, .ref 40960), (1, .int x1), (2, .int 0)]) (st' := []) 3 rfl ?_
  refine k_wk [0, 1, 2] (loc' := [(0, .ref 40960), (1, .int x1), (2, .int 0)]) rfl rfl ?_
  exact t_d_isSo_7 ht  hD
def d_fits_82 (K33 : (Nat → Int32) → (Nat → Nat → Int32) → (Nat → Nat → Int64) → Int32 → Int32 → Int32 → Int32 → Int32 → Option (Int32 × (Nat → Int32) × (Nat → Nat → Int32) × (Nat → Nat → Int64))) (n : Nat) (F : Nat → Int32) (A : Nat → Nat → Int32) (J : Nat → Nat → Int64) (x1 : Int32) (x2 : Int32) (x3 : Int32) (x4 : Int32) (x5 : Int32) : Option (Int32 × (Nat → Int32) × (Nat → Nat → Int32) × (Nat → Nat → Int64)) :=
    K33 F A J x1 x2 x3 x4 (x5 + 1)
theorem t_d_fits_82 (ht : ∀ k, t.1 12 k = k_ty 12 k) {n : Nat} {K33 : (Nat → Int32) → (Nat → Nat → Int32) → (Nat → Nat → Int64) → Int32 → Int32 → Int32 → Int32 → Int32 → Option (Int32 × (Nat → Int32) × (Nat → Nat → Int32) × (Nat → Nat → Int64))} (hK33 : ∀ (F : Nat → Int32) (A : Nat → Nat → Int32) (J : Nat → Nat → Int64) (x1 : Int32) (x2 : Int32) (x3 : Int32) (x4 : Int32) (x5 : Int32) (w : Int32 × (Nat → Int32) × (Nat → Nat → Int32) × (Nat → Nat → Int64)), K33 F A J x1 x2 x3 x4 x5 = some w → k_run t lg (d + 6) 233 33 [(0, .ref 40960), (1, .int x1), (2, .int x2), (3, .int x3), (4, .int x4), (5, .int x5)] [] (m_h c B F A J) (some (.int w.1), m_h c B w.2.1 w.2.2.1 w.2.2.2)) {F : Nat → Int32} {A : Nat → Nat → Int32} {J : Nat → Nat → Int64} {x1 : Int32} {x2 : Int32} {x3 : Int32} {x4 : Int32} {x5 : Int32} {w : Int32 × (Nat → Int32) × (Nat → Nat → Int32) × (Nat → Nat → Int64)} : d_fits_82 K33 n F A J x1 x2 x3 x4 x5 = some w → k_run t lg (d + 6) 233 82 [(0, .ref 40960), (1, .int x1), (2, .int x2), (3, .int x3), (4, .int x4), (5, .int x5)] [] (m_h c B F A J) (some (.int w.1), m_h c B w.2.1 w.2.2.1 w.2.2.2) := by
  intro hD
  unfold d_fits_82 at hD
  refine k_runB (pc' := 33) (loc' := [(0, .ref 40960), (1, .int x1), (2, .int x2), (3, .int x3), (4, .int x4), (5, .int (x5 + 1))]) (st' := []) 2 rfl ?_
  refine k_wk [0, 1, 2, 3, 4, 5] (loc' := [(0, .ref 40960), (1, .int x1), (2, .int x2), (3, .int x3), (4, .int x4), (5, .int (x5 + 1))]) rfl rfl ?_
  exact hK33 _ _ _ _ _ _ _ _ _ hD
def d_fits_33 : Nat → (Nat → Int32) → (Nat → Nat → Int32) → (Nat → Nat → Int64) → Int32 → Int32 → Int32 → Int32 → Int32 → Option (Int32 × (Nat → Int32) × (Nat → Nat → Int32) × (Nat → Nat → Int64))
  | 0, _, _, _, _, _, _, _, _ => none
  | n + 1, F, A, J, x1, x2, x3, x4, x5 => (d_options n F A J).bind fun v6 =>
    cond (g_cnd .ge x5 v6)
    (cond (g_cnd .ne x3 ((-1)))
    (some ((-1), F, A, J))
    (some (x4, F, A, J)))
    ((d_takes n F A J).bind fun (_, F10, A11, J12) =>
    (d_leaves n F10 A11 J12 x1 x5).bind fun (v13, F14, A15, J16) =>
    (d_isSo n F14 A15 J16 x2).bind fun (v17, F18, A19, J20) =>
    cond (g_cnd .ne v17 0)
    (cond (g_cnd .ne x4 x3)
    (d_fits_82 (d_fits_33 n) n F18 A19 J20 x1 x2 x3 (x4 + 1) x5)
    ((d_codeOf n F18 A19 J20 x1 x5).bind fun (v23, F24, A25, J26) =>
    some (v23, F24, A25, J26)))
    (d_fits_82 (d_fits_33 n) n F18 A19 J20 x1 x2 x3 x4 x5))
theorem t_d_fits_33 (ht : ∀ k, t.1 12 k = k_ty 12 k) {n : Nat}  {F : Nat → Int32} {A : Nat → Nat → Int32} {J : Nat → Nat → Int64} {x1 : Int32} {x2 : Int32} {x3 : Int32} {x4 : Int32} {x5 : Int32} {w : Int32 × (Nat → Int32) × (Nat → Nat → Int32) × (Nat → Nat → Int64)} : d_fits_33 n F A J x1 x2 x3 x4 x5 = some w → k_run t lg (d + 6) 233 33 [(0, .ref 40960), (1, .int x1), (2, .int x2), (3, .int x3), (4, .int x4), (5, .int x5)] [] (m_h c B F A J) (some (.int w.1), m_h c B w.2.1 w.2.2.1 w.2.2.2) := by
  induction n generalizing F A J x1 x2 x3 x4 x5 w with
  | zero => intro hD; cases hD
  | succ n ih =>
    intro hD
    have hK33 : ∀ (F : Nat → Int32) (A : Nat → Nat → Int32) (J : Nat → Nat → Int64) (x1 : Int32) (x2 : Int32) (x3 : Int32) (x4 : Int32) (x5 : Int32) (w : Int32 × (Nat → Int32) × (Nat → Nat → Int32) × (Nat → Nat → Int64)), d_fits_33 n F A J x1 x2 x3 x4 x5 = some w → k_run t lg (d + 6) 233 33 [(0, .ref 40960), (1, .int x1), (2, .int x2), (3, .int x3), (4, .int x4), (5, .int x5)] [] (m_h c B F A J) (some (.int w.1), m_h c B w.2.1 w.2.2.1 w.2.2.2) := fun _ _ _ _ _ _ _ _ _ h => ih h
    unfold d_fits_33 at hD
    refine k_runB (pc' := 36) (loc' := [(0, .ref 40960), (1, .int x1), (2, .int x2), (3, .int x3), (4, .int x4), (5, .int x5)]) (st' := [.ref 40960, .int x5]) 2 rfl ?_
    obtain ⟨v6, hv6, hD⟩ := Option.bind_eq_some_iff.mp hD
    refine k_runC rfl rfl rfl rfl (t_d_options (d := d + 4) hv6) ?_
    refine k_ic rfl (fun c39_6 => ?_) (fun c39_6 => ?_)
    · rw [c39_6, cond_true] at hD
      refine k_runB (pc' := 90) (loc' := [(0, .ref 40960), (1, .int x1), (2, .int x2), (3, .int x3), (4, .int x4), (5, .int x5)]) (st' := [.int ((-1)), .int x3]) 2 rfl ?_
      refine k_ic rfl (fun c90_7 => ?_) (fun c90_7 => ?_)
      · rw [c90_7, cond_true] at hD
        refine k_runB (pc' := 99) (loc' := [(0, .ref 40960), (1, .int x1), (2, .int x2), (3, .int x3), (4, .int x4), (5, .int x5)]) (st' := [.int ((-1))]) 1 rfl ?_
        cases hD
        exact k_iret rfl rfl
      · rw [c90_7, cond_false] at hD
        refine k_runB (pc' := 99) (loc' := [(0, .ref 40960), (1, .int x1), (2, .int x2), (3, .int x3), (4, .int x4), (5, .int x5)]) (st' := [.int x4]) 2 rfl ?_
        cases hD
        exact k_iret rfl rfl
    · rw [c39_6, cond_false] at hD
      refine k_runB (pc' := 43) (loc' := [(0, .ref 40960), (1, .int x1), (2, .int x2), (3, .int x3), (4, .int x4), (5, .int x5)]) (st' := [.ref 40960]) 1 rfl ?_
      obtain ⟨⟨v9, F10, A11, J12⟩, hv9, hD⟩ := Option.bind_eq_some_iff.mp hD
      dsimp only at hD
      refine k_runC rfl rfl rfl rfl (t_d_takes (d := d + 5) hv9) ?_
      refine k_runB (pc' := 50) (loc' := [(0, .ref 40960), (1, .int x1), (2, .int x2), (3, .int x3), (4, .int x4), (5, .int x5)]) (st' := [.int x5, .int x1, .ref 40960]) 3 rfl ?_
      obtain ⟨⟨v13, F14, A15, J16⟩, hv13, hD⟩ := Option.bind_eq_some_iff.mp hD
      dsimp only at hD
      refine k_runC rfl rfl rfl rfl (t_d_leaves (d := d + 4) hv13) ?_
      refine k_runB (pc' := 56) (loc' := [(0, .ref 40960), (1, .int x1), (2, .int x2), (3, .int x3), (4, .int x4), (5, .int x5)]) (st' := [.int x2, .ref 40960]) 3 rfl ?_
      obtain ⟨⟨v17, F18, A19, J20⟩, hv17, hD⟩ := Option.bind_eq_some_iff.mp hD
      dsimp only at hD
      refine k_runC rfl rfl rfl rfl (t_d_isSo (d := d) ht hv17) ?_
      refine k_if rfl (fun c59_20 => ?_) (fun c59_20 => ?_)
      · rw [c59_20, cond_true] at hD
        refine k_runB (pc' := 68) (loc' := [(0, .ref 40960), (1, .int x1), (2, .int x2), (3, .int x3), (4, .int x4), (5, .int x5)]) (st' := [.int x3, .int x4]) 2 rfl ?_
        refine k_ic rfl (fun c68_21 => ?_) (fun c68_21 => ?_)
        · rw [c68_21, cond_true] at hD
          refine k_runB (pc' := 82) (loc' := [(0, .ref 40960), (1, .int x1), (2, .int x2), (3, .int x3), (4, .int (x4 + 1)), (5, .int x5)]) (st' := []) 1 rfl ?_
          refine k_wk [0, 1, 2, 3, 4, 5] (loc' := [(0, .ref 40960), (1, .int x1), (2, .int x2), (3, .int x3), (4, .int (x4 + 1)), (5, .int x5)]) rfl rfl ?_
          exact t_d_fits_82 ht hK33 hD
        · rw [c68_21, cond_false] at hD
          refine k_runB (pc' := 75) (loc' := [(0, .ref 40960), (1, .int x1), (2, .int x2), (3, .int x3), (4, .int x4), (5, .int x5)]) (st' := [.int x5, .int x1, .ref 40960]) 3 rfl ?_
          obtain ⟨⟨v23, F24, A25, J26⟩, hv23, hD⟩ := Option.bind_eq_some_iff.mp hD
          dsimp only at hD
          refine k_runC rfl rfl rfl rfl (t_d_codeOf (d := d + 3) hv23) ?_
          cases hD
          exact k_iret rfl rfl
      · rw [c59_20, cond_false] at hD
        refine k_runB (pc' := 82) (loc' := [(0, .ref 40960), (1, .int x1), (2, .int x2), (3, .int x3), (4, .int x4), (5, .int x5)]) (st' := []) 1 rfl ?_
        refine k_wk [0, 1, 2, 3, 4, 5] (loc' := [(0, .ref 40960), (1, .int x1), (2, .int x2), (3, .int x3), (4, .int x4), (5, .int x5)]) rfl rfl ?_
        exact t_d_fits_82 ht hK33 hD
/-- SleepWorkModel.fits(III)I -/
def d_fits (n : Nat) (F : Nat → Int32) (A : Nat → Nat → Int32) (J : Nat → Nat → Int64) (x1 : Int32) (x2 : Int32) (x3 : Int32) : Option (Int32 × (Nat → Int32) × (Nat → Nat → Int32) × (Nat → Nat → Int64)) :=
  (d_isMan F A J x1).bind fun v1 =>
  cond (g_cnd .eq v1 0)
  (some ((-1), F, A, J))
  ((d_in x2 0 (F 77)).bind fun v3 =>
  cond (g_cnd .eq v3 0)
  (some ((-1), F, A, J))
  (cond (g_cnd .ge x3 ((-1)))
  (d_fits_33 n F A J x1 x2 x3 0 0)
  (some ((-1), F, A, J))))
theorem t_d_fits (ht : ∀ k, t.1 12 k = k_ty 12 k) {n : Nat} {x1 : Int32} {x2 : Int32} {x3 : Int32} {r : Int32} {F' : Nat → Int32} {A' : Nat → Nat → Int32} {J' : Nat → Nat → Int64} : d_fits n F A J x1 x2 x3 = some (r, F', A', J') → k_run t lg (d + 6) 233 0 [(0, .ref 40960), (1, .int x1), (2, .int x2), (3, .int x3)] [] (m_h c B F A J) (some (.int r), m_h c B F' A' J') := by
  intro hD
  unfold d_fits at hD
  refine k_runB (pc' := 2) (loc' := [(0, .ref 40960), (1, .int x1), (2, .int x2), (3, .int x3)]) (st' := [.int x1, .ref 40960]) 2 rfl ?_
  obtain ⟨v1, hv1, hD⟩ := Option.bind_eq_some_iff.mp hD
  refine k_runC rfl rfl rfl rfl (t_d_isMan (d := d + 4) hv1) ?_
  refine k_if rfl (fun c5_1 => ?_) (fun c5_1 => ?_)
  · rw [c5_1, cond_true] at hD
    refine k_runB (pc' := 26) (loc' := [(0, .ref 40960), (1, .int x1), (2, .int x2), (3, .int x3)]) (st' := [.int ((-1))]) 1 rfl ?_
    cases hD
    exact k_iret rfl rfl
  · rw [c5_1, cond_false] at hD
    refine k_runB (pc' := 14) (loc' := [(0, .ref 40960), (1, .int x1), (2, .int x2), (3, .int x3)]) (st' := [.int (F 77), .int 0, .int x2]) 4 rfl ?_
    obtain ⟨v3, hv3, hD⟩ := Option.bind_eq_some_iff.mp hD
    refine k_runC rfl rfl rfl rfl (t_d_in (d := d + 5) hv3) ?_
    refine k_if rfl (fun c17_3 => ?_) (fun c17_3 => ?_)
    · rw [c17_3, cond_true] at hD
      refine k_runB (pc' := 26) (loc' := [(0, .ref 40960), (1, .int x1), (2, .int x2), (3, .int x3)]) (st' := [.int ((-1))]) 1 rfl ?_
      cases hD
      exact k_iret rfl rfl
    · rw [c17_3, cond_false] at hD
      refine k_runB (pc' := 22) (loc' := [(0, .ref 40960), (1, .int x1), (2, .int x2), (3, .int x3)]) (st' := [.int ((-1)), .int x3]) 2 rfl ?_
      refine k_ic rfl (fun c22_4 => ?_) (fun c22_4 => ?_)
      · rw [c22_4, cond_true] at hD
        refine k_runB (pc' := 33) (loc' := [(0, .ref 40960), (1, .int x1), (2, .int x2), (3, .int x3), (4, .int 0), (5, .int 0)]) (st' := []) 4 rfl ?_
        refine k_wk [0, 1, 2, 3, 4, 5] (loc' := [(0, .ref 40960), (1, .int x1), (2, .int x2), (3, .int x3), (4, .int 0), (5, .int 0)]) rfl rfl ?_
        exact t_d_fits_33 ht  hD
      · rw [c22_4, cond_false] at hD
        refine k_runB (pc' := 26) (loc' := [(0, .ref 40960), (1, .int x1), (2, .int x2), (3, .int x3)]) (st' := [.int ((-1))]) 1 rfl ?_
        cases hD
        exact k_iret rfl rfl
def d_isSuspect_76 (K2 : (Nat → Int32) → (Nat → Nat → Int32) → (Nat → Nat → Int64) → Int32 → Int32 → Int32 → Option (Int32 × (Nat → Int32) × (Nat → Nat → Int32) × (Nat → Nat → Int64))) (n : Nat) (F : Nat → Int32) (A : Nat → Nat → Int32) (J : Nat → Nat → Int64) (x1 : Int32) (x2 : Int32) (x3 : Int32) : Option (Int32 × (Nat → Int32) × (Nat → Nat → Int32) × (Nat → Nat → Int64)) :=
    K2 F A J x1 x2 (x3 + 1)
theorem t_d_isSuspect_76 (ht : ∀ k, t.1 12 k = k_ty 12 k) {n : Nat} {K2 : (Nat → Int32) → (Nat → Nat → Int32) → (Nat → Nat → Int64) → Int32 → Int32 → Int32 → Option (Int32 × (Nat → Int32) × (Nat → Nat → Int32) × (Nat → Nat → Int64))} (hK2 : ∀ (F : Nat → Int32) (A : Nat → Nat → Int32) (J : Nat → Nat → Int64) (x1 : Int32) (x2 : Int32) (x3 : Int32) (w : Int32 × (Nat → Int32) × (Nat → Nat → Int32) × (Nat → Nat → Int64)), K2 F A J x1 x2 x3 = some w → k_run t lg (d + 6) 234 2 [(0, .ref 40960), (1, .int x1), (2, .int x2), (3, .int x3)] [] (m_h c B F A J) (some (.int w.1), m_h c B w.2.1 w.2.2.1 w.2.2.2)) {F : Nat → Int32} {A : Nat → Nat → Int32} {J : Nat → Nat → Int64} {x1 : Int32} {x2 : Int32} {x3 : Int32} {w : Int32 × (Nat → Int32) × (Nat → Nat → Int32) × (Nat → Nat → Int64)} : d_isSuspect_76 K2 n F A J x1 x2 x3 = some w → k_run t lg (d + 6) 234 76 [(0, .ref 40960), (1, .int x1), (2, .int x2), (3, .int x3)] [] (m_h c B F A J) (some (.int w.1), m_h c B w.2.1 w.2.2.1 w.2.2.2) := by
  intro hD
  unfold d_isSuspect_76 at hD
  refine k_runB (pc' := 2) (loc' := [(0, .ref 40960), (1, .int x1), (2, .int x2), (3, .int (x3 + 1))]) (st' := []) 2 rfl ?_
  refine k_wk [0, 1, 2, 3] (loc' := [(0, .ref 40960), (1, .int x1), (2, .int x2), (3, .int (x3 + 1))]) rfl rfl ?_
  exact hK2 _ _ _ _ _ _ _ hD
def d_isSuspect_66 (K2 : (Nat → Int32) → (Nat → Nat → Int32) → (Nat → Nat → Int64) → Int32 → Int32 → Int32 → Option (Int32 × (Nat → Int32) × (Nat → Nat → Int32) × (Nat → Nat → Int64))) (n : Nat) (F : Nat → Int32) (A : Nat → Nat → Int32) (J : Nat → Nat → Int64) (x1 : Int32) (x2 : Int32) (x3 : Int32) : Option (Int32 × (Nat → Int32) × (Nat → Nat → Int32) × (Nat → Nat → Int64)) :=
    (d_isSo n F A J x2).bind fun (v17, F18, A19, J20) =>
    cond (g_cnd .eq v17 0)
    (d_isSuspect_76 K2 n F18 A19 J20 x1 x2 x3)
    (some (1, F18, A19, J20))
theorem t_d_isSuspect_66 (ht : ∀ k, t.1 12 k = k_ty 12 k) {n : Nat} {K2 : (Nat → Int32) → (Nat → Nat → Int32) → (Nat → Nat → Int64) → Int32 → Int32 → Int32 → Option (Int32 × (Nat → Int32) × (Nat → Nat → Int32) × (Nat → Nat → Int64))} (hK2 : ∀ (F : Nat → Int32) (A : Nat → Nat → Int32) (J : Nat → Nat → Int64) (x1 : Int32) (x2 : Int32) (x3 : Int32) (w : Int32 × (Nat → Int32) × (Nat → Nat → Int32) × (Nat → Nat → Int64)), K2 F A J x1 x2 x3 = some w → k_run t lg (d + 6) 234 2 [(0, .ref 40960), (1, .int x1), (2, .int x2), (3, .int x3)] [] (m_h c B F A J) (some (.int w.1), m_h c B w.2.1 w.2.2.1 w.2.2.2)) {F : Nat → Int32} {A : Nat → Nat → Int32} {J : Nat → Nat → Int64} {x1 : Int32} {x2 : Int32} {x3 : Int32} {w : Int32 × (Nat → Int32) × (Nat → Nat → Int32) × (Nat → Nat → Int64)} : d_isSuspect_66 K2 n F A J x1 x2 x3 = some w → k_run t lg (d + 6) 234 66 [(0, .ref 40960), (1, .int x1), (2, .int x2), (3, .int x3)] [] (m_h c B F A J) (some (.int w.1), m_h c B w.2.1 w.2.2.1 w.2.2.2) := by
  intro hD
  unfold d_isSuspect_66 at hD
  refine k_runB (pc' := 68) (loc' := [(0, .ref 40960), (1, .int x1), (2, .int x2), (3, .int x3)]) (st' := [.int x2, .ref 40960]) 2 rfl ?_
  obtain ⟨⟨v17, F18, A19, J20⟩, hv17, hD⟩ := Option.bind_eq_some_iff.mp hD
  dsimp only at hD
  refine k_runC rfl rfl rfl rfl (t_d_isSo (d := d) ht hv17) ?_
  refine k_if rfl (fun c71_20 => ?_) (fun c71_20 => ?_)
  · rw [c71_20, cond_true] at hD
    refine k_wk [0, 1, 2, 3] (loc' := [(0, .ref 40960), (1, .int x1), (2, .int x2), (3, .int x3)]) rfl rfl ?_
    exact t_d_isSuspect_76 ht hK2 hD
  · rw [c71_20, cond_false] at hD
    refine k_runB (pc' := 75) (loc' := [(0, .ref 40960), (1, .int x1), (2, .int x2), (3, .int x3)]) (st' := [.int 1]) 1 rfl ?_
    cases hD
    exact k_zret rfl rfl (Or.inr rfl)
def d_isSuspect_2 : Nat → (Nat → Int32) → (Nat → Nat → Int32) → (Nat → Nat → Int64) → Int32 → Int32 → Int32 → Option (Int32 × (Nat → Int32) × (Nat → Nat → Int32) × (Nat → Nat → Int64))
  | 0, _, _, _, _, _, _ => none
  | n + 1, F, A, J, x1, x2, x3 => (d_options n F A J).bind fun v1 =>
    cond (g_cnd .ge x3 v1)
    (some (0, F, A, J))
    ((d_takes n F A J).bind fun (_, F4, A5, J6) =>
    (d_leaves n F4 A5 J6 x1 x3).bind fun (v7, F8, A9, J10) =>
    (m_ld (A9 48) 100 (42 + x1)).bind fun v11 =>
    (m_ld (A9 47) 100 (42 + x1)).bind fun v12 =>
    cond (g_cnd .ne v11 v12)
    (d_isSuspect_66 (d_isSuspect_2 n) n F8 A9 J10 x1 x2 x3)
    ((m_ld (A9 48) 100 (48 + x1)).bind fun v14 =>
    (m_ld (A9 47) 100 (48 + x1)).bind fun v15 =>
    cond (g_cnd .ne v14 v15)
    (d_isSuspect_66 (d_isSuspect_2 n) n F8 A9 J10 x1 x2 x3)
    (d_isSuspect_76 (d_isSuspect_2 n) n F8 A9 J10 x1 x2 x3)))
theorem t_d_isSuspect_2 (ht : ∀ k, t.1 12 k = k_ty 12 k) {n : Nat}  {F : Nat → Int32} {A : Nat → Nat → Int32} {J : Nat → Nat → Int64} {x1 : Int32} {x2 : Int32} {x3 : Int32} {w : Int32 × (Nat → Int32) × (Nat → Nat → Int32) × (Nat → Nat → Int64)} : d_isSuspect_2 n F A J x1 x2 x3 = some w → k_run t lg (d + 6) 234 2 [(0, .ref 40960), (1, .int x1), (2, .int x2), (3, .int x3)] [] (m_h c B F A J) (some (.int w.1), m_h c B w.2.1 w.2.2.1 w.2.2.2) := by
  induction n generalizing F A J x1 x2 x3 w with
  | zero => intro hD; cases hD
  | succ n ih =>
    intro hD
    have hK2 : ∀ (F : Nat → Int32) (A : Nat → Nat → Int32) (J : Nat → Nat → Int64) (x1 : Int32) (x2 : Int32) (x3 : Int32) (w : Int32 × (Nat → Int32) × (Nat → Nat → Int32) × (Nat → Nat → Int64)), d_isSuspect_2 n F A J x1 x2 x3 = some w → k_run t lg (d + 6) 234 2 [(0, .ref 40960), (1, .int x1), (2, .int x2), (3, .int x3)] [] (m_h c B F A J) (some (.int w.1), m_h c B w.2.1 w.2.2.1 w.2.2.2) := fun _ _ _ _ _ _ _ h => ih h
    unfold d_isSuspect_2 at hD
    refine k_runB (pc' := 4) (loc' := [(0, .ref 40960), (1, .int x1), (2, .int x2), (3, .int x3)]) (st' := [.ref 40960, .int x3]) 2 rfl ?_
    obtain ⟨v1, hv1, hD⟩ := Option.bind_eq_some_iff.mp hD
    refine k_runC rfl rfl rfl rfl (t_d_options (d := d + 4) hv1) ?_
    refine k_ic rfl (fun c7_1 => ?_) (fun c7_1 => ?_)
    · rw [c7_1, cond_true] at hD
      refine k_runB (pc' := 83) (loc' := [(0, .ref 40960), (1, .int x1), (2, .int x2), (3, .int x3)]) (st' := [.int 0]) 1 rfl ?_
      cases hD
      exact k_zret rfl rfl (Or.inl rfl)
    · rw [c7_1, cond_false] at hD
      refine k_runB (pc' := 11) (loc' := [(0, .ref 40960), (1, .int x1), (2, .int x2), (3, .int x3)]) (st' := [.ref 40960]) 1 rfl ?_
      obtain ⟨⟨v3, F4, A5, J6⟩, hv3, hD⟩ := Option.bind_eq_some_iff.mp hD
      dsimp only at hD
      refine k_runC rfl rfl rfl rfl (t_d_takes (d := d + 5) hv3) ?_
      refine k_runB (pc' := 17) (loc' := [(0, .ref 40960), (1, .int x1), (2, .int x2), (3, .int x3)]) (st' := [.int x3, .int x1, .ref 40960]) 3 rfl ?_
      obtain ⟨⟨v7, F8, A9, J10⟩, hv7, hD⟩ := Option.bind_eq_some_iff.mp hD
      dsimp only at hD
      refine k_runC rfl rfl rfl rfl (t_d_leaves (d := d + 4) hv7) ?_
      refine k_runB (pc' := 29) (loc' := [(0, .ref 40960), (1, .int x1), (2, .int x2), (3, .int x3)]) (st' := [.int (42 + x1), .ref 41008]) 6 rfl ?_
      obtain ⟨v11, hv11, hD⟩ := Option.bind_eq_some_iff.mp hD
      refine k_ldI rfl rfl hv11 ?_
      refine k_runB (pc' := 38) (loc' := [(0, .ref 40960), (1, .int x1), (2, .int x2), (3, .int x3)]) (st' := [.int (42 + x1), .ref 41007, .int v11]) 5 rfl ?_
      obtain ⟨v12, hv12, hD⟩ := Option.bind_eq_some_iff.mp hD
      refine k_ldI rfl rfl hv12 ?_
      refine k_ic rfl (fun c39_12 => ?_) (fun c39_12 => ?_)
      · rw [c39_12, cond_true] at hD
        refine k_wk [0, 1, 2, 3] (loc' := [(0, .ref 40960), (1, .int x1), (2, .int x2), (3, .int x3)]) rfl rfl ?_
        exact t_d_isSuspect_66 ht hK2 hD
      · rw [c39_12, cond_false] at hD
        refine k_runB (pc' := 50) (loc' := [(0, .ref 40960), (1, .int x1), (2, .int x2), (3, .int x3)]) (st' := [.int (48 + x1), .ref 41008]) 5 rfl ?_
        obtain ⟨v14, hv14, hD⟩ := Option.bind_eq_some_iff.mp hD
        refine k_ldI rfl rfl hv14 ?_
        refine k_runB (pc' := 59) (loc' := [(0, .ref 40960), (1, .int x1), (2, .int x2), (3, .int x3)]) (st' := [.int (48 + x1), .ref 41007, .int v14]) 5 rfl ?_
        obtain ⟨v15, hv15, hD⟩ := Option.bind_eq_some_iff.mp hD
        refine k_ldI rfl rfl hv15 ?_
        refine k_ic rfl (fun c60_15 => ?_) (fun c60_15 => ?_)
        · rw [c60_15, cond_true] at hD
          refine k_wk [0, 1, 2, 3] (loc' := [(0, .ref 40960), (1, .int x1), (2, .int x2), (3, .int x3)]) rfl rfl ?_
          exact t_d_isSuspect_66 ht hK2 hD
        · rw [c60_15, cond_false] at hD
          refine k_runB (pc' := 76) (loc' := [(0, .ref 40960), (1, .int x1), (2, .int x2), (3, .int x3)]) (st' := []) 1 rfl ?_
          refine k_wk [0, 1, 2, 3] (loc' := [(0, .ref 40960), (1, .int x1), (2, .int x2), (3, .int x3)]) rfl rfl ?_
          exact t_d_isSuspect_76 ht hK2 hD
/-- SleepWorkModel.isSuspect(II)Z -/
def d_isSuspect (n : Nat) (F : Nat → Int32) (A : Nat → Nat → Int32) (J : Nat → Nat → Int64) (x1 : Int32) (x2 : Int32) : Option (Int32 × (Nat → Int32) × (Nat → Nat → Int32) × (Nat → Nat → Int64)) :=
  d_isSuspect_2 n F A J x1 x2 0
theorem t_d_isSuspect (ht : ∀ k, t.1 12 k = k_ty 12 k) {n : Nat} {x1 : Int32} {x2 : Int32} {r : Int32} {F' : Nat → Int32} {A' : Nat → Nat → Int32} {J' : Nat → Nat → Int64} : d_isSuspect n F A J x1 x2 = some (r, F', A', J') → k_run t lg (d + 6) 234 0 [(0, .ref 40960), (1, .int x1), (2, .int x2)] [] (m_h c B F A J) (some (.int r), m_h c B F' A' J') := by
  intro hD
  unfold d_isSuspect at hD
  refine k_runB (pc' := 2) (loc' := [(0, .ref 40960), (1, .int x1), (2, .int x2), (3, .int 0)]) (st' := []) 2 rfl ?_
  refine k_wk [0, 1, 2, 3] (loc' := [(0, .ref 40960), (1, .int x1), (2, .int x2), (3, .int 0)]) rfl rfl ?_
  exact t_d_isSuspect_2 ht  hD
def d_suspects_41 (K18 : (Nat → Int32) → (Nat → Nat → Int32) → (Nat → Nat → Int64) → Int32 → Int32 → Int32 → Option (Int32 × (Nat → Int32) × (Nat → Nat → Int32) × (Nat → Nat → Int64))) (n : Nat) (F : Nat → Int32) (A : Nat → Nat → Int32) (J : Nat → Nat → Int64) (x1 : Int32) (x2 : Int32) (x3 : Int32) : Option (Int32 × (Nat → Int32) × (Nat → Nat → Int32) × (Nat → Nat → Int64)) :=
    K18 F A J x1 x2 (x3 + 1)
theorem t_d_suspects_41 (ht : ∀ k, t.1 12 k = k_ty 12 k) {n : Nat} {K18 : (Nat → Int32) → (Nat → Nat → Int32) → (Nat → Nat → Int64) → Int32 → Int32 → Int32 → Option (Int32 × (Nat → Int32) × (Nat → Nat → Int32) × (Nat → Nat → Int64))} (hK18 : ∀ (F : Nat → Int32) (A : Nat → Nat → Int32) (J : Nat → Nat → Int64) (x1 : Int32) (x2 : Int32) (x3 : Int32) (w : Int32 × (Nat → Int32) × (Nat → Nat → Int32) × (Nat → Nat → Int64)), K18 F A J x1 x2 x3 = some w → k_run t lg (d + 7) 235 18 [(0, .ref 40960), (1, .int x1), (2, .int x2), (3, .int x3)] [] (m_h c B F A J) (some (.int w.1), m_h c B w.2.1 w.2.2.1 w.2.2.2)) {F : Nat → Int32} {A : Nat → Nat → Int32} {J : Nat → Nat → Int64} {x1 : Int32} {x2 : Int32} {x3 : Int32} {w : Int32 × (Nat → Int32) × (Nat → Nat → Int32) × (Nat → Nat → Int64)} : d_suspects_41 K18 n F A J x1 x2 x3 = some w → k_run t lg (d + 7) 235 41 [(0, .ref 40960), (1, .int x1), (2, .int x2), (3, .int x3)] [] (m_h c B F A J) (some (.int w.1), m_h c B w.2.1 w.2.2.1 w.2.2.2) := by
  intro hD
  unfold d_suspects_41 at hD
  refine k_runB (pc' := 18) (loc' := [(0, .ref 40960), (1, .int x1), (2, .int x2), (3, .int (x3 + 1))]) (st' := []) 2 rfl ?_
  refine k_wk [0, 1, 2, 3] (loc' := [(0, .ref 40960), (1, .int x1), (2, .int x2), (3, .int (x3 + 1))]) rfl rfl ?_
  exact hK18 _ _ _ _ _ _ _ hD
def d_suspects_18 : Nat → (Nat → Int32) → (Nat → Nat → Int32) → (Nat → Nat → Int64) → Int32 → Int32 → Int32 → Option (Int32 × (Nat → Int32) × (Nat → Nat → Int32) × (Nat → Nat → Int64))
  | 0, _, _, _, _, _, _ => none
  | n + 1, F, A, J, x1, x2, x3 => (d_menNow F A J).bind fun v3 =>
    cond (g_cnd .ge x3 v3)
    (some (x2, F, A, J))
    ((d_isSuspect n F A J x3 x1).bind fun (v5, F6, A7, J8) =>
    cond (g_cnd .eq v5 0)
    (d_suspects_41 (d_suspects_18 n) n F6 A7 J8 x1 x2 x3)
    (d_suspects_41 (d_suspects_18 n) n F6 A7 J8 x1 (x2 ||| (1 <<< (x3 &&& 31))) x3))
theorem t_d_suspects_18 (ht : ∀ k, t.1 12 k = k_ty 12 k) {n : Nat}  {F : Nat → Int32} {A : Nat → Nat → Int32} {J : Nat → Nat → Int64} {x1 : Int32} {x2 : Int32} {x3 : Int32} {w : Int32 × (Nat → Int32) × (Nat → Nat → Int32) × (Nat → Nat → Int64)} : d_suspects_18 n F A J x1 x2 x3 = some w → k_run t lg (d + 7) 235 18 [(0, .ref 40960), (1, .int x1), (2, .int x2), (3, .int x3)] [] (m_h c B F A J) (some (.int w.1), m_h c B w.2.1 w.2.2.1 w.2.2.2) := by
  induction n generalizing F A J x1 x2 x3 w with
  | zero => intro hD; cases hD
  | succ n ih =>
    intro hD
    have hK18 : ∀ (F : Nat → Int32) (A : Nat → Nat → Int32) (J : Nat → Nat → Int64) (x1 : Int32) (x2 : Int32) (x3 : Int32) (w : Int32 × (Nat → Int32) × (Nat → Nat → Int32) × (Nat → Nat → Int64)), d_suspects_18 n F A J x1 x2 x3 = some w → k_run t lg (d + 7) 235 18 [(0, .ref 40960), (1, .int x1), (2, .int x2), (3, .int x3)] [] (m_h c B F A J) (some (.int w.1), m_h c B w.2.1 w.2.2.1 w.2.2.2) := fun _ _ _ _ _ _ _ h => ih h
    unfold d_suspects_18 at hD
    refine k_runB (pc' := 20) (loc' := [(0, .ref 40960), (1, .int x1), (2, .int x2), (3, .int x3)]) (st' := [.ref 40960, .int x3]) 2 rfl ?_
    obtain ⟨v3, hv3, hD⟩ := Option.bind_eq_some_iff.mp hD
    refine k_runC rfl rfl rfl rfl (t_d_menNow (d := d + 6) hv3) ?_
    refine k_ic rfl (fun c23_3 => ?_) (fun c23_3 => ?_)
    · rw [c23_3, cond_true] at hD
      refine k_runB (pc' := 48) (loc' := [(0, .ref 40960), (1, .int x1), (2, .int x2), (3, .int x3)]) (st' := [.int x2]) 1 rfl ?_
      cases hD
      exact k_iret rfl rfl
    · rw [c23_3, cond_false] at hD
      refine k_runB (pc' := 29) (loc' := [(0, .ref 40960), (1, .int x1), (2, .int x2), (3, .int x3)]) (st' := [.int x1, .int x3, .ref 40960]) 3 rfl ?_
      obtain ⟨⟨v5, F6, A7, J8⟩, hv5, hD⟩ := Option.bind_eq_some_iff.mp hD
      dsimp only at hD
      refine k_runC rfl rfl rfl rfl (t_d_isSuspect (d := d) ht hv5) ?_
      refine k_if rfl (fun c32_8 => ?_) (fun c32_8 => ?_)
      · rw [c32_8, cond_true] at hD
        refine k_wk [0, 1, 2, 3] (loc' := [(0, .ref 40960), (1, .int x1), (2, .int x2), (3, .int x3)]) rfl rfl ?_
        exact t_d_suspects_41 ht hK18 hD
      · rw [c32_8, cond_false] at hD
        refine k_runB (pc' := 41) (loc' := [(0, .ref 40960), (1, .int x1), (2, .int (x2 ||| (1 <<< (x3 &&& 31)))), (3, .int x3)]) (st' := []) 6 rfl ?_
        refine k_wk [0, 1, 2, 3] (loc' := [(0, .ref 40960), (1, .int x1), (2, .int (x2 ||| (1 <<< (x3 &&& 31)))), (3, .int x3)]) rfl rfl ?_
        exact t_d_suspects_41 ht hK18 hD
/-- SleepWorkModel.suspects(I)I -/
def d_suspects (n : Nat) (F : Nat → Int32) (A : Nat → Nat → Int32) (J : Nat → Nat → Int64) (x1 : Int32) : Option (Int32 × (Nat → Int32) × (Nat → Nat → Int32) × (Nat → Nat → Int64)) :=
  (d_in x1 0 (F 77)).bind fun v1 =>
  cond (g_cnd .ne v1 0)
  (d_suspects_18 n F A J x1 0 0)
  (some ((-1), F, A, J))
theorem t_d_suspects (ht : ∀ k, t.1 12 k = k_ty 12 k) {n : Nat} {x1 : Int32} {r : Int32} {F' : Nat → Int32} {A' : Nat → Nat → Int32} {J' : Nat → Nat → Int64} : d_suspects n F A J x1 = some (r, F', A', J') → k_run t lg (d + 7) 235 0 [(0, .ref 40960), (1, .int x1)] [] (m_h c B F A J) (some (.int r), m_h c B F' A' J') := by
  intro hD
  unfold d_suspects at hD
  refine k_runB (pc' := 6) (loc' := [(0, .ref 40960), (1, .int x1)]) (st' := [.int (F 77), .int 0, .int x1]) 4 rfl ?_
  obtain ⟨v1, hv1, hD⟩ := Option.bind_eq_some_iff.mp hD
  refine k_runC rfl rfl rfl rfl (t_d_in (d := d + 6) hv1) ?_
  refine k_if rfl (fun c9_1 => ?_) (fun c9_1 => ?_)
  · rw [c9_1, cond_true] at hD
    refine k_runB (pc' := 18) (loc' := [(0, .ref 40960), (1, .int x1), (2, .int 0), (3, .int 0)]) (st' := []) 4 rfl ?_
    refine k_wk [0, 1, 2, 3] (loc' := [(0, .ref 40960), (1, .int x1), (2, .int 0), (3, .int 0)]) rfl rfl ?_
    exact t_d_suspects_18 ht  hD
  · rw [c9_1, cond_false] at hD
    refine k_runB (pc' := 13) (loc' := [(0, .ref 40960), (1, .int x1)]) (st' := [.int ((-1))]) 1 rfl ?_
    cases hD
    exact k_iret rfl rfl
def d_pairs_93 (K41 : (Nat → Int32) → (Nat → Nat → Int32) → (Nat → Nat → Int64) → Int32 → Int32 → Int32 → Int32 → Int32 → Option (Int32 × (Nat → Int32) × (Nat → Nat → Int32) × (Nat → Nat → Int64))) (K53 : (Nat → Int32) → (Nat → Nat → Int32) → (Nat → Nat → Int64) → Int32 → Int32 → Int32 → Int32 → Int32 → Int32 → Option (Int32 × (Nat → Int32) × (Nat → Nat → Int32) × (Nat → Nat → Int64))) (n : Nat) (F : Nat → Int32) (A : Nat → Nat → Int32) (J : Nat → Nat → Int64) (x1 : Int32) (x2 : Int32) (x3 : Int32) (x4 : Int32) (x5 : Int32) (x6 : Int32) : Option (Int32 × (Nat → Int32) × (Nat → Nat → Int32) × (Nat → Nat → Int64)) :=
    K53 F A J x1 x2 x3 x4 x5 (x6 + 1)
theorem t_d_pairs_93 (ht : ∀ k, t.1 12 k = k_ty 12 k) {n : Nat} {K41 : (Nat → Int32) → (Nat → Nat → Int32) → (Nat → Nat → Int64) → Int32 → Int32 → Int32 → Int32 → Int32 → Option (Int32 × (Nat → Int32) × (Nat → Nat → Int32) × (Nat → Nat → Int64))} {K53 : (Nat → Int32) → (Nat → Nat → Int32) → (Nat → Nat → Int64) → Int32 → Int32 → Int32 → Int32 → Int32 → Int32 → Option (Int32 × (Nat → Int32) × (Nat → Nat → Int32) × (Nat → Nat → Int64))} (hK41 : ∀ (F : Nat → Int32) (A : Nat → Nat → Int32) (J : Nat → Nat → Int64) (x1 : Int32) (x2 : Int32) (x3 : Int32) (x4 : Int32) (x5 : Int32) (w : Int32 × (Nat → Int32) × (Nat → Nat → Int32) × (Nat → Nat → Int64)), K41 F A J x1 x2 x3 x4 x5 = some w → k_run t lg (d + 6) 236 41 [(0, .ref 40960), (1, .int x1), (2, .int x2), (3, .int x3), (4, .int x4), (5, .int x5)] [] (m_h c B F A J) (some (.int w.1), m_h c B w.2.1 w.2.2.1 w.2.2.2)) (hK53 : ∀ (F : Nat → Int32) (A : Nat → Nat → Int32) (J : Nat → Nat → Int64) (x1 : Int32) (x2 : Int32) (x3 : Int32) (x4 : Int32) (x5 : Int32) (x6 : Int32) (w : Int32 × (Nat → Int32) × (Nat → Nat → Int32) × (Nat → Nat → Int64)), K53 F A J x1 x2 x3 x4 x5 x6 = some w → k_run t lg (d + 6) 236 53 [(0, .ref 40960), (1, .int x1), (2, .int x2), (3, .int x3), (4, .int x4), (5, .int x5), (6, .int x6)] [] (m_h c B F A J) (some (.int w.1), m_h c B w.2.1 w.2.2.1 w.2.2.2)) {F : Nat → Int32} {A : Nat → Nat → Int32} {J : Nat → Nat → Int64} {x1 : Int32} {x2 : Int32} {x3 : Int32} {x4 : Int32} {x5 : Int32} {x6 : Int32} {w : Int32 × (Nat → Int32) × (Nat → Nat → Int32) × (Nat → Nat → Int64)} : d_pairs_93 K41 K53 n F A J x1 x2 x3 x4 x5 x6 = some w → k_run t lg (d + 6) 236 93 [(0, .ref 40960), (1, .int x1), (2, .int x2), (3, .int x3), (4, .int x4), (5, .int x5), (6, .int x6)] [] (m_h c B F A J) (some (.int w.1), m_h c B w.2.1 w.2.2.1 w.2.2.2) := by
  intro hD
  unfold d_pairs_93 at hD
  refine k_runB (pc' := 53) (loc' := [(0, .ref 40960), (1, .int x1), (2, .int x2), (3, .int x3), (4, .int x4), (5, .int x5), (6, .int (x6 + 1))]) (st' := []) 2 rfl ?_
  refine k_wk [0, 1, 2, 3, 4, 5, 6] (loc' := [(0, .ref 40960), (1, .int x1), (2, .int x2), (3, .int x3), (4, .int x4), (5, .int x5), (6, .int (x6 + 1))]) rfl rfl ?_
  exact hK53 _ _ _ _ _ _ _ _ _ _ hD
def d_pairs_53 (K41 : (Nat → Int32) → (Nat → Nat → Int32) → (Nat → Nat → Int64) → Int32 → Int32 → Int32 → Int32 → Int32 → Option (Int32 × (Nat → Int32) × (Nat → Nat → Int32) × (Nat → Nat → Int64))) : Nat → (Nat → Int32) → (Nat → Nat → Int32) → (Nat → Nat → Int64) → Int32 → Int32 → Int32 → Int32 → Int32 → Int32 → Option (Int32 × (Nat → Int32) × (Nat → Nat → Int32) × (Nat → Nat → Int64))
  | 0, _, _, _, _, _, _, _, _, _ => none
  | n + 1, F, A, J, x1, x2, x3, x4, x5, x6 => (d_options n F A J).bind fun v10 =>
    cond (g_cnd .ge x6 v10)
    (K41 F A J x1 x2 x3 x4 (x5 + 1))
    ((d_takes n F A J).bind fun (_, F13, A14, J15) =>
    (d_leaves n F13 A14 J15 x1 x5).bind fun (v16, F17, A18, J19) =>
    (d_leaves n F17 A18 J19 x2 x6).bind fun (v20, F21, A22, J23) =>
    (d_isSo n F21 A22 J23 x3).bind fun (v24, F25, A26, J27) =>
    cond (g_cnd .eq v24 0)
    (d_pairs_93 K41 (d_pairs_53 K41 n) n F25 A26 J27 x1 x2 x3 x4 x5 x6)
    (d_pairs_93 K41 (d_pairs_53 K41 n) n F25 A26 J27 x1 x2 x3 (x4 + 1) x5 x6))
theorem t_d_pairs_53 (ht : ∀ k, t.1 12 k = k_ty 12 k) {n : Nat} {K41 : (Nat → Int32) → (Nat → Nat → Int32) → (Nat → Nat → Int64) → Int32 → Int32 → Int32 → Int32 → Int32 → Option (Int32 × (Nat → Int32) × (Nat → Nat → Int32) × (Nat → Nat → Int64))} (hK41 : ∀ (F : Nat → Int32) (A : Nat → Nat → Int32) (J : Nat → Nat → Int64) (x1 : Int32) (x2 : Int32) (x3 : Int32) (x4 : Int32) (x5 : Int32) (w : Int32 × (Nat → Int32) × (Nat → Nat → Int32) × (Nat → Nat → Int64)), K41 F A J x1 x2 x3 x4 x5 = some w → k_run t lg (d + 6) 236 41 [(0, .ref 40960), (1, .int x1), (2, .int x2), (3, .int x3), (4, .int x4), (5, .int x5)] [] (m_h c B F A J) (some (.int w.1), m_h c B w.2.1 w.2.2.1 w.2.2.2)) {F : Nat → Int32} {A : Nat → Nat → Int32} {J : Nat → Nat → Int64} {x1 : Int32} {x2 : Int32} {x3 : Int32} {x4 : Int32} {x5 : Int32} {x6 : Int32} {w : Int32 × (Nat → Int32) × (Nat → Nat → Int32) × (Nat → Nat → Int64)} : d_pairs_53 K41 n F A J x1 x2 x3 x4 x5 x6 = some w → k_run t lg (d + 6) 236 53 [(0, .ref 40960), (1, .int x1), (2, .int x2), (3, .int x3), (4, .int x4), (5, .int x5), (6, .int x6)] [] (m_h c B F A J) (some (.int w.1), m_h c B w.2.1 w.2.2.1 w.2.2.2) := by
  induction n generalizing F A J x1 x2 x3 x4 x5 x6 w with
  | zero => intro hD; cases hD
  | succ n ih =>
    intro hD
    have hK53 : ∀ (F : Nat → Int32) (A : Nat → Nat → Int32) (J : Nat → Nat → Int64) (x1 : Int32) (x2 : Int32) (x3 : Int32) (x4 : Int32) (x5 : Int32) (x6 : Int32) (w : Int32 × (Nat → Int32) × (Nat → Nat → Int32) × (Nat → Nat → Int64)), d_pairs_53 K41 n F A J x1 x2 x3 x4 x5 x6 = some w → k_run t lg (d + 6) 236 53 [(0, .ref 40960), (1, .int x1), (2, .int x2), (3, .int x3), (4, .int x4), (5, .int x5), (6, .int x6)] [] (m_h c B F A J) (some (.int w.1), m_h c B w.2.1 w.2.2.1 w.2.2.2) := fun _ _ _ _ _ _ _ _ _ _ h => ih h
    unfold d_pairs_53 at hD
    refine k_runB (pc' := 56) (loc' := [(0, .ref 40960), (1, .int x1), (2, .int x2), (3, .int x3), (4, .int x4), (5, .int x5), (6, .int x6)]) (st' := [.ref 40960, .int x6]) 2 rfl ?_
    obtain ⟨v10, hv10, hD⟩ := Option.bind_eq_some_iff.mp hD
    refine k_runC rfl rfl rfl rfl (t_d_options (d := d + 4) hv10) ?_
    refine k_ic rfl (fun c59_10 => ?_) (fun c59_10 => ?_)
    · rw [c59_10, cond_true] at hD
      refine k_runB (pc' := 41) (loc' := [(0, .ref 40960), (1, .int x1), (2, .int x2), (3, .int x3), (4, .int x4), (5, .int (x5 + 1)), (6, .int x6)]) (st' := []) 2 rfl ?_
      refine k_wk [0, 1, 2, 3, 4, 5] (loc' := [(0, .ref 40960), (1, .int x1), (2, .int x2), (3, .int x3), (4, .int x4), (5, .int (x5 + 1))]) rfl rfl ?_
      exact hK41 _ _ _ _ _ _ _ _ _ hD
    · rw [c59_10, cond_false] at hD
      refine k_runB (pc' := 63) (loc' := [(0, .ref 40960), (1, .int x1), (2, .int x2), (3, .int x3), (4, .int x4), (5, .int x5), (6, .int x6)]) (st' := [.ref 40960]) 1 rfl ?_
      obtain ⟨⟨v12, F13, A14, J15⟩, hv12, hD⟩ := Option.bind_eq_some_iff.mp hD
      dsimp only at hD
      refine k_runC rfl rfl rfl rfl (t_d_takes (d := d + 5) hv12) ?_
      refine k_runB (pc' := 70) (loc' := [(0, .ref 40960), (1, .int x1), (2, .int x2), (3, .int x3), (4, .int x4), (5, .int x5), (6, .int x6)]) (st' := [.int x5, .int x1, .ref 40960]) 3 rfl ?_
      obtain ⟨⟨v16, F17, A18, J19⟩, hv16, hD⟩ := Option.bind_eq_some_iff.mp hD
      dsimp only at hD
      refine k_runC rfl rfl rfl rfl (t_d_leaves (d := d + 4) hv16) ?_
      refine k_runB (pc' := 78) (loc' := [(0, .ref 40960), (1, .int x1), (2, .int x2), (3, .int x3), (4, .int x4), (5, .int x5), (6, .int x6)]) (st' := [.int x6, .int x2, .ref 40960]) 4 rfl ?_
      obtain ⟨⟨v20, F21, A22, J23⟩, hv20, hD⟩ := Option.bind_eq_some_iff.mp hD
      dsimp only at hD
      refine k_runC rfl rfl rfl rfl (t_d_leaves (d := d + 4) hv20) ?_
      refine k_runB (pc' := 84) (loc' := [(0, .ref 40960), (1, .int x1), (2, .int x2), (3, .int x3), (4, .int x4), (5, .int x5), (6, .int x6)]) (st' := [.int x3, .ref 40960]) 3 rfl ?_
      obtain ⟨⟨v24, F25, A26, J27⟩, hv24, hD⟩ := Option.bind_eq_some_iff.mp hD
      dsimp only at hD
      refine k_runC rfl rfl rfl rfl (t_d_isSo (d := d) ht hv24) ?_
      refine k_if rfl (fun c87_27 => ?_) (fun c87_27 => ?_)
      · rw [c87_27, cond_true] at hD
        refine k_wk [0, 1, 2, 3, 4, 5, 6] (loc' := [(0, .ref 40960), (1, .int x1), (2, .int x2), (3, .int x3), (4, .int x4), (5, .int x5), (6, .int x6)]) rfl rfl ?_
        exact t_d_pairs_93 ht hK41 hK53 hD
      · rw [c87_27, cond_false] at hD
        refine k_runB (pc' := 93) (loc' := [(0, .ref 40960), (1, .int x1), (2, .int x2), (3, .int x3), (4, .int (x4 + 1)), (5, .int x5), (6, .int x6)]) (st' := []) 1 rfl ?_
        refine k_wk [0, 1, 2, 3, 4, 5, 6] (loc' := [(0, .ref 40960), (1, .int x1), (2, .int x2), (3, .int x3), (4, .int (x4 + 1)), (5, .int x5), (6, .int x6)]) rfl rfl ?_
        exact t_d_pairs_93 ht hK41 hK53 hD
def d_pairs_41 : Nat → (Nat → Int32) → (Nat → Nat → Int32) → (Nat → Nat → Int64) → Int32 → Int32 → Int32 → Int32 → Int32 → Option (Int32 × (Nat → Int32) × (Nat → Nat → Int32) × (Nat → Nat → Int64))
  | 0, _, _, _, _, _, _, _, _ => none
  | n + 1, F, A, J, x1, x2, x3, x4, x5 => (d_options n F A J).bind fun v8 =>
    cond (g_cnd .ge x5 v8)
    (some (x4, F, A, J))
    (d_pairs_53 (d_pairs_41 n) n F A J x1 x2 x3 x4 x5 0)
theorem t_d_pairs_41 (ht : ∀ k, t.1 12 k = k_ty 12 k) {n : Nat}  {F : Nat → Int32} {A : Nat → Nat → Int32} {J : Nat → Nat → Int64} {x1 : Int32} {x2 : Int32} {x3 : Int32} {x4 : Int32} {x5 : Int32} {w : Int32 × (Nat → Int32) × (Nat → Nat → Int32) × (Nat → Nat → Int64)} : d_pairs_41 n F A J x1 x2 x3 x4 x5 = some w → k_run t lg (d + 6) 236 41 [(0, .ref 40960), (1, .int x1), (2, .int x2), (3, .int x3), (4, .int x4), (5, .int x5)] [] (m_h c B F A J) (some (.int w.1), m_h c B w.2.1 w.2.2.1 w.2.2.2) := by
  induction n generalizing F A J x1 x2 x3 x4 x5 w with
  | zero => intro hD; cases hD
  | succ n ih =>
    intro hD
    have hK41 : ∀ (F : Nat → Int32) (A : Nat → Nat → Int32) (J : Nat → Nat → Int64) (x1 : Int32) (x2 : Int32) (x3 : Int32) (x4 : Int32) (x5 : Int32) (w : Int32 × (Nat → Int32) × (Nat → Nat → Int32) × (Nat → Nat → Int64)), d_pairs_41 n F A J x1 x2 x3 x4 x5 = some w → k_run t lg (d + 6) 236 41 [(0, .ref 40960), (1, .int x1), (2, .int x2), (3, .int x3), (4, .int x4), (5, .int x5)] [] (m_h c B F A J) (some (.int w.1), m_h c B w.2.1 w.2.2.1 w.2.2.2) := fun _ _ _ _ _ _ _ _ _ h => ih h
    unfold d_pairs_41 at hD
    refine k_runB (pc' := 44) (loc' := [(0, .ref 40960), (1, .int x1), (2, .int x2), (3, .int x3), (4, .int x4), (5, .int x5)]) (st' := [.ref 40960, .int x5]) 2 rfl ?_
    obtain ⟨v8, hv8, hD⟩ := Option.bind_eq_some_iff.mp hD
    refine k_runC rfl rfl rfl rfl (t_d_options (d := d + 4) hv8) ?_
    refine k_ic rfl (fun c47_8 => ?_) (fun c47_8 => ?_)
    · rw [c47_8, cond_true] at hD
      refine k_runB (pc' := 107) (loc' := [(0, .ref 40960), (1, .int x1), (2, .int x2), (3, .int x3), (4, .int x4), (5, .int x5)]) (st' := [.int x4]) 1 rfl ?_
      cases hD
      exact k_iret rfl rfl
    · rw [c47_8, cond_false] at hD
      refine k_runB (pc' := 53) (loc' := [(0, .ref 40960), (1, .int x1), (2, .int x2), (3, .int x3), (4, .int x4), (5, .int x5), (6, .int 0)]) (st' := []) 2 rfl ?_
      refine k_wk [0, 1, 2, 3, 4, 5, 6] (loc' := [(0, .ref 40960), (1, .int x1), (2, .int x2), (3, .int x3), (4, .int x4), (5, .int x5), (6, .int 0)]) rfl rfl ?_
      exact t_d_pairs_53 ht hK41 hD
/-- SleepWorkModel.pairs(III)I -/
def d_pairs (n : Nat) (F : Nat → Int32) (A : Nat → Nat → Int32) (J : Nat → Nat → Int64) (x1 : Int32) (x2 : Int32) (x3 : Int32) : Option (Int32 × (Nat → Int32) × (Nat → Nat → Int32) × (Nat → Nat → Int64)) :=
  (d_isMan F A J x1).bind fun v1 =>
  cond (g_cnd .eq v1 0)
  (some ((-1), F, A, J))
  ((d_isMan F A J x2).bind fun v3 =>
  cond (g_cnd .eq v3 0)
  (some ((-1), F, A, J))
  (cond (g_cnd .eq x1 x2)
  (some ((-1), F, A, J))
  ((d_in x3 0 (F 77)).bind fun v6 =>
  cond (g_cnd .ne v6 0)
  (d_pairs_41 n F A J x1 x2 x3 0 0)
  (some ((-1), F, A, J)))))
theorem t_d_pairs (ht : ∀ k, t.1 12 k = k_ty 12 k) {n : Nat} {x1 : Int32} {x2 : Int32} {x3 : Int32} {r : Int32} {F' : Nat → Int32} {A' : Nat → Nat → Int32} {J' : Nat → Nat → Int64} : d_pairs n F A J x1 x2 x3 = some (r, F', A', J') → k_run t lg (d + 6) 236 0 [(0, .ref 40960), (1, .int x1), (2, .int x2), (3, .int x3)] [] (m_h c B F A J) (some (.int r), m_h c B F' A' J') := by
  intro hD
  unfold d_pairs at hD
  refine k_runB (pc' := 2) (loc' := [(0, .ref 40960), (1, .int x1), (2, .int x2), (3, .int x3)]) (st' := [.int x1, .ref 40960]) 2 rfl ?_
  obtain ⟨v1, hv1, hD⟩ := Option.bind_eq_some_iff.mp hD
  refine k_runC rfl rfl rfl rfl (t_d_isMan (d := d + 4) hv1) ?_
  refine k_if rfl (fun c5_1 => ?_) (fun c5_1 => ?_)
  · rw [c5_1, cond_true] at hD
    refine k_runB (pc' := 34) (loc' := [(0, .ref 40960), (1, .int x1), (2, .int x2), (3, .int x3)]) (st' := [.int ((-1))]) 1 rfl ?_
    cases hD
    exact k_iret rfl rfl
  · rw [c5_1, cond_false] at hD
    refine k_runB (pc' := 10) (loc' := [(0, .ref 40960), (1, .int x1), (2, .int x2), (3, .int x3)]) (st' := [.int x2, .ref 40960]) 2 rfl ?_
    obtain ⟨v3, hv3, hD⟩ := Option.bind_eq_some_iff.mp hD
    refine k_runC rfl rfl rfl rfl (t_d_isMan (d := d + 4) hv3) ?_
    refine k_if rfl (fun c13_3 => ?_) (fun c13_3 => ?_)
    · rw [c13_3, cond_true] at hD
      refine k_runB (pc' := 34) (loc' := [(0, .ref 40960), (1, .int x1), (2, .int x2), (3, .int x3)]) (st' := [.int ((-1))]) 1 rfl ?_
      cases hD
      exact k_iret rfl rfl
    · rw [c13_3, cond_false] at hD
      refine k_runB (pc' := 18) (loc' := [(0, .ref 40960), (1, .int x1), (2, .int x2), (3, .int x3)]) (st' := [.int x2, .int x1]) 2 rfl ?_
      refine k_ic rfl (fun c18_4 => ?_) (fun c18_4 => ?_)
      · rw [c18_4, cond_true] at hD
        refine k_runB (pc' := 34) (loc' := [(0, .ref 40960), (1, .int x1), (2, .int x2), (3, .int x3)]) (st' := [.int ((-1))]) 1 rfl ?_
        cases hD
        exact k_iret rfl rfl
      · rw [c18_4, cond_false] at hD
        refine k_runB (pc' := 27) (loc' := [(0, .ref 40960), (1, .int x1), (2, .int x2), (3, .int x3)]) (st' := [.int (F 77), .int 0, .int x3]) 4 rfl ?_
        obtain ⟨v6, hv6, hD⟩ := Option.bind_eq_some_iff.mp hD
        refine k_runC rfl rfl rfl rfl (t_d_in (d := d + 5) hv6) ?_
        refine k_if rfl (fun c30_6 => ?_) (fun c30_6 => ?_)
        · rw [c30_6, cond_true] at hD
          refine k_runB (pc' := 41) (loc' := [(0, .ref 40960), (1, .int x1), (2, .int x2), (3, .int x3), (4, .int 0), (5, .int 0)]) (st' := []) 4 rfl ?_
          refine k_wk [0, 1, 2, 3, 4, 5] (loc' := [(0, .ref 40960), (1, .int x1), (2, .int x2), (3, .int x3), (4, .int 0), (5, .int 0)]) rfl rfl ?_
          exact t_d_pairs_41 ht  hD
        · rw [c30_6, cond_false] at hD
          refine k_runB (pc' := 34) (loc' := [(0, .ref 40960), (1, .int x1), (2, .int x2), (3, .int x3)]) (st' := [.int ((-1))]) 1 rfl ?_
          cases hD
          exact k_iret rfl rfl
def d_hold_20 : Nat → (Nat → Int32) → (Nat → Nat → Int32) → (Nat → Nat → Int64) → Int32 → Int32 → Option (Int32 × (Nat → Int32) × (Nat → Nat → Int32) × (Nat → Nat → Int64))
  | 0, _, _, _, _, _ => none
  | n + 1, F, A, J, x1, x2 => cond (g_cnd .ge x2 100)
    (some (1, F, A, J))
    ((m_ld (A 47) 100 x2).bind fun v5 =>
    (m_st A 62 300 ((100 * x1) + x2) v5).bind fun A6 =>
    (d_hold_20 n) F A6 J x1 (x2 + 1))
theorem t_d_hold_20 {n : Nat}  {F : Nat → Int32} {A : Nat → Nat → Int32} {J : Nat → Nat → Int64} {x1 : Int32} {x2 : Int32} {w : Int32 × (Nat → Int32) × (Nat → Nat → Int32) × (Nat → Nat → Int64)} : d_hold_20 n F A J x1 x2 = some w → k_run t lg (d + 1) 237 20 [(0, .ref 40960), (1, .int x1), (2, .int x2)] [] (m_h c B F A J) (some (.int w.1), m_h c B w.2.1 w.2.2.1 w.2.2.2) := by
  induction n generalizing F A J x1 x2 w with
  | zero => intro hD; cases hD
  | succ n ih =>
    intro hD
    have hK20 : ∀ (F : Nat → Int32) (A : Nat → Nat → Int32) (J : Nat → Nat → Int64) (x1 : Int32) (x2 : Int32) (w : Int32 × (Nat → Int32) × (Nat → Nat → Int32) × (Nat → Nat → Int64)), d_hold_20 n F A J x1 x2 = some w → k_run t lg (d + 1) 237 20 [(0, .ref 40960), (1, .int x1), (2, .int x2)] [] (m_h c B F A J) (some (.int w.1), m_h c B w.2.1 w.2.2.1 w.2.2.2) := fun _ _ _ _ _ _ h => ih h
    unfold d_hold_20 at hD
    refine k_runB (pc' := 23) (loc' := [(0, .ref 40960), (1, .int x1), (2, .int x2)]) (st' := [.int 100, .int x2]) 2 rfl ?_
    refine k_ic rfl (fun c23_3 => ?_) (fun c23_3 => ?_)
    · rw [c23_3, cond_true] at hD
      refine k_runB (pc' := 50) (loc' := [(0, .ref 40960), (1, .int x1), (2, .int x2)]) (st' := [.int 1]) 1 rfl ?_
      cases hD
      exact k_zret rfl rfl (Or.inr rfl)
    · rw [c23_3, cond_false] at hD
      refine k_runB (pc' := 41) (loc' := [(0, .ref 40960), (1, .int x1), (2, .int x2)]) (st' := [.int x2, .ref 41007, .int ((100 * x1) + x2), .ref 41022]) 10 rfl ?_
      obtain ⟨v5, hv5, hD⟩ := Option.bind_eq_some_iff.mp hD
      refine k_ldI rfl rfl hv5 ?_
      obtain ⟨A6, hA6, hD⟩ := Option.bind_eq_some_iff.mp hD
      refine k_stI 62 rfl rfl (fun _ => rfl) hA6 ?_
      refine k_runB (pc' := 20) (loc' := [(0, .ref 40960), (1, .int x1), (2, .int (x2 + 1))]) (st' := []) 2 rfl ?_
      refine k_wk [0, 1, 2] (loc' := [(0, .ref 40960), (1, .int x1), (2, .int (x2 + 1))]) rfl rfl ?_
      exact hK20 _ _ _ _ _ _ hD
/-- SleepWorkModel.hold(I)Z -/
def d_hold (n : Nat) (F : Nat → Int32) (A : Nat → Nat → Int32) (J : Nat → Nat → Int64) (x1 : Int32) : Option (Int32 × (Nat → Int32) × (Nat → Nat → Int32) × (Nat → Nat → Int64)) :=
  (d_in x1 0 2).bind fun v1 =>
  cond (g_cnd .ne v1 0)
  ((m_st A 61 3 x1 (vp_nar .boolean 1)).bind fun A3 =>
  d_hold_20 n F A3 J x1 0)
  (some (0, F, A, J))
theorem t_d_hold {n : Nat} {x1 : Int32} {r : Int32} {F' : Nat → Int32} {A' : Nat → Nat → Int32} {J' : Nat → Nat → Int64} : d_hold n F A J x1 = some (r, F', A', J') → k_run t lg (d + 1) 237 0 [(0, .ref 40960), (1, .int x1)] [] (m_h c B F A J) (some (.int r), m_h c B F' A' J') := by
  intro hD
  unfold d_hold at hD
  refine k_runB (pc' := 3) (loc' := [(0, .ref 40960), (1, .int x1)]) (st' := [.int 2, .int 0, .int x1]) 3 rfl ?_
  obtain ⟨v1, hv1, hD⟩ := Option.bind_eq_some_iff.mp hD
  refine k_runC rfl rfl rfl rfl (t_d_in (d := d) hv1) ?_
  refine k_if rfl (fun c6_1 => ?_) (fun c6_1 => ?_)
  · rw [c6_1, cond_true] at hD
    refine k_runB (pc' := 17) (loc' := [(0, .ref 40960), (1, .int x1)]) (st' := [.int 1, .int x1, .ref 41021]) 4 rfl ?_
    obtain ⟨A3, hA3, hD⟩ := Option.bind_eq_some_iff.mp hD
    refine k_stZ 61 rfl rfl (fun _ => rfl) hA3 ?_
    refine k_runB (pc' := 20) (loc' := [(0, .ref 40960), (1, .int x1), (2, .int 0)]) (st' := []) 2 rfl ?_
    refine k_wk [0, 1, 2] (loc' := [(0, .ref 40960), (1, .int x1), (2, .int 0)]) rfl rfl ?_
    exact t_d_hold_20  hD
  · rw [c6_1, cond_false] at hD
    refine k_runB (pc' := 10) (loc' := [(0, .ref 40960), (1, .int x1)]) (st' := [.int 0]) 1 rfl ?_
    cases hD
    exact k_zret rfl rfl (Or.inl rfl)
def d_restore_22 : Nat → (Nat → Int32) → (Nat → Nat → Int32) → (Nat → Nat → Int64) → Int32 → Int32 → Option (Int32 × (Nat → Int32) × (Nat → Nat → Int32) × (Nat → Nat → Int64))
  | 0, _, _, _, _, _ => none
  | n + 1, F, A, J, x1, x2 => cond (g_cnd .ge x2 100)
    ((m_pf F 74 0).bind fun F6 =>
    some (1, F6, A, J))
    ((m_ld (A 62) 300 ((100 * x1) + x2)).bind fun v7 =>
    (m_st A 47 100 x2 v7).bind fun A8 =>
    (d_restore_22 n) F A8 J x1 (x2 + 1))
theorem t_d_restore_22 (ht : ∀ k, t.1 12 k = k_ty 12 k) {n : Nat}  {F : Nat → Int32} {A : Nat → Nat → Int32} {J : Nat → Nat → Int64} {x1 : Int32} {x2 : Int32} {w : Int32 × (Nat → Int32) × (Nat → Nat → Int32) × (Nat → Nat → Int64)} : d_restore_22 n F A J x1 x2 = some w → k_run t lg (d + 1) 238 22 [(0, .ref 40960), (1, .int x1), (2, .int x2)] [] (m_h c B F A J) (some (.int w.1), m_h c B w.2.1 w.2.2.1 w.2.2.2) := by
  induction n generalizing F A J x1 x2 w with
  | zero => intro hD; cases hD
  | succ n ih =>
    intro hD
    have hK22 : ∀ (F : Nat → Int32) (A : Nat → Nat → Int32) (J : Nat → Nat → Int64) (x1 : Int32) (x2 : Int32) (w : Int32 × (Nat → Int32) × (Nat → Nat → Int32) × (Nat → Nat → Int64)), d_restore_22 n F A J x1 x2 = some w → k_run t lg (d + 1) 238 22 [(0, .ref 40960), (1, .int x1), (2, .int x2)] [] (m_h c B F A J) (some (.int w.1), m_h c B w.2.1 w.2.2.1 w.2.2.2) := fun _ _ _ _ _ _ h => ih h
    unfold d_restore_22 at hD
    refine k_runB (pc' := 25) (loc' := [(0, .ref 40960), (1, .int x1), (2, .int x2)]) (st' := [.int 100, .int x2]) 2 rfl ?_
    refine k_ic rfl (fun c25_4 => ?_) (fun c25_4 => ?_)
    · rw [c25_4, cond_true] at hD
      refine k_runB (pc' := 53) (loc' := [(0, .ref 40960), (1, .int x1), (2, .int x2)]) (st' := [.int 0, .ref 40960]) 2 rfl ?_
      obtain ⟨F6, hF6, hD⟩ := Option.bind_eq_some_iff.mp hD
      refine k_ptI rfl (ht 74) rfl rfl hF6 ?_
      refine k_runB (pc' := 57) (loc' := [(0, .ref 40960), (1, .int x1), (2, .int x2)]) (st' := [.int 1]) 1 rfl ?_
      cases hD
      exact k_zret rfl rfl (Or.inr rfl)
    · rw [c25_4, cond_false] at hD
      refine k_runB (pc' := 43) (loc' := [(0, .ref 40960), (1, .int x1), (2, .int x2)]) (st' := [.int ((100 * x1) + x2), .ref 41022, .int x2, .ref 41007]) 10 rfl ?_
      obtain ⟨v7, hv7, hD⟩ := Option.bind_eq_some_iff.mp hD
      refine k_ldI rfl rfl hv7 ?_
      obtain ⟨A8, hA8, hD⟩ := Option.bind_eq_some_iff.mp hD
      refine k_stI 47 rfl rfl (fun _ => rfl) hA8 ?_
      refine k_runB (pc' := 22) (loc' := [(0, .ref 40960), (1, .int x1), (2, .int (x2 + 1))]) (st' := []) 2 rfl ?_
      refine k_wk [0, 1, 2] (loc' := [(0, .ref 40960), (1, .int x1), (2, .int (x2 + 1))]) rfl rfl ?_
      exact hK22 _ _ _ _ _ _ hD
/-- SleepWorkModel.restore(I)Z -/
def d_restore (n : Nat) (F : Nat → Int32) (A : Nat → Nat → Int32) (J : Nat → Nat → Int64) (x1 : Int32) : Option (Int32 × (Nat → Int32) × (Nat → Nat → Int32) × (Nat → Nat → Int64)) :=
  (d_in x1 0 2).bind fun v1 =>
  cond (g_cnd .eq v1 0)
  (some (0, F, A, J))
  ((m_ld (A 61) 3 x1).bind fun v3 =>
  cond (g_cnd .ne v3 0)
  (d_restore_22 n F A J x1 0)
  (some (0, F, A, J)))
theorem t_d_restore (ht : ∀ k, t.1 12 k = k_ty 12 k) {n : Nat} {x1 : Int32} {r : Int32} {F' : Nat → Int32} {A' : Nat → Nat → Int32} {J' : Nat → Nat → Int64} : d_restore n F A J x1 = some (r, F', A', J') → k_run t lg (d + 1) 238 0 [(0, .ref 40960), (1, .int x1)] [] (m_h c B F A J) (some (.int r), m_h c B F' A' J') := by
  intro hD
  unfold d_restore at hD
  refine k_runB (pc' := 3) (loc' := [(0, .ref 40960), (1, .int x1)]) (st' := [.int 2, .int 0, .int x1]) 3 rfl ?_
  obtain ⟨v1, hv1, hD⟩ := Option.bind_eq_some_iff.mp hD
  refine k_runC rfl rfl rfl rfl (t_d_in (d := d) hv1) ?_
  refine k_if rfl (fun c6_1 => ?_) (fun c6_1 => ?_)
  · rw [c6_1, cond_true] at hD
    refine k_runB (pc' := 19) (loc' := [(0, .ref 40960), (1, .int x1)]) (st' := [.int 0]) 1 rfl ?_
    cases hD
    exact k_zret rfl rfl (Or.inl rfl)
  · rw [c6_1, cond_false] at hD
    refine k_runB (pc' := 14) (loc' := [(0, .ref 40960), (1, .int x1)]) (st' := [.int x1, .ref 41021]) 3 rfl ?_
    obtain ⟨v3, hv3, hD⟩ := Option.bind_eq_some_iff.mp hD
    refine k_ldZ rfl rfl hv3 ?_
    refine k_if rfl (fun c15_3 => ?_) (fun c15_3 => ?_)
    · rw [c15_3, cond_true] at hD
      refine k_runB (pc' := 22) (loc' := [(0, .ref 40960), (1, .int x1), (2, .int 0)]) (st' := []) 2 rfl ?_
      refine k_wk [0, 1, 2] (loc' := [(0, .ref 40960), (1, .int x1), (2, .int 0)]) rfl rfl ?_
      exact t_d_restore_22 ht  hD
    · rw [c15_3, cond_false] at hD
      refine k_runB (pc' := 19) (loc' := [(0, .ref 40960), (1, .int x1)]) (st' := [.int 0]) 1 rfl ?_
      cases hD
      exact k_zret rfl rfl (Or.inl rfl)
end MD
