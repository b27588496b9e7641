/-! the reference's methods as functions (printed by wip/dec.py) -/
section MD
variable {t : gT} {lg : Nat → Nat} {d : Nat} {c : Nat × Nat} {B : Nat → List gE} {F : Nat → Int32} {A : Nat → Nat → Int32} {J : Nat → Nat → Int64}
/-- SleepWorkModel.does(II)V -/
def d_does (F : Nat → Int32) (A : Nat → Nat → Int32) (J : Nat → Nat → Int64) (x1 : Int32) (x2 : Int32) : Option (Unit × (Nat → Int32) × (Nat → Nat → Int32) × (Nat → Nat → Int64)) :=
  (m_ld (A 48) 100 ((6 + (6 * x1)) + x2)).bind fun v1 =>
  (m_st A 48 100 ((6 + (6 * x1)) + x2) (v1 + 1)).bind fun A2 =>
  (d_stepAt F A2 J x1 x2).bind fun v3 =>
  (m_ld (A2 28) 72 v3).bind fun v4 =>
  cond (g_cnd .lt v4 0)
  (some ((), F, A2, J))
  ((m_ld (A2 48) 100 ((6 + (6 * x1)) + v4)).bind fun v6 =>
  cond (g_cnd .le v6 0)
  (some ((), F, A2, J))
  ((m_ld (A2 48) 100 ((6 + (6 * x1)) + v4)).bind fun v8 =>
  (m_st A2 48 100 ((6 + (6 * x1)) + v4) (v8 - 1)).bind fun A9 =>
  some ((), F, A9, J)))
theorem t_d_does {x1 : Int32} {x2 : Int32} {r : Unit} {F' : Nat → Int32} {A' : Nat → Nat → Int32} {J' : Nat → Nat → Int64} : d_does F A J x1 x2 = some (r, F', A', J') → k_run t lg (d + 1) 195 0 [(0, .ref 40960), (1, .int x1), (2, .int x2)] [] (m_h c B F A J) (none, m_h c B F' A' J') := by
  intro hD
  unfold d_does at hD
  refine k_runB (pc' := 14) (loc' := [(0, .ref 40960), (1, .int x1), (2, .int x2)]) (st' := [.int ((6 + (6 * x1)) + x2), .ref 41008, .int ((6 + (6 * x1)) + x2), .ref 41008]) 10 rfl ?_
  obtain ⟨v1, hv1, hD⟩ := Option.bind_eq_some_iff.mp hD
  refine k_ldI rfl rfl hv1 ?_
  refine k_runB (pc' := 17) (loc' := [(0, .ref 40960), (1, .int x1), (2, .int x2)]) (st' := [.int (v1 + 1), .int ((6 + (6 * x1)) + x2), .ref 41008]) 2 rfl ?_
  obtain ⟨A2, hA2, hD⟩ := Option.bind_eq_some_iff.mp hD
  refine k_stI 48 rfl rfl (fun _ => rfl) hA2 ?_
  refine k_runB (pc' := 25) (loc' := [(0, .ref 40960), (1, .int x1), (2, .int x2)]) (st' := [.int x2, .int x1, .ref 40960, .ref 40988]) 5 rfl ?_
  obtain ⟨v3, hv3, hD⟩ := Option.bind_eq_some_iff.mp hD
  refine k_runC rfl rfl rfl rfl (t_d_stepAt (d := d) hv3) ?_
  obtain ⟨v4, hv4, hD⟩ := Option.bind_eq_some_iff.mp hD
  refine k_ldI rfl rfl hv4 ?_
  refine k_runB (pc' := 31) (loc' := [(0, .ref 40960), (1, .int x1), (2, .int x2), (3, .int v4)]) (st' := [.int v4]) 2 rfl ?_
  refine k_if rfl (fun c31_4 => ?_) (fun c31_4 => ?_)
  · rw [c31_4, cond_true] at hD
    cases hD
    exact k_vret rfl rfl
  · rw [c31_4, cond_false] at hD
    refine k_runB (pc' := 47) (loc' := [(0, .ref 40960), (1, .int x1), (2, .int x2), (3, .int v4)]) (st' := [.int ((6 + (6 * x1)) + v4), .ref 41008]) 9 rfl ?_
    obtain ⟨v6, hv6, hD⟩ := Option.bind_eq_some_iff.mp hD
    refine k_ldI rfl rfl hv6 ?_
    refine k_if rfl (fun c48_6 => ?_) (fun c48_6 => ?_)
    · rw [c48_6, cond_true] at hD
      cases hD
      exact k_vret rfl rfl
    · rw [c48_6, cond_false] at hD
      refine k_runB (pc' := 65) (loc' := [(0, .ref 40960), (1, .int x1), (2, .int x2), (3, .int v4)]) (st' := [.int ((6 + (6 * x1)) + v4), .ref 41008, .int ((6 + (6 * x1)) + v4), .ref 41008]) 10 rfl ?_
      obtain ⟨v8, hv8, hD⟩ := Option.bind_eq_some_iff.mp hD
      refine k_ldI rfl rfl hv8 ?_
      refine k_runB (pc' := 68) (loc' := [(0, .ref 40960), (1, .int x1), (2, .int x2), (3, .int v4)]) (st' := [.int (v8 - 1), .int ((6 + (6 * x1)) + v4), .ref 41008]) 2 rfl ?_
      obtain ⟨A9, hA9, hD⟩ := Option.bind_eq_some_iff.mp hD
      refine k_stI 48 rfl rfl (fun _ => rfl) hA9 ?_
      cases hD
      exact k_vret rfl rfl
/-- SleepWorkModel.isOver(I)V -/
def d_isOver (F : Nat → Int32) (A : Nat → Nat → Int32) (J : Nat → Nat → Int64) (x1 : Int32) : Option (Unit × (Nat → Int32) × (Nat → Nat → Int32) × (Nat → Nat → Int64)) :=
  (m_ld (A 48) 100 (42 + x1)).bind fun v1 =>
  (m_ld (A 53) 6 x1).bind fun v2 =>
  (d_does F A J v1 v2).bind fun (_, F4, A5, J6) =>
  (m_st A5 50 6 x1 1).bind fun A7 =>
  (m_ld (A7 53) 6 x1).bind fun v8 =>
  (m_st A7 54 6 x1 v8).bind fun A9 =>
  (m_ld (A9 55) 6 x1).bind fun v10 =>
  (m_st A9 55 6 x1 (v10 + 1)).bind fun A11 =>
  some ((), F4, A11, J6)
theorem t_d_isOver {x1 : Int32} {r : Unit} {F' : Nat → Int32} {A' : Nat → Nat → Int32} {J' : Nat → Nat → Int64} : d_isOver F A J x1 = some (r, F', A', J') → k_run t lg (d + 2) 196 0 [(0, .ref 40960), (1, .int x1)] [] (m_h c B F A J) (none, m_h c B F' A' J') := by
  intro hD
  unfold d_isOver at hD
  refine k_runB (pc' := 9) (loc' := [(0, .ref 40960), (1, .int x1)]) (st' := [.int (42 + x1), .ref 41008, .ref 40960]) 6 rfl ?_
  obtain ⟨v1, hv1, hD⟩ := Option.bind_eq_some_iff.mp hD
  refine k_ldI rfl rfl hv1 ?_
  refine k_runB (pc' := 15) (loc' := [(0, .ref 40960), (1, .int x1)]) (st' := [.int x1, .ref 41013, .int v1, .ref 40960]) 3 rfl ?_
  obtain ⟨v2, hv2, hD⟩ := Option.bind_eq_some_iff.mp hD
  refine k_ldI rfl rfl hv2 ?_
  obtain ⟨⟨v3, F4, A5, J6⟩, hv3, hD⟩ := Option.bind_eq_some_iff.mp hD
  dsimp only at hD
  refine k_runC rfl rfl rfl rfl (t_d_does (d := d) hv3) ?_
  refine k_runB (pc' := 25) (loc' := [(0, .ref 40960), (1, .int x1)]) (st' := [.int 1, .int x1, .ref 41010]) 4 rfl ?_
  obtain ⟨A7, hA7, hD⟩ := Option.bind_eq_some_iff.mp hD
  refine k_stI 50 rfl rfl (fun _ => rfl) hA7 ?_
  refine k_runB (pc' := 36) (loc' := [(0, .ref 40960), (1, .int x1)]) (st' := [.int x1, .ref 41013, .int x1, .ref 41014]) 6 rfl ?_
  obtain ⟨v8, hv8, hD⟩ := Option.bind_eq_some_iff.mp hD
  refine k_ldI rfl rfl hv8 ?_
  obtain ⟨A9, hA9, hD⟩ := Option.bind_eq_some_iff.mp hD
  refine k_stI 54 rfl rfl (fun _ => rfl) hA9 ?_
  refine k_runB (pc' := 44) (loc' := [(0, .ref 40960), (1, .int x1)]) (st' := [.int x1, .ref 41015, .int x1, .ref 41015]) 4 rfl ?_
  obtain ⟨v10, hv10, hD⟩ := Option.bind_eq_some_iff.mp hD
  refine k_ldI rfl rfl hv10 ?_
  refine k_runB (pc' := 47) (loc' := [(0, .ref 40960), (1, .int x1)]) (st' := [.int (v10 + 1), .int x1, .ref 41015]) 2 rfl ?_
  obtain ⟨A11, hA11, hD⟩ := Option.bind_eq_some_iff.mp hD
  refine k_stI 55 rfl rfl (fun _ => rfl) hA11 ?_
  cases hD
  exact k_vret rfl rfl
/-- SleepWorkModel.lies(II)V -/
def d_lies (F : Nat → Int32) (A : Nat → Nat → Int32) (J : Nat → Nat → Int64) (x1 : Int32) (x2 : Int32) : Option (Unit × (Nat → Int32) × (Nat → Nat → Int32) × (Nat → Nat → Int64)) :=
  (m_st A 50 6 x1 3).bind fun A1 =>
  (m_st A1 48 100 (66 + x1) x2).bind fun A2 =>
  some ((), F, A2, J)
theorem t_d_lies {x1 : Int32} {x2 : Int32} {r : Unit} {F' : Nat → Int32} {A' : Nat → Nat → Int32} {J' : Nat → Nat → Int64} : d_lies F A J x1 x2 = some (r, F', A', J') → k_run t lg (d) 197 0 [(0, .ref 40960), (1, .int x1), (2, .int x2)] [] (m_h c B F A J) (none, m_h c B F' A' J') := by
  intro hD
  unfold d_lies at hD
  refine k_runB (pc' := 6) (loc' := [(0, .ref 40960), (1, .int x1), (2, .int x2)]) (st' := [.int 3, .int x1, .ref 41010]) 4 rfl ?_
  obtain ⟨A1, hA1, hD⟩ := Option.bind_eq_some_iff.mp hD
  refine k_stI 50 rfl rfl (fun _ => rfl) hA1 ?_
  refine k_runB (pc' := 16) (loc' := [(0, .ref 40960), (1, .int x1), (2, .int x2)]) (st' := [.int x2, .int (66 + x1), .ref 41008]) 6 rfl ?_
  obtain ⟨A2, hA2, hD⟩ := Option.bind_eq_some_iff.mp hD
  refine k_stI 48 rfl rfl (fun _ => rfl) hA2 ?_
  cases hD
  exact k_vret rfl rfl
def d_isInUse_55 (K2 : (Nat → Int32) → (Nat → Nat → Int32) → (Nat → Nat → Int64) → Int32 → Int32 → Int32 → Option Int32) (n : Nat) (F : Nat → Int32) (A : Nat → Nat → Int32) (J : Nat → Nat → Int64) (x1 : Int32) (x2 : Int32) (x3 : Int32) : Option Int32 :=
    K2 F A J x1 x2 (x3 + 1)
theorem t_d_isInUse_55 {n : Nat} {K2 : (Nat → Int32) → (Nat → Nat → Int32) → (Nat → Nat → Int64) → Int32 → Int32 → Int32 → Option Int32} (hK2 : ∀ (F : Nat → Int32) (A : Nat → Nat → Int32) (J : Nat → Nat → Int64) (x1 : Int32) (x2 : Int32) (x3 : Int32) (w : Int32), K2 F A J x1 x2 x3 = some w → k_run t lg (d + 1) 198 2 [(0, .ref 40960), (1, .int x1), (2, .int x2), (3, .int x3)] [] (m_h c B F A J) (some (.int w), m_h c B F A J)) {F : Nat → Int32} {A : Nat → Nat → Int32} {J : Nat → Nat → Int64} {x1 : Int32} {x2 : Int32} {x3 : Int32} {w : Int32} : d_isInUse_55 K2 n F A J x1 x2 x3 = some w → k_run t lg (d + 1) 198 55 [(0, .ref 40960), (1, .int x1), (2, .int x2), (3, .int x3)] [] (m_h c B F A J) (some (.int w), m_h c B F A J) := by
  intro hD
  unfold d_isInUse_55 at hD
  refine k_runB (pc' := 2) (loc' := [(0, .ref 40960), (1, .int x1), (2, .int x2), (3, .int (x3 + 1))]) (st' := []) 2 rfl ?_
  refine k_wk [0, 1, 2, 3] (loc' := [(0, .ref 40960), (1, .int x1), (2, .int x2), (3, .int (x3 + 1))]) rfl rfl ?_
  exact hK2 _ _ _ _ _ _ _ hD
def d_isInUse_2 : Nat → (Nat → Int32) → (Nat → Nat → Int32) → (Nat → Nat → Int64) → Int32 → Int32 → Int32 → Option Int32
  | 0, _, _, _, _, _, _ => none
  | n + 1, F, A, J, x1, x2, x3 => (d_menNow F A J).bind fun v1 =>
    cond (g_cnd .ge x3 v1)
    (some (0))
    (cond (g_cnd .eq x3 x2)
    (d_isInUse_55 (d_isInUse_2 n) n F A J x1 x2 x3)
    ((m_ld (A 50) 6 x3).bind fun v4 =>
    cond (g_cnd .ne v4 2)
    (d_isInUse_55 (d_isInUse_2 n) n F A J x1 x2 x3)
    ((m_ld (A 48) 100 (42 + x3)).bind fun v6 =>
    (m_ld (A 53) 6 x3).bind fun v7 =>
    (d_stepAt F A J v6 v7).bind fun v8 =>
    (m_ld (A 27) 72 v8).bind fun v9 =>
    cond (g_cnd .ne v9 x1)
    (d_isInUse_55 (d_isInUse_2 n) n F A J x1 x2 x3)
    (some (1)))))
theorem t_d_isInUse_2 {n : Nat}  {F : Nat → Int32} {A : Nat → Nat → Int32} {J : Nat → Nat → Int64} {x1 : Int32} {x2 : Int32} {x3 : Int32} {w : Int32} : d_isInUse_2 n F A J x1 x2 x3 = some w → k_run t lg (d + 1) 198 2 [(0, .ref 40960), (1, .int x1), (2, .int x2), (3, .int x3)] [] (m_h c B F A J) (some (.int w), m_h c B F A J) := by
  induction n generalizing F A J x1 x2 x3 w with
  | zero => intro hD; cases hD
  | succ n ih =>
    intro hD
    have hK2 : ∀ (F : Nat → Int32) (A : Nat → Nat → Int32) (J : Nat → Nat → Int64) (x1 : Int32) (x2 : Int32) (x3 : Int32) (w : Int32), d_isInUse_2 n F A J x1 x2 x3 = some w → k_run t lg (d + 1) 198 2 [(0, .ref 40960), (1, .int x1), (2, .int x2), (3, .int x3)] [] (m_h c B F A J) (some (.int w), m_h c B F A J) := fun _ _ _ _ _ _ _ h => ih h
    unfold d_isInUse_2 at hD
    refine k_runB (pc' := 4) (loc' := [(0, .ref 40960), (1, .int x1), (2, .int x2), (3, .int x3)]) (st' := [.ref 40960, .int x3]) 2 rfl ?_
    obtain ⟨v1, hv1, hD⟩ := Option.bind_eq_some_iff.mp hD
    refine k_runC rfl rfl rfl rfl (t_d_menNow (d := d) hv1) ?_
    refine k_ic rfl (fun c7_1 => ?_) (fun c7_1 => ?_)
    · rw [c7_1, cond_true] at hD
      refine k_runB (pc' := 62) (loc' := [(0, .ref 40960), (1, .int x1), (2, .int x2), (3, .int x3)]) (st' := [.int 0]) 1 rfl ?_
      cases hD
      exact k_zret rfl rfl (Or.inl rfl)
    · rw [c7_1, cond_false] at hD
      refine k_runB (pc' := 12) (loc' := [(0, .ref 40960), (1, .int x1), (2, .int x2), (3, .int x3)]) (st' := [.int x2, .int x3]) 2 rfl ?_
      refine k_ic rfl (fun c12_2 => ?_) (fun c12_2 => ?_)
      · rw [c12_2, cond_true] at hD
        refine k_wk [0, 1, 2, 3] (loc' := [(0, .ref 40960), (1, .int x1), (2, .int x2), (3, .int x3)]) rfl rfl ?_
        exact t_d_isInUse_55 hK2 hD
      · rw [c12_2, cond_false] at hD
        refine k_runB (pc' := 20) (loc' := [(0, .ref 40960), (1, .int x1), (2, .int x2), (3, .int x3)]) (st' := [.int x3, .ref 41010]) 3 rfl ?_
        obtain ⟨v4, hv4, hD⟩ := Option.bind_eq_some_iff.mp hD
        refine k_ldI rfl rfl hv4 ?_
        refine k_runB (pc' := 22) (loc' := [(0, .ref 40960), (1, .int x1), (2, .int x2), (3, .int x3)]) (st' := [.int 2, .int v4]) 1 rfl ?_
        refine k_ic rfl (fun c22_4 => ?_) (fun c22_4 => ?_)
        · rw [c22_4, cond_true] at hD
          refine k_wk [0, 1, 2, 3] (loc' := [(0, .ref 40960), (1, .int x1), (2, .int x2), (3, .int x3)]) rfl rfl ?_
          exact t_d_isInUse_55 hK2 hD
        · rw [c22_4, cond_false] at hD
          refine k_runB (pc' := 38) (loc' := [(0, .ref 40960), (1, .int x1), (2, .int x2), (3, .int x3)]) (st' := [.int (42 + x3), .ref 41008, .ref 40960, .ref 40987]) 8 rfl ?_
          obtain ⟨v6, hv6, hD⟩ := Option.bind_eq_some_iff.mp hD
          refine k_ldI rfl rfl hv6 ?_
          refine k_runB (pc' := 44) (loc' := [(0, .ref 40960), (1, .int x1), (2, .int x2), (3, .int x3)]) (st' := [.int x3, .ref 41013, .int v6, .ref 40960, .ref 40987]) 3 rfl ?_
          obtain ⟨v7, hv7, hD⟩ := Option.bind_eq_some_iff.mp hD
          refine k_ldI rfl rfl hv7 ?_
          obtain ⟨v8, hv8, hD⟩ := Option.bind_eq_some_iff.mp hD
          refine k_runC rfl rfl rfl rfl (t_d_stepAt (d := d) hv8) ?_
          obtain ⟨v9, hv9, hD⟩ := Option.bind_eq_some_iff.mp hD
          refine k_ldI rfl rfl hv9 ?_
          refine k_runB (pc' := 50) (loc' := [(0, .ref 40960), (1, .int x1), (2, .int x2), (3, .int x3)]) (st' := [.int x1, .int v9]) 1 rfl ?_
          refine k_ic rfl (fun c50_9 => ?_) (fun c50_9 => ?_)
          · rw [c50_9, cond_true] at hD
            refine k_wk [0, 1, 2, 3] (loc' := [(0, .ref 40960), (1, .int x1), (2, .int x2), (3, .int x3)]) rfl rfl ?_
            exact t_d_isInUse_55 hK2 hD
          · rw [c50_9, cond_false] at hD
            refine k_runB (pc' := 54) (loc' := [(0, .ref 40960), (1, .int x1), (2, .int x2), (3, .int x3)]) (st' := [.int 1]) 1 rfl ?_
            cases hD
            exact k_zret rfl rfl (Or.inr rfl)
/-- SleepWorkModel.isInUse(II)Z -/
def d_isInUse (n : Nat) (F : Nat → Int32) (A : Nat → Nat → Int32) (J : Nat → Nat → Int64) (x1 : Int32) (x2 : Int32) : Option Int32 :=
  d_isInUse_2 n F A J x1 x2 0
theorem t_d_isInUse {n : Nat} {x1 : Int32} {x2 : Int32} {r : Int32} : d_isInUse n F A J x1 x2 = some r → k_run t lg (d + 1) 198 0 [(0, .ref 40960), (1, .int x1), (2, .int x2)] [] (m_h c B F A J) (some (.int r), m_h c B F A J) := by
  intro hD
  unfold d_isInUse at hD
  refine k_runB (pc' := 2) (loc' := [(0, .ref 40960), (1, .int x1), (2, .int x2), (3, .int 0)]) (st' := []) 2 rfl ?_
  refine k_wk [0, 1, 2, 3] (loc' := [(0, .ref 40960), (1, .int x1), (2, .int x2), (3, .int 0)]) rfl rfl ?_
  exact t_d_isInUse_2  hD
def d_begins1_147 (n : Nat) (F : Nat → Int32) (A : Nat → Nat → Int32) (J : Nat → Nat → Int64) (x1 : Int32) (x2 : Int32) (x3 : Int32) (x4 : Int32) : Option (Unit × (Nat → Int32) × (Nat → Nat → Int32) × (Nat → Nat → Int64)) :=
    (m_ld (A 48) 100 x3).bind fun v31 =>
    (m_st A 48 100 x3 (v31 - 1)).bind fun A32 =>
    (m_st A32 53 6 x1 x4).bind fun A33 =>
    (m_st A33 50 6 x1 2).bind fun A34 =>
    (d_stepAt F A34 J x3 x4).bind fun v35 =>
    (m_ld (A34 23) 72 v35).bind fun v36 =>
    (m_st A34 52 6 x1 (x2 + v36)).bind fun A37 =>
    some ((), F, A37, J)
theorem t_d_begins1_147 (ht : ∀ k, t.1 12 k = k_ty 12 k) {n : Nat}  {F : Nat → Int32} {A : Nat → Nat → Int32} {J : Nat → Nat → Int64} {x1 : Int32} {x2 : Int32} {x3 : Int32} {x4 : Int32} {w : Unit × (Nat → Int32) × (Nat → Nat → Int32) × (Nat → Nat → Int64)} : d_begins1_147 n F A J x1 x2 x3 x4 = some w → k_run t lg (d + 2) 199 147 [(0, .ref 40960), (1, .int x1), (2, .int x2), (3, .int x3), (4, .int x4)] [] (m_h c B F A J) (none, m_h c B w.2.1 w.2.2.1 w.2.2.2) := by
  intro hD
  unfold d_begins1_147 at hD
  refine k_runB (pc' := 153) (loc' := [(0, .ref 40960), (1, .int x1), (2, .int x2), (3, .int x3), (4, .int x4)]) (st' := [.int x3, .ref 41008, .int x3, .ref 41008]) 4 rfl ?_
  obtain ⟨v31, hv31, hD⟩ := Option.bind_eq_some_iff.mp hD
  refine k_ldI rfl rfl hv31 ?_
  refine k_runB (pc' := 156) (loc' := [(0, .ref 40960), (1, .int x1), (2, .int x2), (3, .int x3), (4, .int x4)]) (st' := [.int (v31 - 1), .int x3, .ref 41008]) 2 rfl ?_
  obtain ⟨A32, hA32, hD⟩ := Option.bind_eq_some_iff.mp hD
  refine k_stI 48 rfl rfl (fun _ => rfl) hA32 ?_
  refine k_runB (pc' := 164) (loc' := [(0, .ref 40960), (1, .int x1), (2, .int x2), (3, .int x3), (4, .int x4)]) (st' := [.int x4, .int x1, .ref 41013]) 4 rfl ?_
  obtain ⟨A33, hA33, hD⟩ := Option.bind_eq_some_iff.mp hD
  refine k_stI 53 rfl rfl (fun _ => rfl) hA33 ?_
  refine k_runB (pc' := 171) (loc' := [(0, .ref 40960), (1, .int x1), (2, .int x2), (3, .int x3), (4, .int x4)]) (st' := [.int 2, .int x1, .ref 41010]) 4 rfl ?_
  obtain ⟨A34, hA34, hD⟩ := Option.bind_eq_some_iff.mp hD
  refine k_stI 50 rfl rfl (fun _ => rfl) hA34 ?_
  refine k_runB (pc' := 186) (loc' := [(0, .ref 40960), (1, .int x1), (2, .int x2), (3, .int x3), (4, .int x4)]) (st' := [.int x4, .int x3, .ref 40960, .ref 40983, .int x2, .int x1, .ref 41012]) 9 rfl ?_
  obtain ⟨v35, hv35, hD⟩ := Option.bind_eq_some_iff.mp hD
  refine k_runC rfl rfl rfl rfl (t_d_stepAt (d := d + 1) hv35) ?_
  obtain ⟨v36, hv36, hD⟩ := Option.bind_eq_some_iff.mp hD
  refine k_ldI rfl rfl hv36 ?_
  refine k_runB (pc' := 191) (loc' := [(0, .ref 40960), (1, .int x1), (2, .int x2), (3, .int x3), (4, .int x4)]) (st' := [.int (x2 + v36), .int x1, .ref 41012]) 1 rfl ?_
  obtain ⟨A37, hA37, hD⟩ := Option.bind_eq_some_iff.mp hD
  refine k_stI 52 rfl rfl (fun _ => rfl) hA37 ?_
  cases hD
  exact k_vret rfl rfl
def d_begins1_131 (n : Nat) (F : Nat → Int32) (A : Nat → Nat → Int32) (J : Nat → Nat → Int64) (x1 : Int32) (x2 : Int32) (x3 : Int32) (x4 : Int32) (x5 : Int32) (x6 : Int32) : Option (Unit × (Nat → Int32) × (Nat → Nat → Int32) × (Nat → Nat → Int64)) :=
    cond (g_cnd .ne x6 0)
    (d_begins1_147 n F A J x1 x2 x3 x4)
    ((d_isInUse n F A J x5 x1).bind fun v29 =>
    cond (g_cnd .eq v29 0)
    (d_begins1_147 n F A J x1 x2 x3 x4)
    (some ((), F, A, J)))
theorem t_d_begins1_131 (ht : ∀ k, t.1 12 k = k_ty 12 k) {n : Nat}  {F : Nat → Int32} {A : Nat → Nat → Int32} {J : Nat → Nat → Int64} {x1 : Int32} {x2 : Int32} {x3 : Int32} {x4 : Int32} {x5 : Int32} {x6 : Int32} {w : Unit × (Nat → Int32) × (Nat → Nat → Int32) × (Nat → Nat → Int64)} : d_begins1_131 n F A J x1 x2 x3 x4 x5 x6 = some w → k_run t lg (d + 2) 199 131 [(0, .ref 40960), (1, .int x1), (2, .int x2), (3, .int x3), (4, .int x4), (5, .int x5), (6, .int x6)] [] (m_h c B F A J) (none, m_h c B w.2.1 w.2.2.1 w.2.2.2) := by
  intro hD
  unfold d_begins1_131 at hD
  refine k_runB (pc' := 133) (loc' := [(0, .ref 40960), (1, .int x1), (2, .int x2), (3, .int x3), (4, .int x4), (5, .int x5), (6, .int x6)]) (st' := [.int x6]) 1 rfl ?_
  refine k_if rfl (fun c133_27 => ?_) (fun c133_27 => ?_)
  · rw [c133_27, cond_true] at hD
    refine k_wk [0, 1, 2, 3, 4] (loc' := [(0, .ref 40960), (1, .int x1), (2, .int x2), (3, .int x3), (4, .int x4)]) rfl rfl ?_
    exact t_d_begins1_147 ht  hD
  · rw [c133_27, cond_false] at hD
    refine k_runB (pc' := 140) (loc' := [(0, .ref 40960), (1, .int x1), (2, .int x2), (3, .int x3), (4, .int x4), (5, .int x5), (6, .int x6)]) (st' := [.int x1, .int x5, .ref 40960]) 3 rfl ?_
    obtain ⟨v29, hv29, hD⟩ := Option.bind_eq_some_iff.mp hD
    refine k_runC rfl rfl rfl rfl (t_d_isInUse (d := d) hv29) ?_
    refine k_if rfl (fun c143_29 => ?_) (fun c143_29 => ?_)
    · rw [c143_29, cond_true] at hD
      refine k_wk [0, 1, 2, 3, 4] (loc' := [(0, .ref 40960), (1, .int x1), (2, .int x2), (3, .int x3), (4, .int x4)]) rfl rfl ?_
      exact t_d_begins1_147 ht  hD
    · rw [c143_29, cond_false] at hD
      cases hD
      exact k_vret rfl rfl
def d_begins1_124 (n : Nat) (F : Nat → Int32) (A : Nat → Nat → Int32) (J : Nat → Nat → Int64) (x1 : Int32) (x2 : Int32) : Option (Unit × (Nat → Int32) × (Nat → Nat → Int32) × (Nat → Nat → Int64)) :=
    (d_lies F A J x1 x2).bind fun (_, F25, A26, J27) =>
    some ((), F25, A26, J27)
theorem t_d_begins1_124 (ht : ∀ k, t.1 12 k = k_ty 12 k) {n : Nat}  {F : Nat → Int32} {A : Nat → Nat → Int32} {J : Nat → Nat → Int64} {x1 : Int32} {x2 : Int32} {w : Unit × (Nat → Int32) × (Nat → Nat → Int32) × (Nat → Nat → Int64)} : d_begins1_124 n F A J x1 x2 = some w → k_run t lg (d + 2) 199 124 [(0, .ref 40960), (1, .int x1), (2, .int x2)] [] (m_h c B F A J) (none, m_h c B w.2.1 w.2.2.1 w.2.2.2) := by
  intro hD
  unfold d_begins1_124 at hD
  refine k_runB (pc' := 127) (loc' := [(0, .ref 40960), (1, .int x1), (2, .int x2)]) (st' := [.int x2, .int x1, .ref 40960]) 3 rfl ?_
  obtain ⟨⟨v24, F25, A26, J27⟩, hv24, hD⟩ := Option.bind_eq_some_iff.mp hD
  dsimp only at hD
  refine k_runC rfl rfl rfl rfl (t_d_lies (d := d + 1) hv24) ?_
  cases hD
  exact k_vret rfl rfl
def d_begins1_81 (n : Nat) (F : Nat → Int32) (A : Nat → Nat → Int32) (J : Nat → Nat → Int64) (x1 : Int32) (x2 : Int32) (x3 : Int32) (x4 : Int32) (x5 : Int32) (s0 : Int32) : Option (Unit × (Nat → Int32) × (Nat → Nat → Int32) × (Nat → Nat → Int64)) :=
    (m_ld (A 48) 100 x3).bind fun v18 =>
    cond (g_cnd .eq v18 0)
    (d_begins1_124 n F A J x1 x2)
    (cond (g_cnd .ne s0 0)
    (d_begins1_131 n F A J x1 x2 x3 x4 x5 s0)
    ((m_ld (A 48) 100 (72 + x5)).bind fun v21 =>
    (m_ld (A 20) 12 ((6 * (F 18)) + x3)).bind fun v22 =>
    cond (g_cnd .eq v21 v22)
    (d_begins1_131 n F A J x1 x2 x3 x4 x5 s0)
    (d_begins1_124 n F A J x1 x2)))
theorem t_d_begins1_81 (ht : ∀ k, t.1 12 k = k_ty 12 k) {n : Nat}  {F : Nat → Int32} {A : Nat → Nat → Int32} {J : Nat → Nat → Int64} {x1 : Int32} {x2 : Int32} {x3 : Int32} {x4 : Int32} {x5 : Int32} {s0 : Int32} {w : Unit × (Nat → Int32) × (Nat → Nat → Int32) × (Nat → Nat → Int64)} : d_begins1_81 n F A J x1 x2 x3 x4 x5 s0 = some w → k_run t lg (d + 2) 199 81 [(0, .ref 40960), (1, .int x1), (2, .int x2), (3, .int x3), (4, .int x4), (5, .int x5)] [.int s0] (m_h c B F A J) (none, m_h c B w.2.1 w.2.2.1 w.2.2.2) := by
  intro hD
  unfold d_begins1_81 at hD
  refine k_runB (pc' := 88) (loc' := [(0, .ref 40960), (1, .int x1), (2, .int x2), (3, .int x3), (4, .int x4), (5, .int x5), (6, .int s0)]) (st' := [.int x3, .ref 41008]) 4 rfl ?_
  obtain ⟨v18, hv18, hD⟩ := Option.bind_eq_some_iff.mp hD
  refine k_ldI rfl rfl hv18 ?_
  refine k_if rfl (fun c89_18 => ?_) (fun c89_18 => ?_)
  · rw [c89_18, cond_true] at hD
    refine k_wk [0, 1, 2] (loc' := [(0, .ref 40960), (1, .int x1), (2, .int x2)]) rfl rfl ?_
    exact t_d_begins1_124 ht  hD
  · rw [c89_18, cond_false] at hD
    refine k_runB (pc' := 94) (loc' := [(0, .ref 40960), (1, .int x1), (2, .int x2), (3, .int x3), (4, .int x4), (5, .int x5), (6, .int s0)]) (st' := [.int s0]) 1 rfl ?_
    refine k_if rfl (fun c94_19 => ?_) (fun c94_19 => ?_)
    · rw [c94_19, cond_true] at hD
      refine k_wk [0, 1, 2, 3, 4, 5, 6] (loc' := [(0, .ref 40960), (1, .int x1), (2, .int x2), (3, .int x3), (4, .int x4), (5, .int x5), (6, .int s0)]) rfl rfl ?_
      exact t_d_begins1_131 ht  hD
    · rw [c94_19, cond_false] at hD
      refine k_runB (pc' := 106) (loc' := [(0, .ref 40960), (1, .int x1), (2, .int x2), (3, .int x3), (4, .int x4), (5, .int x5), (6, .int s0)]) (st' := [.int (72 + x5), .ref 41008]) 5 rfl ?_
      obtain ⟨v21, hv21, hD⟩ := Option.bind_eq_some_iff.mp hD
      refine k_ldI rfl rfl hv21 ?_
      refine k_runB (pc' := 120) (loc' := [(0, .ref 40960), (1, .int x1), (2, .int x2), (3, .int x3), (4, .int x4), (5, .int x5), (6, .int s0)]) (st' := [.int ((6 * (F 18)) + x3), .ref 40980, .int v21]) 8 rfl ?_
      obtain ⟨v22, hv22, hD⟩ := Option.bind_eq_some_iff.mp hD
      refine k_ldI rfl rfl hv22 ?_
      refine k_ic rfl (fun c121_22 => ?_) (fun c121_22 => ?_)
      · rw [c121_22, cond_true] at hD
        refine k_wk [0, 1, 2, 3, 4, 5, 6] (loc' := [(0, .ref 40960), (1, .int x1), (2, .int x2), (3, .int x3), (4, .int x4), (5, .int x5), (6, .int s0)]) rfl rfl ?_
        exact t_d_begins1_131 ht  hD
      · rw [c121_22, cond_false] at hD
        refine k_wk [0, 1, 2] (loc' := [(0, .ref 40960), (1, .int x1), (2, .int x2)]) rfl rfl ?_
        exact t_d_begins1_124 ht  hD
def d_begins1_76 (n : Nat) (F : Nat → Int32) (A : Nat → Nat → Int32) (J : Nat → Nat → Int64) (x1 : Int32) (x2 : Int32) (x3 : Int32) (x4 : Int32) (x5 : Int32) : Option (Unit × (Nat → Int32) × (Nat → Nat → Int32) × (Nat → Nat → Int64)) :=
    d_begins1_81 n F A J x1 x2 x3 x4 x5 1
theorem t_d_begins1_76 (ht : ∀ k, t.1 12 k = k_ty 12 k) {n : Nat}  {F : Nat → Int32} {A : Nat → Nat → Int32} {J : Nat → Nat → Int64} {x1 : Int32} {x2 : Int32} {x3 : Int32} {x4 : Int32} {x5 : Int32} {w : Unit × (Nat → Int32) × (Nat → Nat → Int32) × (Nat → Nat → Int64)} : d_begins1_76 n F A J x1 x2 x3 x4 x5 = some w → k_run t lg (d + 2) 199 76 [(0, .ref 40960), (1, .int x1), (2, .int x2), (3, .int x3), (4, .int x4), (5, .int x5)] [] (m_h c B F A J) (none, m_h c B w.2.1 w.2.2.1 w.2.2.2) := by
  intro hD
  unfold d_begins1_76 at hD
  refine k_runB (pc' := 81) (loc' := [(0, .ref 40960), (1, .int x1), (2, .int x2), (3, .int x3), (4, .int x4), (5, .int x5)]) (st' := [.int 1]) 2 rfl ?_
  refine k_wk [0, 1, 2, 3, 4, 5] (loc' := [(0, .ref 40960), (1, .int x1), (2, .int x2), (3, .int x3), (4, .int x4), (5, .int x5)]) rfl rfl ?_
  exact t_d_begins1_81 ht  hD
/-- SleepWorkModel.begins1(II)V -/
def d_begins1 (n : Nat) (F : Nat → Int32) (A : Nat → Nat → Int32) (J : Nat → Nat → Int64) (x1 : Int32) (x2 : Int32) : Option (Unit × (Nat → Int32) × (Nat → Nat → Int32) × (Nat → Nat → Int64)) :=
  (m_ld (A 48) 100 (42 + x1)).bind fun v1 =>
  (d_isEnded n F A J v1).bind fun v2 =>
  cond (g_cnd .eq v2 0)
  ((d_tells n F A J x1 x2).bind fun (v4, F5, A6, J7) =>
  (d_stepAt F5 A6 J7 v1 v4).bind fun v8 =>
  (m_ld (A6 27) 72 v8).bind fun v9 =>
  cond (g_cnd .lt v9 0)
  (d_begins1_76 n F5 A6 J7 x1 x2 v1 v4 v9)
  ((m_ld (A6 48) 100 (72 + v9)).bind fun v11 =>
  cond (g_cnd .ne v11 (100 + x1))
  (d_begins1_81 n F5 A6 J7 x1 x2 v1 v4 v9 0)
  (d_begins1_76 n F5 A6 J7 x1 x2 v1 v4 v9)))
  ((m_st A 56 6 x1 (vp_nar .boolean 1)).bind fun A13 =>
  (d_lies F A13 J x1 x2).bind fun (_, F15, A16, J17) =>
  some ((), F15, A16, J17))
theorem t_d_begins1 (ht : ∀ k, t.1 12 k = k_ty 12 k) {n : Nat} {x1 : Int32} {x2 : Int32} {r : Unit} {F' : Nat → Int32} {A' : Nat → Nat → Int32} {J' : Nat → Nat → Int64} : d_begins1 n F A J x1 x2 = some (r, F', A', J') → k_run t lg (d + 2) 199 0 [(0, .ref 40960), (1, .int x1), (2, .int x2)] [] (m_h c B F A J) (none, m_h c B F' A' J') := by
  intro hD
  unfold d_begins1 at hD
  refine k_runB (pc' := 8) (loc' := [(0, .ref 40960), (1, .int x1), (2, .int x2)]) (st' := [.int (42 + x1), .ref 41008]) 5 rfl ?_
  obtain ⟨v1, hv1, hD⟩ := Option.bind_eq_some_iff.mp hD
  refine k_ldI rfl rfl hv1 ?_
  refine k_runB (pc' := 12) (loc' := [(0, .ref 40960), (1, .int x1), (2, .int x2), (3, .int v1)]) (st' := [.int v1, .ref 40960]) 3 rfl ?_
  obtain ⟨v2, hv2, hD⟩ := Option.bind_eq_some_iff.mp hD
  refine k_runC rfl rfl rfl rfl (t_d_isEnded (d := d) hv2) ?_
  refine k_if rfl (fun c15_2 => ?_) (fun c15_2 => ?_)
  · rw [c15_2, cond_true] at hD
    refine k_runB (pc' := 35) (loc' := [(0, .ref 40960), (1, .int x1), (2, .int x2), (3, .int v1)]) (st' := [.int x2, .int x1, .ref 40960]) 3 rfl ?_
    obtain ⟨⟨v4, F5, A6, J7⟩, hv4, hD⟩ := Option.bind_eq_some_iff.mp hD
    dsimp only at hD
    refine k_runC rfl rfl rfl rfl (t_d_tells (d := d) ht hv4) ?_
    refine k_runB (pc' := 48) (loc' := [(0, .ref 40960), (1, .int x1), (2, .int x2), (3, .int v1), (4, .int v4)]) (st' := [.int v4, .int v1, .ref 40960, .ref 40987]) 6 rfl ?_
    obtain ⟨v8, hv8, hD⟩ := Option.bind_eq_some_iff.mp hD
    refine k_runC rfl rfl rfl rfl (t_d_stepAt (d := d + 1) hv8) ?_
    obtain ⟨v9, hv9, hD⟩ := Option.bind_eq_some_iff.mp hD
    refine k_ldI rfl rfl hv9 ?_
    refine k_runB (pc' := 56) (loc' := [(0, .ref 40960), (1, .int x1), (2, .int x2), (3, .int v1), (4, .int v4), (5, .int v9)]) (st' := [.int v9]) 2 rfl ?_
    refine k_if rfl (fun c56_9 => ?_) (fun c56_9 => ?_)
    · rw [c56_9, cond_true] at hD
      refine k_wk [0, 1, 2, 3, 4, 5] (loc' := [(0, .ref 40960), (1, .int x1), (2, .int x2), (3, .int v1), (4, .int v4), (5, .int v9)]) rfl rfl ?_
      exact t_d_begins1_76 ht  hD
    · rw [c56_9, cond_false] at hD
      refine k_runB (pc' := 68) (loc' := [(0, .ref 40960), (1, .int x1), (2, .int x2), (3, .int v1), (4, .int v4), (5, .int v9)]) (st' := [.int (72 + v9), .ref 41008]) 5 rfl ?_
      obtain ⟨v11, hv11, hD⟩ := Option.bind_eq_some_iff.mp hD
      refine k_ldI rfl rfl hv11 ?_
      refine k_runB (pc' := 73) (loc' := [(0, .ref 40960), (1, .int x1), (2, .int x2), (3, .int v1), (4, .int v4), (5, .int v9)]) (st' := [.int (100 + x1), .int v11]) 3 rfl ?_
      refine k_ic rfl (fun c73_11 => ?_) (fun c73_11 => ?_)
      · rw [c73_11, cond_true] at hD
        refine k_runB (pc' := 81) (loc' := [(0, .ref 40960), (1, .int x1), (2, .int x2), (3, .int v1), (4, .int v4), (5, .int v9)]) (st' := [.int 0]) 1 rfl ?_
        refine k_wk [0, 1, 2, 3, 4, 5] (loc' := [(0, .ref 40960), (1, .int x1), (2, .int x2), (3, .int v1), (4, .int v4), (5, .int v9)]) rfl rfl ?_
        exact t_d_begins1_81 ht  hD
      · rw [c73_11, cond_false] at hD
        refine k_wk [0, 1, 2, 3, 4, 5] (loc' := [(0, .ref 40960), (1, .int x1), (2, .int x2), (3, .int v1), (4, .int v4), (5, .int v9)]) rfl rfl ?_
        exact t_d_begins1_76 ht  hD
  · rw [c15_2, cond_false] at hD
    refine k_runB (pc' := 24) (loc' := [(0, .ref 40960), (1, .int x1), (2, .int x2), (3, .int v1)]) (st' := [.int 1, .int x1, .ref 41016]) 4 rfl ?_
    obtain ⟨A13, hA13, hD⟩ := Option.bind_eq_some_iff.mp hD
    refine k_stZ 56 rfl rfl (fun _ => rfl) hA13 ?_
    refine k_runB (pc' := 28) (loc' := [(0, .ref 40960), (1, .int x1), (2, .int x2), (3, .int v1)]) (st' := [.int x2, .int x1, .ref 40960]) 3 rfl ?_
    obtain ⟨⟨v14, F15, A16, J17⟩, hv14, hD⟩ := Option.bind_eq_some_iff.mp hD
    dsimp only at hD
    refine k_runC rfl rfl rfl rfl (t_d_lies (d := d + 1) hv14) ?_
    cases hD
    exact k_vret rfl rfl
def d_goesTill_128 (K27 : (Nat → Int32) → (Nat → Nat → Int32) → (Nat → Nat → Int64) → Int32 → Int32 → Option (Unit × (Nat → Int32) × (Nat → Nat → Int32) × (Nat → Nat → Int64))) (n : Nat) (F : Nat → Int32) (A : Nat → Nat → Int32) (J : Nat → Nat → Int64) (x1 : Int32) (x2 : Int32) : Option (Unit × (Nat → Int32) × (Nat → Nat → Int32) × (Nat → Nat → Int64)) :=
    K27 F A J x1 (x2 + 1)
theorem t_d_goesTill_128 (ht : ∀ k, t.1 12 k = k_ty 12 k) {n : Nat} {K27 : (Nat → Int32) → (Nat → Nat → Int32) → (Nat → Nat → Int64) → Int32 → Int32 → Option (Unit × (Nat → Int32) × (Nat → Nat → Int32) × (Nat → Nat → Int64))} (hK27 : ∀ (F : Nat → Int32) (A : Nat → Nat → Int32) (J : Nat → Nat → Int64) (x1 : Int32) (x2 : Int32) (w : Unit × (Nat → Int32) × (Nat → Nat → Int32) × (Nat → Nat → Int64)), K27 F A J x1 x2 = some w → k_run t lg (d + 3) 200 27 [(0, .ref 40960), (1, .int x1), (2, .int x2)] [] (m_h c B F A J) (none, m_h c B w.2.1 w.2.2.1 w.2.2.2)) {F : Nat → Int32} {A : Nat → Nat → Int32} {J : Nat → Nat → Int64} {x1 : Int32} {x2 : Int32} {w : Unit × (Nat → Int32) × (Nat → Nat → Int32) × (Nat → Nat → Int64)} : d_goesTill_128 K27 n F A J x1 x2 = some w → k_run t lg (d + 3) 200 128 [(0, .ref 40960), (1, .int x1), (2, .int x2)] [] (m_h c B F A J) (none, m_h c B w.2.1 w.2.2.1 w.2.2.2) := by
  intro hD
  unfold d_goesTill_128 at hD
  refine k_runB (pc' := 27) (loc' := [(0, .ref 40960), (1, .int x1), (2, .int (x2 + 1))]) (st' := []) 2 rfl ?_
  refine k_wk [0, 1, 2] (loc' := [(0, .ref 40960), (1, .int x1), (2, .int (x2 + 1))]) rfl rfl ?_
  exact hK27 _ _ _ _ _ _ hD
def d_goesTill_122 (K27 : (Nat → Int32) → (Nat → Nat → Int32) → (Nat → Nat → Int64) → Int32 → Int32 → Option (Unit × (Nat → Int32) × (Nat → Nat → Int32) × (Nat → Nat → Int64))) (K75 : (Nat → Int32) → (Nat → Nat → Int32) → (Nat → Nat → Int64) → Int32 → Int32 → Int32 → Option (Unit × (Nat → Int32) × (Nat → Nat → Int32) × (Nat → Nat → Int64))) (n : Nat) (F : Nat → Int32) (A : Nat → Nat → Int32) (J : Nat → Nat → Int64) (x1 : Int32) (x2 : Int32) (x3 : Int32) : Option (Unit × (Nat → Int32) × (Nat → Nat → Int32) × (Nat → Nat → Int64)) :=
    K75 F A J x1 x2 (x3 + 1)
theorem t_d_goesTill_122 (ht : ∀ k, t.1 12 k = k_ty 12 k) {n : Nat} {K27 : (Nat → Int32) → (Nat → Nat → Int32) → (Nat → Nat → Int64) → Int32 → Int32 → Option (Unit × (Nat → Int32) × (Nat → Nat → Int32) × (Nat → Nat → Int64))} {K75 : (Nat → Int32) → (Nat → Nat → Int32) → (Nat → Nat → Int64) → Int32 → Int32 → Int32 → Option (Unit × (Nat → Int32) × (Nat → Nat → Int32) × (Nat → Nat → Int64))} (hK27 : ∀ (F : Nat → Int32) (A : Nat → Nat → Int32) (J : Nat → Nat → Int64) (x1 : Int32) (x2 : Int32) (w : Unit × (Nat → Int32) × (Nat → Nat → Int32) × (Nat → Nat → Int64)), K27 F A J x1 x2 = some w → k_run t lg (d + 3) 200 27 [(0, .ref 40960), (1, .int x1), (2, .int x2)] [] (m_h c B F A J) (none, m_h c B w.2.1 w.2.2.1 w.2.2.2)) (hK75 : ∀ (F : Nat → Int32) (A : Nat → Nat → Int32) (J : Nat → Nat → Int64) (x1 : Int32) (x2 : Int32) (x3 : Int32) (w : Unit × (Nat → Int32) × (Nat → Nat → Int32) × (Nat → Nat → Int64)), K75 F A J x1 x2 x3 = some w → k_run t lg (d + 3) 200 75 [(0, .ref 40960), (1, .int x1), (2, .int x2), (3, .int x3)] [] (m_h c B F A J) (none, m_h c B w.2.1 w.2.2.1 w.2.2.2)) {F : Nat → Int32} {A : Nat → Nat → Int32} {J : Nat → Nat → Int64} {x1 : Int32} {x2 : Int32} {x3 : Int32} {w : Unit × (Nat → Int32) × (Nat → Nat → Int32) × (Nat → Nat → Int64)} : d_goesTill_122 K27 K75 n F A J x1 x2 x3 = some w → k_run t lg (d + 3) 200 122 [(0, .ref 40960), (1, .int x1), (2, .int x2), (3, .int x3)] [] (m_h c B F A J) (none, m_h c B w.2.1 w.2.2.1 w.2.2.2) := by
  intro hD
  unfold d_goesTill_122 at hD
  refine k_runB (pc' := 75) (loc' := [(0, .ref 40960), (1, .int x1), (2, .int x2), (3, .int (x3 + 1))]) (st' := []) 2 rfl ?_
  refine k_wk [0, 1, 2, 3] (loc' := [(0, .ref 40960), (1, .int x1), (2, .int x2), (3, .int (x3 + 1))]) rfl rfl ?_
  exact hK75 _ _ _ _ _ _ _ hD
def d_goesTill_75 (K27 : (Nat → Int32) → (Nat → Nat → Int32) → (Nat → Nat → Int64) → Int32 → Int32 → Option (Unit × (Nat → Int32) × (Nat → Nat → Int32) × (Nat → Nat → Int64))) : Nat → (Nat → Int32) → (Nat → Nat → Int32) → (Nat → Nat → Int64) → Int32 → Int32 → Int32 → Option (Unit × (Nat → Int32) × (Nat → Nat → Int32) × (Nat → Nat → Int64))
  | 0, _, _, _, _, _, _ => none
  | n + 1, F, A, J, x1, x2, x3 => (d_menNow F A J).bind fun v22 =>
    cond (g_cnd .ge x3 v22)
    (d_goesTill_128 K27 n F A J x1 x2)
    ((m_ld (A 41) 2 (F 18)).bind fun v24 =>
    cond (g_cnd .ge x2 v24)
    (d_goesTill_128 K27 n F A J x1 x2)
    ((m_ld (A 50) 6 x3).bind fun v26 =>
    cond (g_cnd .ne v26 1)
    (d_goesTill_122 K27 (d_goesTill_75 K27 n) n F A J x1 x2 x3)
    ((m_ld (A 51) 6 x3).bind fun v28 =>
    cond (g_cnd .gt v28 x2)
    (d_goesTill_122 K27 (d_goesTill_75 K27 n) n F A J x1 x2 x3)
    ((d_begins1 n F A J x3 x2).bind fun (_, F31, A32, J33) =>
    (d_goesTill_75 K27 n) F31 A32 J33 x1 x2 (x3 + 1)))))
theorem t_d_goesTill_75 (ht : ∀ k, t.1 12 k = k_ty 12 k) {n : Nat} {K27 : (Nat → Int32) → (Nat → Nat → Int32) → (Nat → Nat → Int64) → Int32 → Int32 → Option (Unit × (Nat → Int32) × (Nat → Nat → Int32) × (Nat → Nat → Int64))} (hK27 : ∀ (F : Nat → Int32) (A : Nat → Nat → Int32) (J : Nat → Nat → Int64) (x1 : Int32) (x2 : Int32) (w : Unit × (Nat → Int32) × (Nat → Nat → Int32) × (Nat → Nat → Int64)), K27 F A J x1 x2 = some w → k_run t lg (d + 3) 200 27 [(0, .ref 40960), (1, .int x1), (2, .int x2)] [] (m_h c B F A J) (none, m_h c B w.2.1 w.2.2.1 w.2.2.2)) {F : Nat → Int32} {A : Nat → Nat → Int32} {J : Nat → Nat → Int64} {x1 : Int32} {x2 : Int32} {x3 : Int32} {w : Unit × (Nat → Int32) × (Nat → Nat → Int32) × (Nat → Nat → Int64)} : d_goesTill_75 K27 n F A J x1 x2 x3 = some w → k_run t lg (d + 3) 200 75 [(0, .ref 40960), (1, .int x1), (2, .int x2), (3, .int x3)] [] (m_h c B F A J) (none, m_h c B w.2.1 w.2.2.1 w.2.2.2) := by
  induction n generalizing F A J x1 x2 x3 w with
  | zero => intro hD; cases hD
  | succ n ih =>
    intro hD
    have hK75 : ∀ (F : Nat → Int32) (A : Nat → Nat → Int32) (J : Nat → Nat → Int64) (x1 : Int32) (x2 : Int32) (x3 : Int32) (w : Unit × (Nat → Int32) × (Nat → Nat → Int32) × (Nat → Nat → Int64)), d_goesTill_75 K27 n F A J x1 x2 x3 = some w → k_run t lg (d + 3) 200 75 [(0, .ref 40960), (1, .int x1), (2, .int x2), (3, .int x3)] [] (m_h c B F A J) (none, m_h c B w.2.1 w.2.2.1 w.2.2.2) := fun _ _ _ _ _ _ _ h => ih h
    unfold d_goesTill_75 at hD
    refine k_runB (pc' := 77) (loc' := [(0, .ref 40960), (1, .int x1), (2, .int x2), (3, .int x3)]) (st' := [.ref 40960, .int x3]) 2 rfl ?_
    obtain ⟨v22, hv22, hD⟩ := Option.bind_eq_some_iff.mp hD
    refine k_runC rfl rfl rfl rfl (t_d_menNow (d := d + 2) hv22) ?_
    refine k_ic rfl (fun c80_22 => ?_) (fun c80_22 => ?_)
    · rw [c80_22, cond_true] at hD
      refine k_wk [0, 1, 2] (loc' := [(0, .ref 40960), (1, .int x1), (2, .int x2)]) rfl rfl ?_
      exact t_d_goesTill_128 ht hK27 hD
    · rw [c80_22, cond_false] at hD
      refine k_runB (pc' := 92) (loc' := [(0, .ref 40960), (1, .int x1), (2, .int x2), (3, .int x3)]) (st' := [.int (F 18), .ref 41001, .int x2]) 5 rfl ?_
      obtain ⟨v24, hv24, hD⟩ := Option.bind_eq_some_iff.mp hD
      refine k_ldI rfl rfl hv24 ?_
      refine k_ic rfl (fun c93_24 => ?_) (fun c93_24 => ?_)
      · rw [c93_24, cond_true] at hD
        refine k_wk [0, 1, 2] (loc' := [(0, .ref 40960), (1, .int x1), (2, .int x2)]) rfl rfl ?_
        exact t_d_goesTill_128 ht hK27 hD
      · rw [c93_24, cond_false] at hD
        refine k_runB (pc' := 101) (loc' := [(0, .ref 40960), (1, .int x1), (2, .int x2), (3, .int x3)]) (st' := [.int x3, .ref 41010]) 3 rfl ?_
        obtain ⟨v26, hv26, hD⟩ := Option.bind_eq_some_iff.mp hD
        refine k_ldI rfl rfl hv26 ?_
        refine k_runB (pc' := 103) (loc' := [(0, .ref 40960), (1, .int x1), (2, .int x2), (3, .int x3)]) (st' := [.int 1, .int v26]) 1 rfl ?_
        refine k_ic rfl (fun c103_26 => ?_) (fun c103_26 => ?_)
        · rw [c103_26, cond_true] at hD
          refine k_wk [0, 1, 2, 3] (loc' := [(0, .ref 40960), (1, .int x1), (2, .int x2), (3, .int x3)]) rfl rfl ?_
          exact t_d_goesTill_122 ht hK27 hK75 hD
        · rw [c103_26, cond_false] at hD
          refine k_runB (pc' := 111) (loc' := [(0, .ref 40960), (1, .int x1), (2, .int x2), (3, .int x3)]) (st' := [.int x3, .ref 41011]) 3 rfl ?_
          obtain ⟨v28, hv28, hD⟩ := Option.bind_eq_some_iff.mp hD
          refine k_ldI rfl rfl hv28 ?_
          refine k_runB (pc' := 113) (loc' := [(0, .ref 40960), (1, .int x1), (2, .int x2), (3, .int x3)]) (st' := [.int x2, .int v28]) 1 rfl ?_
          refine k_ic rfl (fun c113_28 => ?_) (fun c113_28 => ?_)
          · rw [c113_28, cond_true] at hD
            refine k_wk [0, 1, 2, 3] (loc' := [(0, .ref 40960), (1, .int x1), (2, .int x2), (3, .int x3)]) rfl rfl ?_
            exact t_d_goesTill_122 ht hK27 hK75 hD
          · rw [c113_28, cond_false] at hD
            refine k_runB (pc' := 119) (loc' := [(0, .ref 40960), (1, .int x1), (2, .int x2), (3, .int x3)]) (st' := [.int x2, .int x3, .ref 40960]) 3 rfl ?_
            obtain ⟨⟨v30, F31, A32, J33⟩, hv30, hD⟩ := Option.bind_eq_some_iff.mp hD
            dsimp only at hD
            refine k_runC rfl rfl rfl rfl (t_d_begins1 (d := d) ht hv30) ?_
            refine k_runB (pc' := 75) (loc' := [(0, .ref 40960), (1, .int x1), (2, .int x2), (3, .int (x3 + 1))]) (st' := []) 2 rfl ?_
            refine k_wk [0, 1, 2, 3] (loc' := [(0, .ref 40960), (1, .int x1), (2, .int x2), (3, .int (x3 + 1))]) rfl rfl ?_
            exact hK75 _ _ _ _ _ _ _ hD
def d_goesTill_67 (K27 : (Nat → Int32) → (Nat → Nat → Int32) → (Nat → Nat → Int64) → Int32 → Int32 → Option (Unit × (Nat → Int32) × (Nat → Nat → Int32) × (Nat → Nat → Int64))) (K34 : (Nat → Int32) → (Nat → Nat → Int32) → (Nat → Nat → Int64) → Int32 → Int32 → Int32 → Option (Unit × (Nat → Int32) × (Nat → Nat → Int32) × (Nat → Nat → Int64))) (n : Nat) (F : Nat → Int32) (A : Nat → Nat → Int32) (J : Nat → Nat → Int64) (x1 : Int32) (x2 : Int32) (x3 : Int32) : Option (Unit × (Nat → Int32) × (Nat → Nat → Int32) × (Nat → Nat → Int64)) :=
    K34 F A J x1 x2 (x3 + 1)
theorem t_d_goesTill_67 (ht : ∀ k, t.1 12 k = k_ty 12 k) {n : Nat} {K27 : (Nat → Int32) → (Nat → Nat → Int32) → (Nat → Nat → Int64) → Int32 → Int32 → Option (Unit × (Nat → Int32) × (Nat → Nat → Int32) × (Nat → Nat → Int64))} {K34 : (Nat → Int32) → (Nat → Nat → Int32) → (Nat → Nat → Int64) → Int32 → Int32 → Int32 → Option (Unit × (Nat → Int32) × (Nat → Nat → Int32) × (Nat → Nat → Int64))} (hK27 : ∀ (F : Nat → Int32) (A : Nat → Nat → Int32) (J : Nat → Nat → Int64) (x1 : Int32) (x2 : Int32) (w : Unit × (Nat → Int32) × (Nat → Nat → Int32) × (Nat → Nat → Int64)), K27 F A J x1 x2 = some w → k_run t lg (d + 3) 200 27 [(0, .ref 40960), (1, .int x1), (2, .int x2)] [] (m_h c B F A J) (none, m_h c B w.2.1 w.2.2.1 w.2.2.2)) (hK34 : ∀ (F : Nat → Int32) (A : Nat → Nat → Int32) (J : Nat → Nat → Int64) (x1 : Int32) (x2 : Int32) (x3 : Int32) (w : Unit × (Nat → Int32) × (Nat → Nat → Int32) × (Nat → Nat → Int64)), K34 F A J x1 x2 x3 = some w → k_run t lg (d + 3) 200 34 [(0, .ref 40960), (1, .int x1), (2, .int x2), (3, .int x3)] [] (m_h c B F A J) (none, m_h c B w.2.1 w.2.2.1 w.2.2.2)) {F : Nat → Int32} {A : Nat → Nat → Int32} {J : Nat → Nat → Int64} {x1 : Int32} {x2 : Int32} {x3 : Int32} {w : Unit × (Nat → Int32) × (Nat → Nat → Int32) × (Nat → Nat → Int64)} : d_goesTill_67 K27 K34 n F A J x1 x2 x3 = some w → k_run t lg (d + 3) 200 67 [(0, .ref 40960), (1, .int x1), (2, .int x2), (3, .int x3)] [] (m_h c B F A J) (none, m_h c B w.2.1 w.2.2.1 w.2.2.2) := by
  intro hD
  unfold d_goesTill_67 at hD
  refine k_runB (pc' := 34) (loc' := [(0, .ref 40960), (1, .int x1), (2, .int x2), (3, .int (x3 + 1))]) (st' := []) 2 rfl ?_
  refine k_wk [0, 1, 2, 3] (loc' := [(0, .ref 40960), (1, .int x1), (2, .int x2), (3, .int (x3 + 1))]) rfl rfl ?_
  exact hK34 _ _ _ _ _ _ _ hD
def d_goesTill_34 (K27 : (Nat → Int32) → (Nat → Nat → Int32) → (Nat → Nat → Int64) → Int32 → Int32 → Option (Unit × (Nat → Int32) × (Nat → Nat → Int32) × (Nat → Nat → Int64))) : Nat → (Nat → Int32) → (Nat → Nat → Int32) → (Nat → Nat → Int64) → Int32 → Int32 → Int32 → Option (Unit × (Nat → Int32) × (Nat → Nat → Int32) × (Nat → Nat → Int64))
  | 0, _, _, _, _, _, _ => none
  | n + 1, F, A, J, x1, x2, x3 => (d_menNow F A J).bind fun v12 =>
    cond (g_cnd .ge x3 v12)
    (d_goesTill_75 K27 n F A J x1 x2 0)
    ((m_ld (A 50) 6 x3).bind fun v14 =>
    cond (g_cnd .ne v14 2)
    (d_goesTill_67 K27 (d_goesTill_34 K27 n) n F A J x1 x2 x3)
    ((m_ld (A 52) 6 x3).bind fun v16 =>
    cond (g_cnd .ne v16 x2)
    (d_goesTill_67 K27 (d_goesTill_34 K27 n) n F A J x1 x2 x3)
    ((d_isOver F A J x3).bind fun (_, F19, A20, J21) =>
    (d_goesTill_34 K27 n) F19 A20 J21 x1 x2 (x3 + 1))))
theorem t_d_goesTill_34 (ht : ∀ k, t.1 12 k = k_ty 12 k) {n : Nat} {K27 : (Nat → Int32) → (Nat → Nat → Int32) → (Nat → Nat → Int64) → Int32 → Int32 → Option (Unit × (Nat → Int32) × (Nat → Nat → Int32) × (Nat → Nat → Int64))} (hK27 : ∀ (F : Nat → Int32) (A : Nat → Nat → Int32) (J : Nat → Nat → Int64) (x1 : Int32) (x2 : Int32) (w : Unit × (Nat → Int32) × (Nat → Nat → Int32) × (Nat → Nat → Int64)), K27 F A J x1 x2 = some w → k_run t lg (d + 3) 200 27 [(0, .ref 40960), (1, .int x1), (2, .int x2)] [] (m_h c B F A J) (none, m_h c B w.2.1 w.2.2.1 w.2.2.2)) {F : Nat → Int32} {A : Nat → Nat → Int32} {J : Nat → Nat → Int64} {x1 : Int32} {x2 : Int32} {x3 : Int32} {w : Unit × (Nat → Int32) × (Nat → Nat → Int32) × (Nat → Nat → Int64)} : d_goesTill_34 K27 n F A J x1 x2 x3 = some w → k_run t lg (d + 3) 200 34 [(0, .ref 40960), (1, .int x1), (2, .int x2), (3, .int x3)] [] (m_h c B F A J) (none, m_h c B w.2.1 w.2.2.1 w.2.2.2) := by
  induction n generalizing F A J x1 x2 x3 w with
  | zero => intro hD; cases hD
  | succ n ih =>
    intro hD
    have hK34 : ∀ (F : Nat → Int32) (A : Nat → Nat → Int32) (J : Nat → Nat → Int64) (x1 : Int32) (x2 : Int32) (x3 : Int32) (w : Unit × (Nat → Int32) × (Nat → Nat → Int32) × (Nat → Nat → Int64)), d_goesTill_34 K27 n F A J x1 x2 x3 = some w → k_run t lg (d + 3) 200 34 [(0, .ref 40960), (1, .int x1), (2, .int x2), (3, .int x3)] [] (m_h c B F A J) (none, m_h c B w.2.1 w.2.2.1 w.2.2.2) := fun _ _ _ _ _ _ _ h => ih h
    unfold d_goesTill_34 at hD
    refine k_runB (pc' := 36) (loc' := [(0, .ref 40960), (1, .int x1), (2, .int x2), (3, .int x3)]) (st' := [.ref 40960, .int x3]) 2 rfl ?_
    obtain ⟨v12, hv12, hD⟩ := Option.bind_eq_some_iff.mp hD
    refine k_runC rfl rfl rfl rfl (t_d_menNow (d := d + 2) hv12) ?_
    refine k_ic rfl (fun c39_12 => ?_) (fun c39_12 => ?_)
    · rw [c39_12, cond_true] at hD
      refine k_runB (pc' := 75) (loc' := [(0, .ref 40960), (1, .int x1), (2, .int x2), (3, .int 0)]) (st' := []) 2 rfl ?_
      refine k_wk [0, 1, 2, 3] (loc' := [(0, .ref 40960), (1, .int x1), (2, .int x2), (3, .int 0)]) rfl rfl ?_
      exact t_d_goesTill_75 ht hK27 hD
    · rw [c39_12, cond_false] at hD
      refine k_runB (pc' := 47) (loc' := [(0, .ref 40960), (1, .int x1), (2, .int x2), (3, .int x3)]) (st' := [.int x3, .ref 41010]) 3 rfl ?_
      obtain ⟨v14, hv14, hD⟩ := Option.bind_eq_some_iff.mp hD
      refine k_ldI rfl rfl hv14 ?_
      refine k_runB (pc' := 49) (loc' := [(0, .ref 40960), (1, .int x1), (2, .int x2), (3, .int x3)]) (st' := [.int 2, .int v14]) 1 rfl ?_
      refine k_ic rfl (fun c49_14 => ?_) (fun c49_14 => ?_)
      · rw [c49_14, cond_true] at hD
        refine k_wk [0, 1, 2, 3] (loc' := [(0, .ref 40960), (1, .int x1), (2, .int x2), (3, .int x3)]) rfl rfl ?_
        exact t_d_goesTill_67 ht hK27 hK34 hD
      · rw [c49_14, cond_false] at hD
        refine k_runB (pc' := 57) (loc' := [(0, .ref 40960), (1, .int x1), (2, .int x2), (3, .int x3)]) (st' := [.int x3, .ref 41012]) 3 rfl ?_
        obtain ⟨v16, hv16, hD⟩ := Option.bind_eq_some_iff.mp hD
        refine k_ldI rfl rfl hv16 ?_
        refine k_runB (pc' := 59) (loc' := [(0, .ref 40960), (1, .int x1), (2, .int x2), (3, .int x3)]) (st' := [.int x2, .int v16]) 1 rfl ?_
        refine k_ic rfl (fun c59_16 => ?_) (fun c59_16 => ?_)
        · rw [c59_16, cond_true] at hD
          refine k_wk [0, 1, 2, 3] (loc' := [(0, .ref 40960), (1, .int x1), (2, .int x2), (3, .int x3)]) rfl rfl ?_
          exact t_d_goesTill_67 ht hK27 hK34 hD
        · rw [c59_16, cond_false] at hD
          refine k_runB (pc' := 64) (loc' := [(0, .ref 40960), (1, .int x1), (2, .int x2), (3, .int x3)]) (st' := [.int x3, .ref 40960]) 2 rfl ?_
          obtain ⟨⟨v18, F19, A20, J21⟩, hv18, hD⟩ := Option.bind_eq_some_iff.mp hD
          dsimp only at hD
          refine k_runC rfl rfl rfl rfl (t_d_isOver (d := d) hv18) ?_
          refine k_runB (pc' := 34) (loc' := [(0, .ref 40960), (1, .int x1), (2, .int x2), (3, .int (x3 + 1))]) (st' := []) 2 rfl ?_
          refine k_wk [0, 1, 2, 3] (loc' := [(0, .ref 40960), (1, .int x1), (2, .int x2), (3, .int (x3 + 1))]) rfl rfl ?_
          exact hK34 _ _ _ _ _ _ _ hD
def d_goesTill_27 : Nat → (Nat → Int32) → (Nat → Nat → Int32) → (Nat → Nat → Int64) → Int32 → Int32 → Option (Unit × (Nat → Int32) × (Nat → Nat → Int32) × (Nat → Nat → Int64))
  | 0, _, _, _, _, _ => none
  | n + 1, F, A, J, x1, x2 => cond (g_cnd .gt x2 x1)
    (some ((), F, A, J))
    (d_goesTill_34 (d_goesTill_27 n) n F A J x1 x2 0)
theorem t_d_goesTill_27 (ht : ∀ k, t.1 12 k = k_ty 12 k) {n : Nat}  {F : Nat → Int32} {A : Nat → Nat → Int32} {J : Nat → Nat → Int64} {x1 : Int32} {x2 : Int32} {w : Unit × (Nat → Int32) × (Nat → Nat → Int32) × (Nat → Nat → Int64)} : d_goesTill_27 n F A J x1 x2 = some w → k_run t lg (d + 3) 200 27 [(0, .ref 40960), (1, .int x1), (2, .int x2)] [] (m_h c B F A J) (none, m_h c B w.2.1 w.2.2.1 w.2.2.2) := by
  induction n generalizing F A J x1 x2 w with
  | zero => intro hD; cases hD
  | succ n ih =>
    intro hD
    have hK27 : ∀ (F : Nat → Int32) (A : Nat → Nat → Int32) (J : Nat → Nat → Int64) (x1 : Int32) (x2 : Int32) (w : Unit × (Nat → Int32) × (Nat → Nat → Int32) × (Nat → Nat → Int64)), d_goesTill_27 n F A J x1 x2 = some w → k_run t lg (d + 3) 200 27 [(0, .ref 40960), (1, .int x1), (2, .int x2)] [] (m_h c B F A J) (none, m_h c B w.2.1 w.2.2.1 w.2.2.2) := fun _ _ _ _ _ _ h => ih h
    unfold d_goesTill_27 at hD
    refine k_runB (pc' := 29) (loc' := [(0, .ref 40960), (1, .int x1), (2, .int x2)]) (st' := [.int x1, .int x2]) 2 rfl ?_
    refine k_ic rfl (fun c29_10 => ?_) (fun c29_10 => ?_)
    · rw [c29_10, cond_true] at hD
      cases hD
      exact k_vret rfl rfl
    · rw [c29_10, cond_false] at hD
      refine k_runB (pc' := 34) (loc' := [(0, .ref 40960), (1, .int x1), (2, .int x2), (3, .int 0)]) (st' := []) 2 rfl ?_
      refine k_wk [0, 1, 2, 3] (loc' := [(0, .ref 40960), (1, .int x1), (2, .int x2), (3, .int 0)]) rfl rfl ?_
      exact t_d_goesTill_34 ht hK27 hD
def d_goesTill_6 : Nat → (Nat → Int32) → (Nat → Nat → Int32) → (Nat → Nat → Int64) → Int32 → Int32 → Option (Unit × (Nat → Int32) × (Nat → Nat → Int32) × (Nat → Nat → Int64))
  | 0, _, _, _, _, _ => none
  | n + 1, F, A, J, x1, x2 => (d_menNow F A J).bind fun v5 =>
    cond (g_cnd .ge x2 v5)
    (d_goesTill_27 n F A J x1 0)
    ((d_getsUp F A J x2).bind fun (_, F8, A9, J10) =>
    (d_goesTill_6 n) F8 A9 J10 x1 (x2 + 1))
theorem t_d_goesTill_6 (ht : ∀ k, t.1 12 k = k_ty 12 k) {n : Nat}  {F : Nat → Int32} {A : Nat → Nat → Int32} {J : Nat → Nat → Int64} {x1 : Int32} {x2 : Int32} {w : Unit × (Nat → Int32) × (Nat → Nat → Int32) × (Nat → Nat → Int64)} : d_goesTill_6 n F A J x1 x2 = some w → k_run t lg (d + 3) 200 6 [(0, .ref 40960), (1, .int x1), (2, .int x2)] [] (m_h c B F A J) (none, m_h c B w.2.1 w.2.2.1 w.2.2.2) := by
  induction n generalizing F A J x1 x2 w with
  | zero => intro hD; cases hD
  | succ n ih =>
    intro hD
    have hK6 : ∀ (F : Nat → Int32) (A : Nat → Nat → Int32) (J : Nat → Nat → Int64) (x1 : Int32) (x2 : Int32) (w : Unit × (Nat → Int32) × (Nat → Nat → Int32) × (Nat → Nat → Int64)), d_goesTill_6 n F A J x1 x2 = some w → k_run t lg (d + 3) 200 6 [(0, .ref 40960), (1, .int x1), (2, .int x2)] [] (m_h c B F A J) (none, m_h c B w.2.1 w.2.2.1 w.2.2.2) := fun _ _ _ _ _ _ h => ih h
    unfold d_goesTill_6 at hD
    refine k_runB (pc' := 8) (loc' := [(0, .ref 40960), (1, .int x1), (2, .int x2)]) (st' := [.ref 40960, .int x2]) 2 rfl ?_
    obtain ⟨v5, hv5, hD⟩ := Option.bind_eq_some_iff.mp hD
    refine k_runC rfl rfl rfl rfl (t_d_menNow (d := d + 2) hv5) ?_
    refine k_ic rfl (fun c11_5 => ?_) (fun c11_5 => ?_)
    · rw [c11_5, cond_true] at hD
      refine k_runB (pc' := 27) (loc' := [(0, .ref 40960), (1, .int x1), (2, .int 0)]) (st' := []) 2 rfl ?_
      refine k_wk [0, 1, 2] (loc' := [(0, .ref 40960), (1, .int x1), (2, .int 0)]) rfl rfl ?_
      exact t_d_goesTill_27 ht  hD
    · rw [c11_5, cond_false] at hD
      refine k_runB (pc' := 16) (loc' := [(0, .ref 40960), (1, .int x1), (2, .int x2)]) (st' := [.int x2, .ref 40960]) 2 rfl ?_
      obtain ⟨⟨v7, F8, A9, J10⟩, hv7, hD⟩ := Option.bind_eq_some_iff.mp hD
      dsimp only at hD
      refine k_runC rfl rfl rfl rfl (t_d_getsUp (d := d + 2) hv7) ?_
      refine k_runB (pc' := 6) (loc' := [(0, .ref 40960), (1, .int x1), (2, .int (x2 + 1))]) (st' := []) 2 rfl ?_
      refine k_wk [0, 1, 2] (loc' := [(0, .ref 40960), (1, .int x1), (2, .int (x2 + 1))]) rfl rfl ?_
      exact hK6 _ _ _ _ _ _ hD
/-- SleepWorkModel.goesTill(I)V -/
def d_goesTill (n : Nat) (F : Nat → Int32) (A : Nat → Nat → Int32) (J : Nat → Nat → Int64) (x1 : Int32) : Option (Unit × (Nat → Int32) × (Nat → Nat → Int32) × (Nat → Nat → Int64)) :=
  (d_fillsWays n F A J).bind fun (_, F2, A3, J4) =>
  d_goesTill_6 n F2 A3 J4 x1 0
theorem t_d_goesTill (ht : ∀ k, t.1 12 k = k_ty 12 k) {n : Nat} {x1 : Int32} {r : Unit} {F' : Nat → Int32} {A' : Nat → Nat → Int32} {J' : Nat → Nat → Int64} : d_goesTill n F A J x1 = some (r, F', A', J') → k_run t lg (d + 3) 200 0 [(0, .ref 40960), (1, .int x1)] [] (m_h c B F A J) (none, m_h c B F' A' J') := by
  intro hD
  unfold d_goesTill at hD
  refine k_runB (pc' := 1) (loc' := [(0, .ref 40960), (1, .int x1)]) (st' := [.ref 40960]) 1 rfl ?_
  obtain ⟨⟨v1, F2, A3, J4⟩, hv1, hD⟩ := Option.bind_eq_some_iff.mp hD
  dsimp only at hD
  refine k_runC rfl rfl rfl rfl (t_d_fillsWays (d := d + 2) hv1) ?_
  refine k_runB (pc' := 6) (loc' := [(0, .ref 40960), (1, .int x1), (2, .int 0)]) (st' := []) 2 rfl ?_
  refine k_wk [0, 1, 2] (loc' := [(0, .ref 40960), (1, .int x1), (2, .int 0)]) rfl rfl ?_
  exact t_d_goesTill_6 ht  hD
def d_wholeNight_108 (K20 : (Nat → Int32) → (Nat → Nat → Int32) → (Nat → Nat → Int64) → Int32 → Int32 → Option (Int32 × (Nat → Int32) × (Nat → Nat → Int32) × (Nat → Nat → Int64))) (n : Nat) (F : Nat → Int32) (A : Nat → Nat → Int32) (J : Nat → Nat → Int64) (x1 : Int32) (x2 : Int32) : Option (Int32 × (Nat → Int32) × (Nat → Nat → Int32) × (Nat → Nat → Int64)) :=
    K20 F A J x1 (x2 + 1)
theorem t_d_wholeNight_108 (ht : ∀ k, t.1 12 k = k_ty 12 k) {n : Nat} {K20 : (Nat → Int32) → (Nat → Nat → Int32) → (Nat → Nat → Int64) → Int32 → Int32 → Option (Int32 × (Nat → Int32) × (Nat → Nat → Int32) × (Nat → Nat → Int64))} (hK20 : ∀ (F : Nat → Int32) (A : Nat → Nat → Int32) (J : Nat → Nat → Int64) (x1 : Int32) (x2 : Int32) (w : Int32 × (Nat → Int32) × (Nat → Nat → Int32) × (Nat → Nat → Int64)), K20 F A J x1 x2 = some w → k_run t lg (d + 4) 201 20 [(0, .ref 40960), (1, .int x1), (2, .int x2)] [] (m_h c B F A J) (some (.int w.1), m_h c B w.2.1 w.2.2.1 w.2.2.2)) {F : Nat → Int32} {A : Nat → Nat → Int32} {J : Nat → Nat → Int64} {x1 : Int32} {x2 : Int32} {w : Int32 × (Nat → Int32) × (Nat → Nat → Int32) × (Nat → Nat → Int64)} : d_wholeNight_108 K20 n F A J x1 x2 = some w → k_run t lg (d + 4) 201 108 [(0, .ref 40960), (1, .int x1), (2, .int x2)] [] (m_h c B F A J) (some (.int w.1), m_h c B w.2.1 w.2.2.1 w.2.2.2) := by
  intro hD
  unfold d_wholeNight_108 at hD
  refine k_runB (pc' := 20) (loc' := [(0, .ref 40960), (1, .int x1), (2, .int (x2 + 1))]) (st' := []) 2 rfl ?_
  refine k_wk [0, 1, 2] (loc' := [(0, .ref 40960), (1, .int x1), (2, .int (x2 + 1))]) rfl rfl ?_
  exact hK20 _ _ _ _ _ _ hD
def d_wholeNight_20 : Nat → (Nat → Int32) → (Nat → Nat → Int32) → (Nat → Nat → Int64) → Int32 → Int32 → Option (Int32 × (Nat → Int32) × (Nat → Nat → Int32) × (Nat → Nat → Int64))
  | 0, _, _, _, _, _ => none
  | n + 1, F, A, J, x1, x2 => (d_menNow F A J).bind fun v7 =>
    cond (g_cnd .ge x2 v7)
    ((m_ld (A 48) 100 79).bind fun v9 =>
    (m_st A 48 100 79 (v9 + 1)).bind fun A10 =>
    (d_worthNow n F A10 J).bind fun v11 =>
    some (v11 - x1, F, A10, J))
    ((m_ld (A 55) 6 x2).bind fun v12 =>
    (m_st A 48 100 (54 + x2) v12).bind fun A13 =>
    (m_ld (A13 48) 100 (60 + x2)).bind fun v14 =>
    (m_ld (A13 55) 6 x2).bind fun v15 =>
    (m_st A13 48 100 (60 + x2) (v14 + v15)).bind fun A16 =>
    (m_ld (A16 54) 6 x2).bind fun v17 =>
    (m_st A16 48 100 (48 + x2) v17).bind fun A18 =>
    (m_ld (A18 56) 6 x2).bind fun v19 =>
    cond (g_cnd .ne v19 0)
    ((m_st A18 48 100 (42 + x2) ((-1))).bind fun A21 =>
    (m_st A21 48 100 (48 + x2) ((-1))).bind fun A22 =>
    (d_wholeNight_20 n) F A22 J x1 (x2 + 1))
    (d_wholeNight_108 (d_wholeNight_20 n) n F A18 J x1 x2))
theorem t_d_wholeNight_20 (ht : ∀ k, t.1 12 k = k_ty 12 k) {n : Nat}  {F : Nat → Int32} {A : Nat → Nat → Int32} {J : Nat → Nat → Int64} {x1 : Int32} {x2 : Int32} {w : Int32 × (Nat → Int32) × (Nat → Nat → Int32) × (Nat → Nat → Int64)} : d_wholeNight_20 n F A J x1 x2 = some w → k_run t lg (d + 4) 201 20 [(0, .ref 40960), (1, .int x1), (2, .int x2)] [] (m_h c B F A J) (some (.int w.1), m_h c B w.2.1 w.2.2.1 w.2.2.2) := by
  induction n generalizing F A J x1 x2 w with
  | zero => intro hD; cases hD
  | succ n ih =>
    intro hD
    have hK20 : ∀ (F : Nat → Int32) (A : Nat → Nat → Int32) (J : Nat → Nat → Int64) (x1 : Int32) (x2 : Int32) (w : Int32 × (Nat → Int32) × (Nat → Nat → Int32) × (Nat → Nat → Int64)), d_wholeNight_20 n F A J x1 x2 = some w → k_run t lg (d + 4) 201 20 [(0, .ref 40960), (1, .int x1), (2, .int x2)] [] (m_h c B F A J) (some (.int w.1), m_h c B w.2.1 w.2.2.1 w.2.2.2) := fun _ _ _ _ _ _ h => ih h
    unfold d_wholeNight_20 at hD
    refine k_runB (pc' := 22) (loc' := [(0, .ref 40960), (1, .int x1), (2, .int x2)]) (st' := [.ref 40960, .int x2]) 2 rfl ?_
    obtain ⟨v7, hv7, hD⟩ := Option.bind_eq_some_iff.mp hD
    refine k_runC rfl rfl rfl rfl (t_d_menNow (d := d + 3) hv7) ?_
    refine k_ic rfl (fun c25_7 => ?_) (fun c25_7 => ?_)
    · rw [c25_7, cond_true] at hD
      refine k_runB (pc' := 121) (loc' := [(0, .ref 40960), (1, .int x1), (2, .int x2)]) (st' := [.int 79, .ref 41008, .int 79, .ref 41008]) 4 rfl ?_
      obtain ⟨v9, hv9, hD⟩ := Option.bind_eq_some_iff.mp hD
      refine k_ldI rfl rfl hv9 ?_
      refine k_runB (pc' := 124) (loc' := [(0, .ref 40960), (1, .int x1), (2, .int x2)]) (st' := [.int (v9 + 1), .int 79, .ref 41008]) 2 rfl ?_
      obtain ⟨A10, hA10, hD⟩ := Option.bind_eq_some_iff.mp hD
      refine k_stI 48 rfl rfl (fun _ => rfl) hA10 ?_
      refine k_runB (pc' := 126) (loc' := [(0, .ref 40960), (1, .int x1), (2, .int x2)]) (st' := [.ref 40960]) 1 rfl ?_
      obtain ⟨v11, hv11, hD⟩ := Option.bind_eq_some_iff.mp hD
      refine k_runC rfl rfl rfl rfl (t_d_worthNow (d := d + 1) hv11) ?_
      refine k_runB (pc' := 131) (loc' := [(0, .ref 40960), (1, .int x1), (2, .int x2)]) (st' := [.int (v11 - x1)]) 2 rfl ?_
      cases hD
      exact k_iret rfl rfl
    · rw [c25_7, cond_false] at hD
      refine k_runB (pc' := 41) (loc' := [(0, .ref 40960), (1, .int x1), (2, .int x2)]) (st' := [.int x2, .ref 41015, .int (54 + x2), .ref 41008]) 8 rfl ?_
      obtain ⟨v12, hv12, hD⟩ := Option.bind_eq_some_iff.mp hD
      refine k_ldI rfl rfl hv12 ?_
      obtain ⟨A13, hA13, hD⟩ := Option.bind_eq_some_iff.mp hD
      refine k_stI 48 rfl rfl (fun _ => rfl) hA13 ?_
      refine k_runB (pc' := 52) (loc' := [(0, .ref 40960), (1, .int x1), (2, .int x2)]) (st' := [.int (60 + x2), .ref 41008, .int (60 + x2), .ref 41008]) 6 rfl ?_
      obtain ⟨v14, hv14, hD⟩ := Option.bind_eq_some_iff.mp hD
      refine k_ldI rfl rfl hv14 ?_
      refine k_runB (pc' := 58) (loc' := [(0, .ref 40960), (1, .int x1), (2, .int x2)]) (st' := [.int x2, .ref 41015, .int v14, .int (60 + x2), .ref 41008]) 3 rfl ?_
      obtain ⟨v15, hv15, hD⟩ := Option.bind_eq_some_iff.mp hD
      refine k_ldI rfl rfl hv15 ?_
      refine k_runB (pc' := 60) (loc' := [(0, .ref 40960), (1, .int x1), (2, .int x2)]) (st' := [.int (v14 + v15), .int (60 + x2), .ref 41008]) 1 rfl ?_
      obtain ⟨A16, hA16, hD⟩ := Option.bind_eq_some_iff.mp hD
      refine k_stI 48 rfl rfl (fun _ => rfl) hA16 ?_
      refine k_runB (pc' := 74) (loc' := [(0, .ref 40960), (1, .int x1), (2, .int x2)]) (st' := [.int x2, .ref 41014, .int (48 + x2), .ref 41008]) 8 rfl ?_
      obtain ⟨v17, hv17, hD⟩ := Option.bind_eq_some_iff.mp hD
      refine k_ldI rfl rfl hv17 ?_
      obtain ⟨A18, hA18, hD⟩ := Option.bind_eq_some_iff.mp hD
      refine k_stI 48 rfl rfl (fun _ => rfl) hA18 ?_
      refine k_runB (pc' := 81) (loc' := [(0, .ref 40960), (1, .int x1), (2, .int x2)]) (st' := [.int x2, .ref 41016]) 3 rfl ?_
      obtain ⟨v19, hv19, hD⟩ := Option.bind_eq_some_iff.mp hD
      refine k_ldZ rfl rfl hv19 ?_
      refine k_if rfl (fun c82_19 => ?_) (fun c82_19 => ?_)
      · rw [c82_19, cond_true] at hD
        refine k_runB (pc' := 97) (loc' := [(0, .ref 40960), (1, .int x1), (2, .int x2)]) (st' := [.int ((-1)), .int (42 + x2), .ref 41008]) 6 rfl ?_
        obtain ⟨A21, hA21, hD⟩ := Option.bind_eq_some_iff.mp hD
        refine k_stI 48 rfl rfl (fun _ => rfl) hA21 ?_
        refine k_runB (pc' := 107) (loc' := [(0, .ref 40960), (1, .int x1), (2, .int x2)]) (st' := [.int ((-1)), .int (48 + x2), .ref 41008]) 6 rfl ?_
        obtain ⟨A22, hA22, hD⟩ := Option.bind_eq_some_iff.mp hD
        refine k_stI 48 rfl rfl (fun _ => rfl) hA22 ?_
        refine k_runB (pc' := 20) (loc' := [(0, .ref 40960), (1, .int x1), (2, .int (x2 + 1))]) (st' := []) 2 rfl ?_
        refine k_wk [0, 1, 2] (loc' := [(0, .ref 40960), (1, .int x1), (2, .int (x2 + 1))]) rfl rfl ?_
        exact hK20 _ _ _ _ _ _ hD
      · rw [c82_19, cond_false] at hD
        refine k_runB (pc' := 108) (loc' := [(0, .ref 40960), (1, .int x1), (2, .int x2)]) (st' := []) 1 rfl ?_
        refine k_wk [0, 1, 2] (loc' := [(0, .ref 40960), (1, .int x1), (2, .int x2)]) rfl rfl ?_
        exact t_d_wholeNight_108 ht hK20 hD
/-- SleepWorkModel.wholeNight()I -/
def d_wholeNight (n : Nat) (F : Nat → Int32) (A : Nat → Nat → Int32) (J : Nat → Nat → Int64) : Option (Int32 × (Nat → Int32) × (Nat → Nat → Int32) × (Nat → Nat → Int64)) :=
  (d_worthNow n F A J).bind fun v1 =>
  (m_ld (A 41) 2 (F 18)).bind fun v2 =>
  (d_goesTill n F A J v2).bind fun (_, F4, A5, J6) =>
  d_wholeNight_20 n F4 A5 J6 v1 0
theorem t_d_wholeNight (ht : ∀ k, t.1 12 k = k_ty 12 k) {n : Nat} {r : Int32} {F' : Nat → Int32} {A' : Nat → Nat → Int32} {J' : Nat → Nat → Int64} : d_wholeNight n F A J = some (r, F', A', J') → k_run t lg (d + 4) 201 0 [(0, .ref 40960)] [] (m_h c B F A J) (some (.int r), m_h c B F' A' J') := by
  intro hD
  unfold d_wholeNight at hD
  refine k_runB (pc' := 1) (loc' := [(0, .ref 40960)]) (st' := [.ref 40960]) 1 rfl ?_
  obtain ⟨v1, hv1, hD⟩ := Option.bind_eq_some_iff.mp hD
  refine k_runC rfl rfl rfl rfl (t_d_worthNow (d := d + 1) hv1) ?_
  refine k_runB (pc' := 14) (loc' := [(0, .ref 40960), (1, .int v1)]) (st' := [.int (F 18), .ref 41001, .ref 40960]) 6 rfl ?_
  obtain ⟨v2, hv2, hD⟩ := Option.bind_eq_some_iff.mp hD
  refine k_ldI rfl rfl hv2 ?_
  obtain ⟨⟨v3, F4, A5, J6⟩, hv3, hD⟩ := Option.bind_eq_some_iff.mp hD
  dsimp only at hD
  refine k_runC rfl rfl rfl rfl (t_d_goesTill (d := d) ht hv3) ?_
  refine k_runB (pc' := 20) (loc' := [(0, .ref 40960), (1, .int v1), (2, .int 0)]) (st' := []) 2 rfl ?_
  refine k_wk [0, 1, 2] (loc' := [(0, .ref 40960), (1, .int v1), (2, .int 0)]) rfl rfl ?_
  exact t_d_wholeNight_20 ht  hD
end MD
