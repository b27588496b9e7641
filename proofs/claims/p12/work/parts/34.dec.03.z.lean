section Qz4
/-! the reference's methods as functions (printed by wip/dec.py) -/
section MD
variable {t : gT} {lg : Nat → Nat} {d : Nat} {c : Nat × Nat} {B : Nat → List gE} {F : Nat → Int32} {A : Nat → Nat → Int32} {J : Nat → Nat → Int64}
def d_takes_2 : Nat → (Nat → Int32) → (Nat → Nat → Int32) → (Nat → Nat → Int64) → Int32 → Option (Unit × (Nat → Int32) × (Nat → Nat → Int32) × (Nat → Nat → Int64))
  | 0, _, _, _, _ => none
  | n + 1, F, A, J, x1 => cond (g_cnd .ge x1 100)
    (some ((), F, A, J))
    ((m_ld (A 47) 100 x1).bind fun v2 =>
    (m_st A 48 100 x1 v2).bind fun A3 =>
    (d_takes_2 n) F A3 J (x1 + 1))
theorem t_d_takes_2 {n : Nat}  {F : Nat → Int32} {A : Nat → Nat → Int32} {J : Nat → Nat → Int64} {x1 : Int32} {w : Unit × (Nat → Int32) × (Nat → Nat → Int32) × (Nat → Nat → Int64)} : d_takes_2 n F A J x1 = some w → k_run t lg (d) 188 2 [(0, .ref 40960), (1, .int x1)] [] (m_h c B F A J) (none, m_h c B w.2.1 w.2.2.1 w.2.2.2) := by
  induction n generalizing F A J x1 w with
  | zero => intro hD; cases hD
  | succ n ih =>
    intro hD
    have hK2 : ∀ (F : Nat → Int32) (A : Nat → Nat → Int32) (J : Nat → Nat → Int64) (x1 : Int32) (w : Unit × (Nat → Int32) × (Nat → Nat → Int32) × (Nat → Nat → Int64)), d_takes_2 n F A J x1 = some w → k_run t lg (d) 188 2 [(0, .ref 40960), (1, .int x1)] [] (m_h c B F A J) (none, m_h c B w.2.1 w.2.2.1 w.2.2.2) := fun _ _ _ _ _ h => ih h
    unfold d_takes_2 at hD
    refine k_runB (pc' := 5) (loc' := [(0, .ref 40960), (1, .int x1)]) (st' := [.int 100, .int x1]) 2 rfl ?_
    refine k_ic rfl (fun c5_0 => ?_) (fun c5_0 => ?_)
    · rw [c5_0, cond_true] at hD
      cases hD
      exact k_vret rfl rfl
    · rw [c5_0, cond_false] at hD
      refine k_runB (pc' := 18) (loc' := [(0, .ref 40960), (1, .int x1)]) (st' := [.int x1, .ref 41007, .int x1, .ref 41008]) 6 rfl ?_
      obtain ⟨v2, hv2, hD⟩ := Option.bind_eq_some_iff.mp hD
      refine k_ldI rfl rfl hv2 ?_
      obtain ⟨A3, hA3, hD⟩ := Option.bind_eq_some_iff.mp hD
      refine k_stI 48 rfl rfl (fun _ => rfl) hA3 ?_
      refine k_runB (pc' := 2) (loc' := [(0, .ref 40960), (1, .int (x1 + 1))]) (st' := []) 2 rfl ?_
      refine k_wk [0, 1] (loc' := [(0, .ref 40960), (1, .int (x1 + 1))]) rfl rfl ?_
      exact hK2 _ _ _ _ _ hD
/-- SleepWorkModel.takes()V -/
def d_takes (n : Nat) (F : Nat → Int32) (A : Nat → Nat → Int32) (J : Nat → Nat → Int64) : Option (Unit × (Nat → Int32) × (Nat → Nat → Int32) × (Nat → Nat → Int64)) :=
  d_takes_2 n F A J 0
theorem t_d_takes {n : Nat} {r : Unit} {F' : Nat → Int32} {A' : Nat → Nat → Int32} {J' : Nat → Nat → Int64} : d_takes n F A J = some (r, F', A', J') → k_run t lg (d) 188 0 [(0, .ref 40960)] [] (m_h c B F A J) (none, m_h c B F' A' J') := by
  intro hD
  unfold d_takes at hD
  refine k_runB (pc' := 2) (loc' := [(0, .ref 40960), (1, .int 0)]) (st' := []) 2 rfl ?_
  refine k_wk [0, 1] (loc' := [(0, .ref 40960), (1, .int 0)]) rfl rfl ?_
  exact t_d_takes_2  hD
def d_isEnded_2 : Nat → (Nat → Int32) → (Nat → Nat → Int32) → (Nat → Nat → Int64) → Int32 → Int32 → Option Int32
  | 0, _, _, _, _, _ => none
  | n + 1, F, A, J, x1, x2 => (d_stepsOf F A J x1).bind fun v1 =>
    cond (g_cnd .ge x2 v1)
    (some (1))
    ((m_ld (A 48) 100 ((6 + (6 * x1)) + x2)).bind fun v3 =>
    (d_stepAt F A J x1 x2).bind fun v4 =>
    (m_ld (A 24) 72 v4).bind fun v5 =>
    cond (g_cnd .ge v3 v5)
    ((d_isEnded_2 n) F A J x1 (x2 + 1))
    (some (0)))
theorem t_d_isEnded_2 {n : Nat}  {F : Nat → Int32} {A : Nat → Nat → Int32} {J : Nat → Nat → Int64} {x1 : Int32} {x2 : Int32} {w : Int32} : d_isEnded_2 n F A J x1 x2 = some w → k_run t lg (d + 1) 189 2 [(0, .ref 40960), (1, .int x1), (2, .int x2)] [] (m_h c B F A J) (some (.int w), m_h c B F A J) := by
  induction n generalizing F A J x1 x2 w with
  | zero => intro hD; cases hD
  | succ n ih =>
    intro hD
    have hK2 : ∀ (F : Nat → Int32) (A : Nat → Nat → Int32) (J : Nat → Nat → Int64) (x1 : Int32) (x2 : Int32) (w : Int32), d_isEnded_2 n F A J x1 x2 = some w → k_run t lg (d + 1) 189 2 [(0, .ref 40960), (1, .int x1), (2, .int x2)] [] (m_h c B F A J) (some (.int w), m_h c B F A J) := fun _ _ _ _ _ _ h => ih h
    unfold d_isEnded_2 at hD
    refine k_runB (pc' := 5) (loc' := [(0, .ref 40960), (1, .int x1), (2, .int x2)]) (st' := [.int x1, .ref 40960, .int x2]) 3 rfl ?_
    obtain ⟨v1, hv1, hD⟩ := Option.bind_eq_some_iff.mp hD
    refine k_runC rfl rfl rfl rfl (t_d_stepsOf (d := d) hv1) ?_
    refine k_ic rfl (fun c8_1 => ?_) (fun c8_1 => ?_)
    · rw [c8_1, cond_true] at hD
      refine k_runB (pc' := 48) (loc' := [(0, .ref 40960), (1, .int x1), (2, .int x2)]) (st' := [.int 1]) 1 rfl ?_
      cases hD
      exact k_zret rfl rfl (Or.inr rfl)
    · rw [c8_1, cond_false] at hD
      refine k_runB (pc' := 24) (loc' := [(0, .ref 40960), (1, .int x1), (2, .int x2)]) (st' := [.int ((6 + (6 * x1)) + x2), .ref 41008]) 9 rfl ?_
      obtain ⟨v3, hv3, hD⟩ := Option.bind_eq_some_iff.mp hD
      refine k_ldI rfl rfl hv3 ?_
      refine k_runB (pc' := 32) (loc' := [(0, .ref 40960), (1, .int x1), (2, .int x2)]) (st' := [.int x2, .int x1, .ref 40960, .ref 40984, .int v3]) 5 rfl ?_
      obtain ⟨v4, hv4, hD⟩ := Option.bind_eq_some_iff.mp hD
      refine k_runC rfl rfl rfl rfl (t_d_stepAt (d := d) hv4) ?_
      obtain ⟨v5, hv5, hD⟩ := Option.bind_eq_some_iff.mp hD
      refine k_ldI rfl rfl hv5 ?_
      refine k_ic rfl (fun c36_5 => ?_) (fun c36_5 => ?_)
      · rw [c36_5, cond_true] at hD
        refine k_runB (pc' := 2) (loc' := [(0, .ref 40960), (1, .int x1), (2, .int (x2 + 1))]) (st' := []) 2 rfl ?_
        refine k_wk [0, 1, 2] (loc' := [(0, .ref 40960), (1, .int x1), (2, .int (x2 + 1))]) rfl rfl ?_
        exact hK2 _ _ _ _ _ _ hD
      · rw [c36_5, cond_false] at hD
        refine k_runB (pc' := 40) (loc' := [(0, .ref 40960), (1, .int x1), (2, .int x2)]) (st' := [.int 0]) 1 rfl ?_
        cases hD
        exact k_zret rfl rfl (Or.inl rfl)
/-- SleepWorkModel.isEnded(I)Z -/
def d_isEnded (n : Nat) (F : Nat → Int32) (A : Nat → Nat → Int32) (J : Nat → Nat → Int64) (x1 : Int32) : Option Int32 :=
  d_isEnded_2 n F A J x1 0
theorem t_d_isEnded {n : Nat} {x1 : Int32} {r : Int32} : d_isEnded n F A J x1 = some r → k_run t lg (d + 1) 189 0 [(0, .ref 40960), (1, .int x1)] [] (m_h c B F A J) (some (.int r), m_h c B F A J) := by
  intro hD
  unfold d_isEnded at hD
  refine k_runB (pc' := 2) (loc' := [(0, .ref 40960), (1, .int x1), (2, .int 0)]) (st' := []) 2 rfl ?_
  refine k_wk [0, 1, 2] (loc' := [(0, .ref 40960), (1, .int x1), (2, .int 0)]) rfl rfl ?_
  exact t_d_isEnded_2  hD
def d_worthOf_85 (K4 : (Nat → Int32) → (Nat → Nat → Int32) → (Nat → Nat → Int64) → Int32 → Int32 → Int32 → Option Int32) (n : Nat) (F : Nat → Int32) (A : Nat → Nat → Int32) (J : Nat → Nat → Int64) (x1 : Int32) (x3 : Int32) (x4 : Int32) (s0 : Int32) (s1 : Int32) (s2 : Int32) : Option Int32 :=
    (m_ld (A 26) 72 x4).bind fun v9 =>
    K4 F A J x1 (s0 + (s1 - (s2 * v9))) (x3 + 1)
theorem t_d_worthOf_85 {n : Nat} {K4 : (Nat → Int32) → (Nat → Nat → Int32) → (Nat → Nat → Int64) → Int32 → Int32 → Int32 → Option Int32} (hK4 : ∀ (F : Nat → Int32) (A : Nat → Nat → Int32) (J : Nat → Nat → Int64) (x1 : Int32) (x2 : Int32) (x3 : Int32) (w : Int32), K4 F A J x1 x2 x3 = some w → k_run t lg (d + 1) 190 4 [(0, .ref 40960), (1, .int x1), (2, .int x2), (3, .int x3)] [] (m_h c B F A J) (some (.int w), m_h c B F A J)) {F : Nat → Int32} {A : Nat → Nat → Int32} {J : Nat → Nat → Int64} {x1 : Int32} {x3 : Int32} {x4 : Int32} {s0 : Int32} {s1 : Int32} {s2 : Int32} {w : Int32} : d_worthOf_85 K4 n F A J x1 x3 x4 s0 s1 s2 = some w → k_run t lg (d + 1) 190 85 [(0, .ref 40960), (1, .int x1), (3, .int x3), (4, .int x4)] [.int s2, .int s1, .int s0] (m_h c B F A J) (some (.int w), m_h c B F A J) := by
  intro hD
  unfold d_worthOf_85 at hD
  refine k_runB (pc' := 91) (loc' := [(0, .ref 40960), (1, .int x1), (3, .int x3), (4, .int x4)]) (st' := [.int x4, .ref 40986, .int s2, .int s1, .int s0]) 3 rfl ?_
  obtain ⟨v9, hv9, hD⟩ := Option.bind_eq_some_iff.mp hD
  refine k_ldI rfl rfl hv9 ?_
  refine k_runB (pc' := 4) (loc' := [(0, .ref 40960), (1, .int x1), (2, .int (s0 + (s1 - (s2 * v9)))), (3, .int (x3 + 1)), (4, .int x4)]) (st' := []) 6 rfl ?_
  refine k_wk [0, 1, 2, 3] (loc' := [(0, .ref 40960), (1, .int x1), (2, .int (s0 + (s1 - (s2 * v9)))), (3, .int (x3 + 1))]) rfl rfl ?_
  exact hK4 _ _ _ _ _ _ _ hD
def d_worthOf_61 (K4 : (Nat → Int32) → (Nat → Nat → Int32) → (Nat → Nat → Int64) → Int32 → Int32 → Int32 → Option Int32) (n : Nat) (F : Nat → Int32) (A : Nat → Nat → Int32) (J : Nat → Nat → Int64) (x1 : Int32) (x3 : Int32) (x4 : Int32) (x5 : Int32) (x6 : Int32) (s0 : Int32) (s1 : Int32) : Option Int32 :=
    (m_ld (A 25) 72 x4).bind fun v7 =>
    cond (g_cnd .le x5 x6)
    (d_worthOf_85 K4 n F A J x1 x3 x4 s0 (s1 * v7) 0)
    (d_worthOf_85 K4 n F A J x1 x3 x4 s0 (s1 * v7) (x5 - x6))
theorem t_d_worthOf_61 {n : Nat} {K4 : (Nat → Int32) → (Nat → Nat → Int32) → (Nat → Nat → Int64) → Int32 → Int32 → Int32 → Option Int32} (hK4 : ∀ (F : Nat → Int32) (A : Nat → Nat → Int32) (J : Nat → Nat → Int64) (x1 : Int32) (x2 : Int32) (x3 : Int32) (w : Int32), K4 F A J x1 x2 x3 = some w → k_run t lg (d + 1) 190 4 [(0, .ref 40960), (1, .int x1), (2, .int x2), (3, .int x3)] [] (m_h c B F A J) (some (.int w), m_h c B F A J)) {F : Nat → Int32} {A : Nat → Nat → Int32} {J : Nat → Nat → Int64} {x1 : Int32} {x3 : Int32} {x4 : Int32} {x5 : Int32} {x6 : Int32} {s0 : Int32} {s1 : Int32} {w : Int32} : d_worthOf_61 K4 n F A J x1 x3 x4 x5 x6 s0 s1 = some w → k_run t lg (d + 1) 190 61 [(0, .ref 40960), (1, .int x1), (3, .int x3), (4, .int x4), (5, .int x5), (6, .int x6)] [.int s1, .int s0] (m_h c B F A J) (some (.int w), m_h c B F A J) := by
  intro hD
  unfold d_worthOf_61 at hD
  refine k_runB (pc' := 67) (loc' := [(0, .ref 40960), (1, .int x1), (3, .int x3), (4, .int x4), (5, .int x5), (6, .int x6)]) (st' := [.int x4, .ref 40985, .int s1, .int s0]) 3 rfl ?_
  obtain ⟨v7, hv7, hD⟩ := Option.bind_eq_some_iff.mp hD
  refine k_ldI rfl rfl hv7 ?_
  refine k_runB (pc' := 73) (loc' := [(0, .ref 40960), (1, .int x1), (3, .int x3), (4, .int x4), (5, .int x5), (6, .int x6)]) (st' := [.int x6, .int x5, .int (s1 * v7), .int s0]) 3 rfl ?_
  refine k_ic rfl (fun c73_7 => ?_) (fun c73_7 => ?_)
  · rw [c73_7, cond_true] at hD
    refine k_runB (pc' := 85) (loc' := [(0, .ref 40960), (1, .int x1), (3, .int x3), (4, .int x4), (5, .int x5), (6, .int x6)]) (st' := [.int 0, .int (s1 * v7), .int s0]) 1 rfl ?_
    refine k_wk [0, 1, 3, 4] (loc' := [(0, .ref 40960), (1, .int x1), (3, .int x3), (4, .int x4)]) rfl rfl ?_
    exact t_d_worthOf_85 hK4 hD
  · rw [c73_7, cond_false] at hD
    refine k_runB (pc' := 85) (loc' := [(0, .ref 40960), (1, .int x1), (3, .int x3), (4, .int x4), (5, .int x5), (6, .int x6)]) (st' := [.int (x5 - x6), .int (s1 * v7), .int s0]) 4 rfl ?_
    refine k_wk [0, 1, 3, 4] (loc' := [(0, .ref 40960), (1, .int x1), (3, .int x3), (4, .int x4)]) rfl rfl ?_
    exact t_d_worthOf_85 hK4 hD
def d_worthOf_4 : Nat → (Nat → Int32) → (Nat → Nat → Int32) → (Nat → Nat → Int64) → Int32 → Int32 → Int32 → Option Int32
  | 0, _, _, _, _, _, _ => none
  | n + 1, F, A, J, x1, x2, x3 => (d_stepsOf F A J x1).bind fun v1 =>
    cond (g_cnd .ge x3 v1)
    (some (x2))
    ((d_stepAt F A J x1 x3).bind fun v3 =>
    (m_ld (A 48) 100 ((6 + (6 * x1)) + x3)).bind fun v4 =>
    (m_ld (A 24) 72 v3).bind fun v5 =>
    cond (g_cnd .ge v4 v5)
    (d_worthOf_61 (d_worthOf_4 n) n F A J x1 x3 v3 v4 v5 x2 v5)
    (d_worthOf_61 (d_worthOf_4 n) n F A J x1 x3 v3 v4 v5 x2 v4))
theorem t_d_worthOf_4 {n : Nat}  {F : Nat → Int32} {A : Nat → Nat → Int32} {J : Nat → Nat → Int64} {x1 : Int32} {x2 : Int32} {x3 : Int32} {w : Int32} : d_worthOf_4 n F A J x1 x2 x3 = some w → k_run t lg (d + 1) 190 4 [(0, .ref 40960), (1, .int x1), (2, .int x2), (3, .int x3)] [] (m_h c B F A J) (some (.int w), m_h c B F A J) := by
  induction n generalizing F A J x1 x2 x3 w with
  | zero => intro hD; cases hD
  | succ n ih =>
    intro hD
    have hK4 : ∀ (F : Nat → Int32) (A : Nat → Nat → Int32) (J : Nat → Nat → Int64) (x1 : Int32) (x2 : Int32) (x3 : Int32) (w : Int32), d_worthOf_4 n F A J x1 x2 x3 = some w → k_run t lg (d + 1) 190 4 [(0, .ref 40960), (1, .int x1), (2, .int x2), (3, .int x3)] [] (m_h c B F A J) (some (.int w), m_h c B F A J) := fun _ _ _ _ _ _ _ h => ih h
    unfold d_worthOf_4 at hD
    refine k_runB (pc' := 7) (loc' := [(0, .ref 40960), (1, .int x1), (2, .int x2), (3, .int x3)]) (st' := [.int x1, .ref 40960, .int x3]) 3 rfl ?_
    obtain ⟨v1, hv1, hD⟩ := Option.bind_eq_some_iff.mp hD
    refine k_runC rfl rfl rfl rfl (t_d_stepsOf (d := d) hv1) ?_
    refine k_ic rfl (fun c10_1 => ?_) (fun c10_1 => ?_)
    · rw [c10_1, cond_true] at hD
      refine k_runB (pc' := 103) (loc' := [(0, .ref 40960), (1, .int x1), (2, .int x2), (3, .int x3)]) (st' := [.int x2]) 1 rfl ?_
      cases hD
      exact k_iret rfl rfl
    · rw [c10_1, cond_false] at hD
      refine k_runB (pc' := 16) (loc' := [(0, .ref 40960), (1, .int x1), (2, .int x2), (3, .int x3)]) (st' := [.int x3, .int x1, .ref 40960]) 3 rfl ?_
      obtain ⟨v3, hv3, hD⟩ := Option.bind_eq_some_iff.mp hD
      refine k_runC rfl rfl rfl rfl (t_d_stepAt (d := d) hv3) ?_
      refine k_runB (pc' := 34) (loc' := [(0, .ref 40960), (1, .int x1), (2, .int x2), (3, .int x3), (4, .int v3)]) (st' := [.int ((6 + (6 * x1)) + x3), .ref 41008]) 10 rfl ?_
      obtain ⟨v4, hv4, hD⟩ := Option.bind_eq_some_iff.mp hD
      refine k_ldI rfl rfl hv4 ?_
      refine k_runB (pc' := 43) (loc' := [(0, .ref 40960), (1, .int x1), (2, .int x2), (3, .int x3), (4, .int v3), (5, .int v4)]) (st' := [.int v3, .ref 40984]) 4 rfl ?_
      obtain ⟨v5, hv5, hD⟩ := Option.bind_eq_some_iff.mp hD
      refine k_ldI rfl rfl hv5 ?_
      refine k_runB (pc' := 51) (loc' := [(0, .ref 40960), (1, .int x1), (2, .int x2), (3, .int x3), (4, .int v3), (5, .int v4), (6, .int v5)]) (st' := [.int v5, .int v4, .int x2]) 4 rfl ?_
      refine k_ic rfl (fun c51_5 => ?_) (fun c51_5 => ?_)
      · rw [c51_5, cond_true] at hD
        refine k_runB (pc' := 61) (loc' := [(0, .ref 40960), (1, .int x1), (2, .int x2), (3, .int x3), (4, .int v3), (5, .int v4), (6, .int v5)]) (st' := [.int v5, .int x2]) 1 rfl ?_
        refine k_wk [0, 1, 3, 4, 5, 6] (loc' := [(0, .ref 40960), (1, .int x1), (3, .int x3), (4, .int v3), (5, .int v4), (6, .int v5)]) rfl rfl ?_
        exact t_d_worthOf_61 hK4 hD
      · rw [c51_5, cond_false] at hD
        refine k_runB (pc' := 61) (loc' := [(0, .ref 40960), (1, .int x1), (2, .int x2), (3, .int x3), (4, .int v3), (5, .int v4), (6, .int v5)]) (st' := [.int v4, .int x2]) 2 rfl ?_
        refine k_wk [0, 1, 3, 4, 5, 6] (loc' := [(0, .ref 40960), (1, .int x1), (3, .int x3), (4, .int v3), (5, .int v4), (6, .int v5)]) rfl rfl ?_
        exact t_d_worthOf_61 hK4 hD
/-- SleepWorkModel.worthOf(I)I -/
def d_worthOf (n : Nat) (F : Nat → Int32) (A : Nat → Nat → Int32) (J : Nat → Nat → Int64) (x1 : Int32) : Option Int32 :=
  d_worthOf_4 n F A J x1 0 0
theorem t_d_worthOf {n : Nat} {x1 : Int32} {r : Int32} : d_worthOf n F A J x1 = some r → k_run t lg (d + 1) 190 0 [(0, .ref 40960), (1, .int x1)] [] (m_h c B F A J) (some (.int r), m_h c B F A J) := by
  intro hD
  unfold d_worthOf at hD
  refine k_runB (pc' := 4) (loc' := [(0, .ref 40960), (1, .int x1), (2, .int 0), (3, .int 0)]) (st' := []) 4 rfl ?_
  refine k_wk [0, 1, 2, 3] (loc' := [(0, .ref 40960), (1, .int x1), (2, .int 0), (3, .int 0)]) rfl rfl ?_
  exact t_d_worthOf_4  hD
def d_worthNow_4 : Nat → (Nat → Int32) → (Nat → Nat → Int32) → (Nat → Nat → Int64) → Int32 → Int32 → Option Int32
  | 0, _, _, _, _, _ => none
  | n + 1, F, A, J, x1, x2 => (d_tasksNow F A J).bind fun v1 =>
    cond (g_cnd .ge x2 v1)
    (some (x1))
    ((d_worthOf n F A J x2).bind fun v3 =>
    (d_worthNow_4 n) F A J (x1 + v3) (x2 + 1))
theorem t_d_worthNow_4 {n : Nat}  {F : Nat → Int32} {A : Nat → Nat → Int32} {J : Nat → Nat → Int64} {x1 : Int32} {x2 : Int32} {w : Int32} : d_worthNow_4 n F A J x1 x2 = some w → k_run t lg (d + 2) 191 4 [(0, .ref 40960), (1, .int x1), (2, .int x2)] [] (m_h c B F A J) (some (.int w), m_h c B F A J) := by
  induction n generalizing F A J x1 x2 w with
  | zero => intro hD; cases hD
  | succ n ih =>
    intro hD
    have hK4 : ∀ (F : Nat → Int32) (A : Nat → Nat → Int32) (J : Nat → Nat → Int64) (x1 : Int32) (x2 : Int32) (w : Int32), d_worthNow_4 n F A J x1 x2 = some w → k_run t lg (d + 2) 191 4 [(0, .ref 40960), (1, .int x1), (2, .int x2)] [] (m_h c B F A J) (some (.int w), m_h c B F A J) := fun _ _ _ _ _ _ h => ih h
    unfold d_worthNow_4 at hD
    refine k_runB (pc' := 6) (loc' := [(0, .ref 40960), (1, .int x1), (2, .int x2)]) (st' := [.ref 40960, .int x2]) 2 rfl ?_
    obtain ⟨v1, hv1, hD⟩ := Option.bind_eq_some_iff.mp hD
    refine k_runC rfl rfl rfl rfl (t_d_tasksNow (d := d + 1) hv1) ?_
    refine k_ic rfl (fun c9_1 => ?_) (fun c9_1 => ?_)
    · rw [c9_1, cond_true] at hD
      refine k_runB (pc' := 27) (loc' := [(0, .ref 40960), (1, .int x1), (2, .int x2)]) (st' := [.int x1]) 1 rfl ?_
      cases hD
      exact k_iret rfl rfl
    · rw [c9_1, cond_false] at hD
      refine k_runB (pc' := 15) (loc' := [(0, .ref 40960), (1, .int x1), (2, .int x2)]) (st' := [.int x2, .ref 40960, .int x1]) 3 rfl ?_
      obtain ⟨v3, hv3, hD⟩ := Option.bind_eq_some_iff.mp hD
      refine k_runC rfl rfl rfl rfl (t_d_worthOf (d := d) hv3) ?_
      refine k_runB (pc' := 4) (loc' := [(0, .ref 40960), (1, .int (x1 + v3)), (2, .int (x2 + 1))]) (st' := []) 4 rfl ?_
      refine k_wk [0, 1, 2] (loc' := [(0, .ref 40960), (1, .int (x1 + v3)), (2, .int (x2 + 1))]) rfl rfl ?_
      exact hK4 _ _ _ _ _ _ hD
/-- SleepWorkModel.worthNow()I -/
def d_worthNow (n : Nat) (F : Nat → Int32) (A : Nat → Nat → Int32) (J : Nat → Nat → Int64) : Option Int32 :=
  d_worthNow_4 n F A J 0 0
theorem t_d_worthNow {n : Nat} {r : Int32} : d_worthNow n F A J = some r → k_run t lg (d + 2) 191 0 [(0, .ref 40960)] [] (m_h c B F A J) (some (.int r), m_h c B F A J) := by
  intro hD
  unfold d_worthNow at hD
  refine k_runB (pc' := 4) (loc' := [(0, .ref 40960), (1, .int 0), (2, .int 0)]) (st' := []) 4 rfl ?_
  refine k_wk [0, 1, 2] (loc' := [(0, .ref 40960), (1, .int 0), (2, .int 0)]) rfl rfl ?_
  exact t_d_worthNow_4  hD
def d_fillsWays_263 (K170 : (Nat → Int32) → (Nat → Nat → Int32) → (Nat → Nat → Int64) → Int32 → Option (Unit × (Nat → Int32) × (Nat → Nat → Int32) × (Nat → Nat → Int64))) (K178 : (Nat → Int32) → (Nat → Nat → Int32) → (Nat → Nat → Int64) → Int32 → Int32 → Option (Unit × (Nat → Int32) × (Nat → Nat → Int32) × (Nat → Nat → Int64))) (K186 : (Nat → Int32) → (Nat → Nat → Int32) → (Nat → Nat → Int64) → Int32 → Int32 → Int32 → Option (Unit × (Nat → Int32) × (Nat → Nat → Int32) × (Nat → Nat → Int64))) (n : Nat) (F : Nat → Int32) (A : Nat → Nat → Int32) (J : Nat → Nat → Int64) (x1 : Int32) (x2 : Int32) (x3 : Int32) : Option (Unit × (Nat → Int32) × (Nat → Nat → Int32) × (Nat → Nat → Int64)) :=
    K186 F A J x1 x2 (x3 + 1)
theorem t_d_fillsWays_263 {n : Nat} {K170 : (Nat → Int32) → (Nat → Nat → Int32) → (Nat → Nat → Int64) → Int32 → Option (Unit × (Nat → Int32) × (Nat → Nat → Int32) × (Nat → Nat → Int64))} {K178 : (Nat → Int32) → (Nat → Nat → Int32) → (Nat → Nat → Int64) → Int32 → Int32 → Option (Unit × (Nat → Int32) × (Nat → Nat → Int32) × (Nat → Nat → Int64))} {K186 : (Nat → Int32) → (Nat → Nat → Int32) → (Nat → Nat → Int64) → Int32 → Int32 → Int32 → Option (Unit × (Nat → Int32) × (Nat → Nat → Int32) × (Nat → Nat → Int64))} (hK170 : ∀ (F : Nat → Int32) (A : Nat → Nat → Int32) (J : Nat → Nat → Int64) (x1 : Int32) (w : Unit × (Nat → Int32) × (Nat → Nat → Int32) × (Nat → Nat → Int64)), K170 F A J x1 = some w → k_run t lg (d) 192 170 [(0, .ref 40960), (1, .int x1)] [] (m_h c B F A J) (none, m_h c B w.2.1 w.2.2.1 w.2.2.2)) (hK178 : ∀ (F : Nat → Int32) (A : Nat → Nat → Int32) (J : Nat → Nat → Int64) (x1 : Int32) (x2 : Int32) (w : Unit × (Nat → Int32) × (Nat → Nat → Int32) × (Nat → Nat → Int64)), K178 F A J x1 x2 = some w → k_run t lg (d) 192 178 [(0, .ref 40960), (1, .int x1), (2, .int x2)] [] (m_h c B F A J) (none, m_h c B w.2.1 w.2.2.1 w.2.2.2)) (hK186 : ∀ (F : Nat → Int32) (A : Nat → Nat → Int32) (J : Nat → Nat → Int64) (x1 : Int32) (x2 : Int32) (x3 : Int32) (w : Unit × (Nat → Int32) × (Nat → Nat → Int32) × (Nat → Nat → Int64)), K186 F A J x1 x2 x3 = some w → k_run t lg (d) 192 186 [(0, .ref 40960), (1, .int x1), (2, .int x2), (3, .int x3)] [] (m_h c B F A J) (none, m_h c B w.2.1 w.2.2.1 w.2.2.2)) {F : Nat → Int32} {A : Nat → Nat → Int32} {J : Nat → Nat → Int64} {x1 : Int32} {x2 : Int32} {x3 : Int32} {w : Unit × (Nat → Int32) × (Nat → Nat → Int32) × (Nat → Nat → Int64)} : d_fillsWays_263 K170 K178 K186 n F A J x1 x2 x3 = some w → k_run t lg (d) 192 263 [(0, .ref 40960), (1, .int x1), (2, .int x2), (3, .int x3)] [] (m_h c B F A J) (none, m_h c B w.2.1 w.2.2.1 w.2.2.2) := by
  intro hD
  unfold d_fillsWays_263 at hD
  refine k_runB (pc' := 186) (loc' := [(0, .ref 40960), (1, .int x1), (2, .int x2), (3, .int (x3 + 1))]) (st' := []) 2 rfl ?_
  refine k_wk [0, 1, 2, 3] (loc' := [(0, .ref 40960), (1, .int x1), (2, .int x2), (3, .int (x3 + 1))]) rfl rfl ?_
  exact hK186 _ _ _ _ _ _ _ hD
def d_fillsWays_186 (K170 : (Nat → Int32) → (Nat → Nat → Int32) → (Nat → Nat → Int64) → Int32 → Option (Unit × (Nat → Int32) × (Nat → Nat → Int32) × (Nat → Nat → Int64))) (K178 : (Nat → Int32) → (Nat → Nat → Int32) → (Nat → Nat → Int64) → Int32 → Int32 → Option (Unit × (Nat → Int32) × (Nat → Nat → Int32) × (Nat → Nat → Int64))) : Nat → (Nat → Int32) → (Nat → Nat → Int32) → (Nat → Nat → Int64) → Int32 → Int32 → Int32 → Option (Unit × (Nat → Int32) × (Nat → Nat → Int32) × (Nat → Nat → Int64))
  | 0, _, _, _, _, _, _ => none
  | n + 1, F, A, J, x1, x2, x3 => cond (g_cnd .ge x3 8)
    (K178 F A J x1 (x2 + 1))
    ((m_ld (A 49) 64 ((8 * x2) + x1)).bind fun v20 =>
    (m_ld (A 49) 64 ((8 * x1) + x3)).bind fun v21 =>
    (m_ld (A 49) 64 ((8 * x2) + x3)).bind fun v22 =>
    cond (g_cnd .ge (v20 + v21) v22)
    (d_fillsWays_263 K170 K178 (d_fillsWays_186 K170 K178 n) n F A J x1 x2 x3)
    ((m_ld (A 49) 64 ((8 * x2) + x1)).bind fun v24 =>
    (m_ld (A 49) 64 ((8 * x1) + x3)).bind fun v25 =>
    (m_st A 49 64 ((8 * x2) + x3) (v24 + v25)).bind fun A26 =>
    (d_fillsWays_186 K170 K178 n) F A26 J x1 x2 (x3 + 1)))
theorem t_d_fillsWays_186 {n : Nat} {K170 : (Nat → Int32) → (Nat → Nat → Int32) → (Nat → Nat → Int64) → Int32 → Option (Unit × (Nat → Int32) × (Nat → Nat → Int32) × (Nat → Nat → Int64))} {K178 : (Nat → Int32) → (Nat → Nat → Int32) → (Nat → Nat → Int64) → Int32 → Int32 → Option (Unit × (Nat → Int32) × (Nat → Nat → Int32) × (Nat → Nat → Int64))} (hK170 : ∀ (F : Nat → Int32) (A : Nat → Nat → Int32) (J : Nat → Nat → Int64) (x1 : Int32) (w : Unit × (Nat → Int32) × (Nat → Nat → Int32) × (Nat → Nat → Int64)), K170 F A J x1 = some w → k_run t lg (d) 192 170 [(0, .ref 40960), (1, .int x1)] [] (m_h c B F A J) (none, m_h c B w.2.1 w.2.2.1 w.2.2.2)) (hK178 : ∀ (F : Nat → Int32) (A : Nat → Nat → Int32) (J : Nat → Nat → Int64) (x1 : Int32) (x2 : Int32) (w : Unit × (Nat → Int32) × (Nat → Nat → Int32) × (Nat → Nat → Int64)), K178 F A J x1 x2 = some w → k_run t lg (d) 192 178 [(0, .ref 40960), (1, .int x1), (2, .int x2)] [] (m_h c B F A J) (none, m_h c B w.2.1 w.2.2.1 w.2.2.2)) {F : Nat → Int32} {A : Nat → Nat → Int32} {J : Nat → Nat → Int64} {x1 : Int32} {x2 : Int32} {x3 : Int32} {w : Unit × (Nat → Int32) × (Nat → Nat → Int32) × (Nat → Nat → Int64)} : d_fillsWays_186 K170 K178 n F A J x1 x2 x3 = some w → k_run t lg (d) 192 186 [(0, .ref 40960), (1, .int x1), (2, .int x2), (3, .int x3)] [] (m_h c B F A J) (none, m_h c B w.2.1 w.2.2.1 w.2.2.2) := by
  induction n generalizing F A J x1 x2 x3 w with
  | zero => intro hD; cases hD
  | succ n ih =>
    intro hD
    have hK186 : ∀ (F : Nat → Int32) (A : Nat → Nat → Int32) (J : Nat → Nat → Int64) (x1 : Int32) (x2 : Int32) (x3 : Int32) (w : Unit × (Nat → Int32) × (Nat → Nat → Int32) × (Nat → Nat → Int64)), d_fillsWays_186 K170 K178 n F A J x1 x2 x3 = some w → k_run t lg (d) 192 186 [(0, .ref 40960), (1, .int x1), (2, .int x2), (3, .int x3)] [] (m_h c B F A J) (none, m_h c B w.2.1 w.2.2.1 w.2.2.2) := fun _ _ _ _ _ _ _ h => ih h
    unfold d_fillsWays_186 at hD
    refine k_runB (pc' := 189) (loc' := [(0, .ref 40960), (1, .int x1), (2, .int x2), (3, .int x3)]) (st' := [.int 8, .int x3]) 2 rfl ?_
    refine k_ic rfl (fun c189_18 => ?_) (fun c189_18 => ?_)
    · rw [c189_18, cond_true] at hD
      refine k_runB (pc' := 178) (loc' := [(0, .ref 40960), (1, .int x1), (2, .int (x2 + 1)), (3, .int x3)]) (st' := []) 2 rfl ?_
      refine k_wk [0, 1, 2] (loc' := [(0, .ref 40960), (1, .int x1), (2, .int (x2 + 1))]) rfl rfl ?_
      exact hK178 _ _ _ _ _ _ hD
    · rw [c189_18, cond_false] at hD
      refine k_runB (pc' := 202) (loc' := [(0, .ref 40960), (1, .int x1), (2, .int x2), (3, .int x3)]) (st' := [.int ((8 * x2) + x1), .ref 41009]) 7 rfl ?_
      obtain ⟨v20, hv20, hD⟩ := Option.bind_eq_some_iff.mp hD
      refine k_ldI rfl rfl hv20 ?_
      refine k_runB (pc' := 213) (loc' := [(0, .ref 40960), (1, .int x1), (2, .int x2), (3, .int x3)]) (st' := [.int ((8 * x1) + x3), .ref 41009, .int v20]) 7 rfl ?_
      obtain ⟨v21, hv21, hD⟩ := Option.bind_eq_some_iff.mp hD
      refine k_ldI rfl rfl hv21 ?_
      refine k_runB (pc' := 225) (loc' := [(0, .ref 40960), (1, .int x1), (2, .int x2), (3, .int x3)]) (st' := [.int ((8 * x2) + x3), .ref 41009, .int (v20 + v21)]) 8 rfl ?_
      obtain ⟨v22, hv22, hD⟩ := Option.bind_eq_some_iff.mp hD
      refine k_ldI rfl rfl hv22 ?_
      refine k_ic rfl (fun c226_22 => ?_) (fun c226_22 => ?_)
      · rw [c226_22, cond_true] at hD
        refine k_wk [0, 1, 2, 3] (loc' := [(0, .ref 40960), (1, .int x1), (2, .int x2), (3, .int x3)]) rfl rfl ?_
        exact t_d_fillsWays_263 hK170 hK178 hK186 hD
      · rw [c226_22, cond_false] at hD
        refine k_runB (pc' := 249) (loc' := [(0, .ref 40960), (1, .int x1), (2, .int x2), (3, .int x3)]) (st' := [.int ((8 * x2) + x1), .ref 41009, .int ((8 * x2) + x3), .ref 41009]) 14 rfl ?_
        obtain ⟨v24, hv24, hD⟩ := Option.bind_eq_some_iff.mp hD
        refine k_ldI rfl rfl hv24 ?_
        refine k_runB (pc' := 260) (loc' := [(0, .ref 40960), (1, .int x1), (2, .int x2), (3, .int x3)]) (st' := [.int ((8 * x1) + x3), .ref 41009, .int v24, .int ((8 * x2) + x3), .ref 41009]) 7 rfl ?_
        obtain ⟨v25, hv25, hD⟩ := Option.bind_eq_some_iff.mp hD
        refine k_ldI rfl rfl hv25 ?_
        refine k_runB (pc' := 262) (loc' := [(0, .ref 40960), (1, .int x1), (2, .int x2), (3, .int x3)]) (st' := [.int (v24 + v25), .int ((8 * x2) + x3), .ref 41009]) 1 rfl ?_
        obtain ⟨A26, hA26, hD⟩ := Option.bind_eq_some_iff.mp hD
        refine k_stI 49 rfl rfl (fun _ => rfl) hA26 ?_
        refine k_runB (pc' := 186) (loc' := [(0, .ref 40960), (1, .int x1), (2, .int x2), (3, .int (x3 + 1))]) (st' := []) 2 rfl ?_
        refine k_wk [0, 1, 2, 3] (loc' := [(0, .ref 40960), (1, .int x1), (2, .int x2), (3, .int (x3 + 1))]) rfl rfl ?_
        exact hK186 _ _ _ _ _ _ _ hD
def d_fillsWays_178 (K170 : (Nat → Int32) → (Nat → Nat → Int32) → (Nat → Nat → Int64) → Int32 → Option (Unit × (Nat → Int32) × (Nat → Nat → Int32) × (Nat → Nat → Int64))) : Nat → (Nat → Int32) → (Nat → Nat → Int32) → (Nat → Nat → Int64) → Int32 → Int32 → Option (Unit × (Nat → Int32) × (Nat → Nat → Int32) × (Nat → Nat → Int64))
  | 0, _, _, _, _, _ => none
  | n + 1, F, A, J, x1, x2 => cond (g_cnd .ge x2 8)
    (K170 F A J (x1 + 1))
    (d_fillsWays_186 K170 (d_fillsWays_178 K170 n) n F A J x1 x2 0)
theorem t_d_fillsWays_178 {n : Nat} {K170 : (Nat → Int32) → (Nat → Nat → Int32) → (Nat → Nat → Int64) → Int32 → Option (Unit × (Nat → Int32) × (Nat → Nat → Int32) × (Nat → Nat → Int64))} (hK170 : ∀ (F : Nat → Int32) (A : Nat → Nat → Int32) (J : Nat → Nat → Int64) (x1 : Int32) (w : Unit × (Nat → Int32) × (Nat → Nat → Int32) × (Nat → Nat → Int64)), K170 F A J x1 = some w → k_run t lg (d) 192 170 [(0, .ref 40960), (1, .int x1)] [] (m_h c B F A J) (none, m_h c B w.2.1 w.2.2.1 w.2.2.2)) {F : Nat → Int32} {A : Nat → Nat → Int32} {J : Nat → Nat → Int64} {x1 : Int32} {x2 : Int32} {w : Unit × (Nat → Int32) × (Nat → Nat → Int32) × (Nat → Nat → Int64)} : d_fillsWays_178 K170 n F A J x1 x2 = some w → k_run t lg (d) 192 178 [(0, .ref 40960), (1, .int x1), (2, .int x2)] [] (m_h c B F A J) (none, m_h c B w.2.1 w.2.2.1 w.2.2.2) := by
  induction n generalizing F A J x1 x2 w with
  | zero => intro hD; cases hD
  | succ n ih =>
    intro hD
    have hK178 : ∀ (F : Nat → Int32) (A : Nat → Nat → Int32) (J : Nat → Nat → Int64) (x1 : Int32) (x2 : Int32) (w : Unit × (Nat → Int32) × (Nat → Nat → Int32) × (Nat → Nat → Int64)), d_fillsWays_178 K170 n F A J x1 x2 = some w → k_run t lg (d) 192 178 [(0, .ref 40960), (1, .int x1), (2, .int x2)] [] (m_h c B F A J) (none, m_h c B w.2.1 w.2.2.1 w.2.2.2) := fun _ _ _ _ _ _ h => ih h
    unfold d_fillsWays_178 at hD
    refine k_runB (pc' := 181) (loc' := [(0, .ref 40960), (1, .int x1), (2, .int x2)]) (st' := [.int 8, .int x2]) 2 rfl ?_
    refine k_ic rfl (fun c181_17 => ?_) (fun c181_17 => ?_)
    · rw [c181_17, cond_true] at hD
      refine k_runB (pc' := 170) (loc' := [(0, .ref 40960), (1, .int (x1 + 1)), (2, .int x2)]) (st' := []) 2 rfl ?_
      refine k_wk [0, 1] (loc' := [(0, .ref 40960), (1, .int (x1 + 1))]) rfl rfl ?_
      exact hK170 _ _ _ _ _ hD
    · rw [c181_17, cond_false] at hD
      refine k_runB (pc' := 186) (loc' := [(0, .ref 40960), (1, .int x1), (2, .int x2), (3, .int 0)]) (st' := []) 2 rfl ?_
      refine k_wk [0, 1, 2, 3] (loc' := [(0, .ref 40960), (1, .int x1), (2, .int x2), (3, .int 0)]) rfl rfl ?_
      exact t_d_fillsWays_186 hK170 hK178 hD
def d_fillsWays_170 : Nat → (Nat → Int32) → (Nat → Nat → Int32) → (Nat → Nat → Int64) → Int32 → Option (Unit × (Nat → Int32) × (Nat → Nat → Int32) × (Nat → Nat → Int64))
  | 0, _, _, _, _ => none
  | n + 1, F, A, J, x1 => cond (g_cnd .ge x1 8)
    (some ((), F, A, J))
    (d_fillsWays_178 (d_fillsWays_170 n) n F A J x1 0)
theorem t_d_fillsWays_170 {n : Nat}  {F : Nat → Int32} {A : Nat → Nat → Int32} {J : Nat → Nat → Int64} {x1 : Int32} {w : Unit × (Nat → Int32) × (Nat → Nat → Int32) × (Nat → Nat → Int64)} : d_fillsWays_170 n F A J x1 = some w → k_run t lg (d) 192 170 [(0, .ref 40960), (1, .int x1)] [] (m_h c B F A J) (none, m_h c B w.2.1 w.2.2.1 w.2.2.2) := by
  induction n generalizing F A J x1 w with
  | zero => intro hD; cases hD
  | succ n ih =>
    intro hD
    have hK170 : ∀ (F : Nat → Int32) (A : Nat → Nat → Int32) (J : Nat → Nat → Int64) (x1 : Int32) (w : Unit × (Nat → Int32) × (Nat → Nat → Int32) × (Nat → Nat → Int64)), d_fillsWays_170 n F A J x1 = some w → k_run t lg (d) 192 170 [(0, .ref 40960), (1, .int x1)] [] (m_h c B F A J) (none, m_h c B w.2.1 w.2.2.1 w.2.2.2) := fun _ _ _ _ _ h => ih h
    unfold d_fillsWays_170 at hD
    refine k_runB (pc' := 173) (loc' := [(0, .ref 40960), (1, .int x1)]) (st' := [.int 8, .int x1]) 2 rfl ?_
    refine k_ic rfl (fun c173_16 => ?_) (fun c173_16 => ?_)
    · rw [c173_16, cond_true] at hD
      cases hD
      exact k_vret rfl rfl
    · rw [c173_16, cond_false] at hD
      refine k_runB (pc' := 178) (loc' := [(0, .ref 40960), (1, .int x1), (2, .int 0)]) (st' := []) 2 rfl ?_
      refine k_wk [0, 1, 2] (loc' := [(0, .ref 40960), (1, .int x1), (2, .int 0)]) rfl rfl ?_
      exact t_d_fillsWays_178 hK170 hD
def d_fillsWays_162 (K40 : (Nat → Int32) → (Nat → Nat → Int32) → (Nat → Nat → Int64) → Int32 → Option (Unit × (Nat → Int32) × (Nat → Nat → Int32) × (Nat → Nat → Int64))) (n : Nat) (F : Nat → Int32) (A : Nat → Nat → Int32) (J : Nat → Nat → Int64) (x1 : Int32) : Option (Unit × (Nat → Int32) × (Nat → Nat → Int32) × (Nat → Nat → Int64)) :=
    K40 F A J (x1 + 1)
theorem t_d_fillsWays_162 {n : Nat} {K40 : (Nat → Int32) → (Nat → Nat → Int32) → (Nat → Nat → Int64) → Int32 → Option (Unit × (Nat → Int32) × (Nat → Nat → Int32) × (Nat → Nat → Int64))} (hK40 : ∀ (F : Nat → Int32) (A : Nat → Nat → Int32) (J : Nat → Nat → Int64) (x1 : Int32) (w : Unit × (Nat → Int32) × (Nat → Nat → Int32) × (Nat → Nat → Int64)), K40 F A J x1 = some w → k_run t lg (d) 192 40 [(0, .ref 40960), (1, .int x1)] [] (m_h c B F A J) (none, m_h c B w.2.1 w.2.2.1 w.2.2.2)) {F : Nat → Int32} {A : Nat → Nat → Int32} {J : Nat → Nat → Int64} {x1 : Int32} {w : Unit × (Nat → Int32) × (Nat → Nat → Int32) × (Nat → Nat → Int64)} : d_fillsWays_162 K40 n F A J x1 = some w → k_run t lg (d) 192 162 [(0, .ref 40960), (1, .int x1)] [] (m_h c B F A J) (none, m_h c B w.2.1 w.2.2.1 w.2.2.2) := by
  intro hD
  unfold d_fillsWays_162 at hD
  refine k_runB (pc' := 40) (loc' := [(0, .ref 40960), (1, .int (x1 + 1))]) (st' := []) 2 rfl ?_
  refine k_wk [0, 1] (loc' := [(0, .ref 40960), (1, .int (x1 + 1))]) rfl rfl ?_
  exact hK40 _ _ _ _ _ hD
def d_fillsWays_40 : Nat → (Nat → Int32) → (Nat → Nat → Int32) → (Nat → Nat → Int64) → Int32 → Option (Unit × (Nat → Int32) × (Nat → Nat → Int32) × (Nat → Nat → Int64))
  | 0, _, _, _, _ => none
  | n + 1, F, A, J, x1 => (m_ld (A 12) 2 (F 18)).bind fun v5 =>
    cond (g_cnd .ge x1 v5)
    (d_fillsWays_170 n F A J 0)
    ((m_ld (A 48) 100 78).bind fun v7 =>
    cond (g_cnd .ne ((v7 >>> (x1 &&& 31)) &&& 1) 1)
    ((m_ld (A 13) 24 ((12 * (F 18)) + x1)).bind fun v9 =>
    (m_ld (A 14) 24 ((12 * (F 18)) + x1)).bind fun v10 =>
    (m_ld (A 15) 24 ((12 * (F 18)) + x1)).bind fun v11 =>
    (m_ld (A 49) 64 ((8 * v9) + v10)).bind fun v12 =>
    cond (g_cnd .lt v11 v12)
    ((m_st A 49 64 ((8 * v9) + v10) v11).bind fun A14 =>
    (m_st A14 49 64 ((8 * v10) + v9) v11).bind fun A15 =>
    (d_fillsWays_40 n) F A15 J (x1 + 1))
    (d_fillsWays_162 (d_fillsWays_40 n) n F A J x1))
    (d_fillsWays_162 (d_fillsWays_40 n) n F A J x1))
theorem t_d_fillsWays_40 {n : Nat}  {F : Nat → Int32} {A : Nat → Nat → Int32} {J : Nat → Nat → Int64} {x1 : Int32} {w : Unit × (Nat → Int32) × (Nat → Nat → Int32) × (Nat → Nat → Int64)} : d_fillsWays_40 n F A J x1 = some w → k_run t lg (d) 192 40 [(0, .ref 40960), (1, .int x1)] [] (m_h c B F A J) (none, m_h c B w.2.1 w.2.2.1 w.2.2.2) := by
  induction n generalizing F A J x1 w with
  | zero => intro hD; cases hD
  | succ n ih =>
    intro hD
    have hK40 : ∀ (F : Nat → Int32) (A : Nat → Nat → Int32) (J : Nat → Nat → Int64) (x1 : Int32) (w : Unit × (Nat → Int32) × (Nat → Nat → Int32) × (Nat → Nat → Int64)), d_fillsWays_40 n F A J x1 = some w → k_run t lg (d) 192 40 [(0, .ref 40960), (1, .int x1)] [] (m_h c B F A J) (none, m_h c B w.2.1 w.2.2.1 w.2.2.2) := fun _ _ _ _ _ h => ih h
    unfold d_fillsWays_40 at hD
    refine k_runB (pc' := 49) (loc' := [(0, .ref 40960), (1, .int x1)]) (st' := [.int (F 18), .ref 40972, .int x1]) 5 rfl ?_
    obtain ⟨v5, hv5, hD⟩ := Option.bind_eq_some_iff.mp hD
    refine k_ldI rfl rfl hv5 ?_
    refine k_ic rfl (fun c50_5 => ?_) (fun c50_5 => ?_)
    · rw [c50_5, cond_true] at hD
      refine k_runB (pc' := 170) (loc' := [(0, .ref 40960), (1, .int 0)]) (st' := []) 2 rfl ?_
      refine k_wk [0, 1] (loc' := [(0, .ref 40960), (1, .int 0)]) rfl rfl ?_
      exact t_d_fillsWays_170  hD
    · rw [c50_5, cond_false] at hD
      refine k_runB (pc' := 59) (loc' := [(0, .ref 40960), (1, .int x1)]) (st' := [.int 78, .ref 41008]) 3 rfl ?_
      obtain ⟨v7, hv7, hD⟩ := Option.bind_eq_some_iff.mp hD
      refine k_ldI rfl rfl hv7 ?_
      refine k_runB (pc' := 65) (loc' := [(0, .ref 40960), (1, .int x1)]) (st' := [.int 1, .int ((v7 >>> (x1 &&& 31)) &&& 1)]) 5 rfl ?_
      refine k_ic rfl (fun c65_7 => ?_) (fun c65_7 => ?_)
      · rw [c65_7, cond_true] at hD
        refine k_runB (pc' := 84) (loc' := [(0, .ref 40960), (1, .int x1)]) (st' := [.int ((12 * (F 18)) + x1), .ref 40973]) 8 rfl ?_
        obtain ⟨v9, hv9, hD⟩ := Option.bind_eq_some_iff.mp hD
        refine k_ldI rfl rfl hv9 ?_
        refine k_runB (pc' := 99) (loc' := [(0, .ref 40960), (1, .int x1), (2, .int v9)]) (st' := [.int ((12 * (F 18)) + x1), .ref 40974]) 9 rfl ?_
        obtain ⟨v10, hv10, hD⟩ := Option.bind_eq_some_iff.mp hD
        refine k_ldI rfl rfl hv10 ?_
        refine k_runB (pc' := 114) (loc' := [(0, .ref 40960), (1, .int x1), (2, .int v9), (3, .int v10)]) (st' := [.int ((12 * (F 18)) + x1), .ref 40975]) 9 rfl ?_
        obtain ⟨v11, hv11, hD⟩ := Option.bind_eq_some_iff.mp hD
        refine k_ldI rfl rfl hv11 ?_
        refine k_runB (pc' := 129) (loc' := [(0, .ref 40960), (1, .int x1), (2, .int v9), (3, .int v10), (4, .int v11)]) (st' := [.int ((8 * v9) + v10), .ref 41009, .int v11]) 9 rfl ?_
        obtain ⟨v12, hv12, hD⟩ := Option.bind_eq_some_iff.mp hD
        refine k_ldI rfl rfl hv12 ?_
        refine k_ic rfl (fun c130_12 => ?_) (fun c130_12 => ?_)
        · rw [c130_12, cond_true] at hD
          refine k_runB (pc' := 148) (loc' := [(0, .ref 40960), (1, .int x1), (2, .int v9), (3, .int v10), (4, .int v11)]) (st' := [.int v11, .int ((8 * v9) + v10), .ref 41009]) 8 rfl ?_
          obtain ⟨A14, hA14, hD⟩ := Option.bind_eq_some_iff.mp hD
          refine k_stI 49 rfl rfl (fun _ => rfl) hA14 ?_
          refine k_runB (pc' := 161) (loc' := [(0, .ref 40960), (1, .int x1), (2, .int v9), (3, .int v10), (4, .int v11)]) (st' := [.int v11, .int ((8 * v10) + v9), .ref 41009]) 8 rfl ?_
          obtain ⟨A15, hA15, hD⟩ := Option.bind_eq_some_iff.mp hD
          refine k_stI 49 rfl rfl (fun _ => rfl) hA15 ?_
          refine k_runB (pc' := 40) (loc' := [(0, .ref 40960), (1, .int (x1 + 1)), (2, .int v9), (3, .int v10), (4, .int v11)]) (st' := []) 2 rfl ?_
          refine k_wk [0, 1] (loc' := [(0, .ref 40960), (1, .int (x1 + 1))]) rfl rfl ?_
          exact hK40 _ _ _ _ _ hD
        · rw [c130_12, cond_false] at hD
          refine k_runB (pc' := 162) (loc' := [(0, .ref 40960), (1, .int x1), (2, .int v9), (3, .int v10), (4, .int v11)]) (st' := []) 1 rfl ?_
          refine k_wk [0, 1] (loc' := [(0, .ref 40960), (1, .int x1)]) rfl rfl ?_
          exact t_d_fillsWays_162 hK40 hD
      · rw [c65_7, cond_false] at hD
        refine k_runB (pc' := 162) (loc' := [(0, .ref 40960), (1, .int x1)]) (st' := []) 1 rfl ?_
        refine k_wk [0, 1] (loc' := [(0, .ref 40960), (1, .int x1)]) rfl rfl ?_
        exact t_d_fillsWays_162 hK40 hD
def d_fillsWays_31 (K2 : (Nat → Int32) → (Nat → Nat → Int32) → (Nat → Nat → Int64) → Int32 → Option (Unit × (Nat → Int32) × (Nat → Nat → Int32) × (Nat → Nat → Int64))) (n : Nat) (F : Nat → Int32) (A : Nat → Nat → Int32) (J : Nat → Nat → Int64) (x1 : Int32) (s1 : Int32) (s2 : Int32) : Option (Unit × (Nat → Int32) × (Nat → Nat → Int32) × (Nat → Nat → Int64)) :=
    (m_st A 49 64 s1 s2).bind fun A16 =>
    K2 F A16 J (x1 + 1)
theorem t_d_fillsWays_31 {n : Nat} {K2 : (Nat → Int32) → (Nat → Nat → Int32) → (Nat → Nat → Int64) → Int32 → Option (Unit × (Nat → Int32) × (Nat → Nat → Int32) × (Nat → Nat → Int64))} (hK2 : ∀ (F : Nat → Int32) (A : Nat → Nat → Int32) (J : Nat → Nat → Int64) (x1 : Int32) (w : Unit × (Nat → Int32) × (Nat → Nat → Int32) × (Nat → Nat → Int64)), K2 F A J x1 = some w → k_run t lg (d) 192 2 [(0, .ref 40960), (1, .int x1)] [] (m_h c B F A J) (none, m_h c B w.2.1 w.2.2.1 w.2.2.2)) {F : Nat → Int32} {A : Nat → Nat → Int32} {J : Nat → Nat → Int64} {x1 : Int32} {s1 : Int32} {s2 : Int32} {w : Unit × (Nat → Int32) × (Nat → Nat → Int32) × (Nat → Nat → Int64)} : d_fillsWays_31 K2 n F A J x1 s1 s2 = some w → k_run t lg (d) 192 31 [(0, .ref 40960), (1, .int x1)] [.int s2, .int s1, .ref 41009] (m_h c B F A J) (none, m_h c B w.2.1 w.2.2.1 w.2.2.2) := by
  intro hD
  unfold d_fillsWays_31 at hD
  obtain ⟨A16, hA16, hD⟩ := Option.bind_eq_some_iff.mp hD
  refine k_stI 49 rfl rfl (fun _ => rfl) hA16 ?_
  refine k_runB (pc' := 2) (loc' := [(0, .ref 40960), (1, .int (x1 + 1))]) (st' := []) 2 rfl ?_
  refine k_wk [0, 1] (loc' := [(0, .ref 40960), (1, .int (x1 + 1))]) rfl rfl ?_
  exact hK2 _ _ _ _ _ hD
def d_fillsWays_2 : Nat → (Nat → Int32) → (Nat → Nat → Int32) → (Nat → Nat → Int64) → Int32 → Option (Unit × (Nat → Int32) × (Nat → Nat → Int32) × (Nat → Nat → Int64))
  | 0, _, _, _, _ => none
  | n + 1, F, A, J, x1 => cond (g_cnd .ge x1 64)
    (d_fillsWays_40 n F A J 0)
    ((m_div x1 8).bind fun v2 =>
    (m_rem x1 8).bind fun v3 =>
    cond (g_cnd .ne v2 v3)
    (d_fillsWays_31 (d_fillsWays_2 n) n F A J x1 x1 1000000)
    (d_fillsWays_31 (d_fillsWays_2 n) n F A J x1 x1 0))
theorem t_d_fillsWays_2 {n : Nat}  {F : Nat → Int32} {A : Nat → Nat → Int32} {J : Nat → Nat → Int64} {x1 : Int32} {w : Unit × (Nat → Int32) × (Nat → Nat → Int32) × (Nat → Nat → Int64)} : d_fillsWays_2 n F A J x1 = some w → k_run t lg (d) 192 2 [(0, .ref 40960), (1, .int x1)] [] (m_h c B F A J) (none, m_h c B w.2.1 w.2.2.1 w.2.2.2) := by
  induction n generalizing F A J x1 w with
  | zero => intro hD; cases hD
  | succ n ih =>
    intro hD
    have hK2 : ∀ (F : Nat → Int32) (A : Nat → Nat → Int32) (J : Nat → Nat → Int64) (x1 : Int32) (w : Unit × (Nat → Int32) × (Nat → Nat → Int32) × (Nat → Nat → Int64)), d_fillsWays_2 n F A J x1 = some w → k_run t lg (d) 192 2 [(0, .ref 40960), (1, .int x1)] [] (m_h c B F A J) (none, m_h c B w.2.1 w.2.2.1 w.2.2.2) := fun _ _ _ _ _ h => ih h
    unfold d_fillsWays_2 at hD
    refine k_runB (pc' := 5) (loc' := [(0, .ref 40960), (1, .int x1)]) (st' := [.int 64, .int x1]) 2 rfl ?_
    refine k_ic rfl (fun c5_0 => ?_) (fun c5_0 => ?_)
    · rw [c5_0, cond_true] at hD
      refine k_runB (pc' := 40) (loc' := [(0, .ref 40960), (1, .int 0)]) (st' := []) 2 rfl ?_
      refine k_wk [0, 1] (loc' := [(0, .ref 40960), (1, .int 0)]) rfl rfl ?_
      exact t_d_fillsWays_40  hD
    · rw [c5_0, cond_false] at hD
      refine k_runB (pc' := 16) (loc' := [(0, .ref 40960), (1, .int x1)]) (st' := [.int 8, .int x1, .int x1, .ref 41009]) 5 rfl ?_
      obtain ⟨v2, hv2, hD⟩ := Option.bind_eq_some_iff.mp hD
      refine k_dvI rfl hv2 ?_
      refine k_runB (pc' := 20) (loc' := [(0, .ref 40960), (1, .int x1)]) (st' := [.int 8, .int x1, .int v2, .int x1, .ref 41009]) 2 rfl ?_
      obtain ⟨v3, hv3, hD⟩ := Option.bind_eq_some_iff.mp hD
      refine k_rmI rfl hv3 ?_
      refine k_ic rfl (fun c21_3 => ?_) (fun c21_3 => ?_)
      · rw [c21_3, cond_true] at hD
        refine k_runB (pc' := 31) (loc' := [(0, .ref 40960), (1, .int x1)]) (st' := [.int 1000000, .int x1, .ref 41009]) 1 rfl ?_
        refine k_wk [0, 1] (loc' := [(0, .ref 40960), (1, .int x1)]) rfl rfl ?_
        exact t_d_fillsWays_31 hK2 hD
      · rw [c21_3, cond_false] at hD
        refine k_runB (pc' := 31) (loc' := [(0, .ref 40960), (1, .int x1)]) (st' := [.int 0, .int x1, .ref 41009]) 2 rfl ?_
        refine k_wk [0, 1] (loc' := [(0, .ref 40960), (1, .int x1)]) rfl rfl ?_
        exact t_d_fillsWays_31 hK2 hD
/-- SleepWorkModel.fillsWays()V -/
def d_fillsWays (n : Nat) (F : Nat → Int32) (A : Nat → Nat → Int32) (J : Nat → Nat → Int64) : Option (Unit × (Nat → Int32) × (Nat → Nat → Int32) × (Nat → Nat → Int64)) :=
  d_fillsWays_2 n F A J 0
theorem t_d_fillsWays {n : Nat} {r : Unit} {F' : Nat → Int32} {A' : Nat → Nat → Int32} {J' : Nat → Nat → Int64} : d_fillsWays n F A J = some (r, F', A', J') → k_run t lg (d) 192 0 [(0, .ref 40960)] [] (m_h c B F A J) (none, m_h c B F' A' J') := by
  intro hD
  unfold d_fillsWays at hD
  refine k_runB (pc' := 2) (loc' := [(0, .ref 40960), (1, .int 0)]) (st' := []) 2 rfl ?_
  refine k_wk [0, 1] (loc' := [(0, .ref 40960), (1, .int 0)]) rfl rfl ?_
  exact t_d_fillsWays_2  hD
def d_getsUp_117 (F : Nat → Int32) (A : Nat → Nat → Int32) (J : Nat → Nat → Int64) (x1 : Int32) (x3 : Int32) (s1 : Int32) (s2 : Int32) : Option (Unit × (Nat → Int32) × (Nat → Nat → Int32) × (Nat → Nat → Int64)) :=
    (m_st A 50 6 s1 s2).bind fun A13 =>
    (m_st A13 51 6 x1 x3).bind fun A14 =>
    cond (g_cnd .ne x3 1000000)
    (some ((), F, A14, J))
    ((m_st A14 48 100 (66 + x1) 0).bind fun A16 =>
    some ((), F, A16, J))
theorem t_d_getsUp_117  {F : Nat → Int32} {A : Nat → Nat → Int32} {J : Nat → Nat → Int64} {x1 : Int32} {x3 : Int32} {s1 : Int32} {s2 : Int32} {w : Unit × (Nat → Int32) × (Nat → Nat → Int32) × (Nat → Nat → Int64)} : d_getsUp_117 F A J x1 x3 s1 s2 = some w → k_run t lg (d) 193 117 [(0, .ref 40960), (1, .int x1), (3, .int x3)] [.int s2, .int s1, .ref 41010] (m_h c B F A J) (none, m_h c B w.2.1 w.2.2.1 w.2.2.2) := by
  intro hD
  unfold d_getsUp_117 at hD
  obtain ⟨A13, hA13, hD⟩ := Option.bind_eq_some_iff.mp hD
  refine k_stI 50 rfl rfl (fun _ => rfl) hA13 ?_
  refine k_runB (pc' := 124) (loc' := [(0, .ref 40960), (1, .int x1), (3, .int x3)]) (st' := [.int x3, .int x1, .ref 41011]) 4 rfl ?_
  obtain ⟨A14, hA14, hD⟩ := Option.bind_eq_some_iff.mp hD
  refine k_stI 51 rfl rfl (fun _ => rfl) hA14 ?_
  refine k_runB (pc' := 129) (loc' := [(0, .ref 40960), (1, .int x1), (3, .int x3)]) (st' := [.int 1000000, .int x3]) 2 rfl ?_
  refine k_ic rfl (fun c129_14 => ?_) (fun c129_14 => ?_)
  · rw [c129_14, cond_true] at hD
    cases hD
    exact k_vret rfl rfl
  · rw [c129_14, cond_false] at hD
    refine k_runB (pc' := 141) (loc' := [(0, .ref 40960), (1, .int x1), (3, .int x3)]) (st' := [.int 0, .int (66 + x1), .ref 41008]) 6 rfl ?_
    obtain ⟨A16, hA16, hD⟩ := Option.bind_eq_some_iff.mp hD
    refine k_stI 48 rfl rfl (fun _ => rfl) hA16 ?_
    cases hD
    exact k_vret rfl rfl
/-- SleepWorkModel.getsUp(I)V -/
def d_getsUp (F : Nat → Int32) (A : Nat → Nat → Int32) (J : Nat → Nat → Int64) (x1 : Int32) : Option (Unit × (Nat → Int32) × (Nat → Nat → Int32) × (Nat → Nat → Int64)) :=
  (m_ld (A 48) 100 (42 + x1)).bind fun v1 =>
  (m_st A 50 6 x1 0).bind fun A2 =>
  (m_st A2 55 6 x1 0).bind fun A3 =>
  (m_st A3 56 6 x1 (vp_nar .boolean 0)).bind fun A4 =>
  (m_st A4 48 100 (66 + x1) ((-2))).bind fun A5 =>
  (m_ld (A5 48) 100 (48 + x1)).bind fun v6 =>
  (m_st A5 54 6 x1 v6).bind fun A7 =>
  cond (g_cnd .ge v1 0)
  ((m_ld (A7 30) 12 ((6 * (F 18)) + x1)).bind fun v9 =>
  (m_ld (A7 20) 12 ((6 * (F 18)) + v1)).bind fun v10 =>
  (m_ld (A7 49) 64 ((8 * v9) + v10)).bind fun v11 =>
  cond (g_cnd .ne v11 1000000)
  (d_getsUp_117 F A7 J x1 v11 x1 1)
  (d_getsUp_117 F A7 J x1 v11 x1 3))
  (some ((), F, A7, J))
theorem t_d_getsUp {x1 : Int32} {r : Unit} {F' : Nat → Int32} {A' : Nat → Nat → Int32} {J' : Nat → Nat → Int64} : d_getsUp F A J x1 = some (r, F', A', J') → k_run t lg (d) 193 0 [(0, .ref 40960), (1, .int x1)] [] (m_h c B F A J) (none, m_h c B F' A' J') := by
  intro hD
  unfold d_getsUp at hD
  refine k_runB (pc' := 8) (loc' := [(0, .ref 40960), (1, .int x1)]) (st' := [.int (42 + x1), .ref 41008]) 5 rfl ?_
  obtain ⟨v1, hv1, hD⟩ := Option.bind_eq_some_iff.mp hD
  refine k_ldI rfl rfl hv1 ?_
  refine k_runB (pc' := 16) (loc' := [(0, .ref 40960), (1, .int x1), (2, .int v1)]) (st' := [.int 0, .int x1, .ref 41010]) 5 rfl ?_
  obtain ⟨A2, hA2, hD⟩ := Option.bind_eq_some_iff.mp hD
  refine k_stI 50 rfl rfl (fun _ => rfl) hA2 ?_
  refine k_runB (pc' := 23) (loc' := [(0, .ref 40960), (1, .int x1), (2, .int v1)]) (st' := [.int 0, .int x1, .ref 41015]) 4 rfl ?_
  obtain ⟨A3, hA3, hD⟩ := Option.bind_eq_some_iff.mp hD
  refine k_stI 55 rfl rfl (fun _ => rfl) hA3 ?_
  refine k_runB (pc' := 30) (loc' := [(0, .ref 40960), (1, .int x1), (2, .int v1)]) (st' := [.int 0, .int x1, .ref 41016]) 4 rfl ?_
  obtain ⟨A4, hA4, hD⟩ := Option.bind_eq_some_iff.mp hD
  refine k_stZ 56 rfl rfl (fun _ => rfl) hA4 ?_
  refine k_runB (pc' := 41) (loc' := [(0, .ref 40960), (1, .int x1), (2, .int v1)]) (st' := [.int ((-2)), .int (66 + x1), .ref 41008]) 6 rfl ?_
  obtain ⟨A5, hA5, hD⟩ := Option.bind_eq_some_iff.mp hD
  refine k_stI 48 rfl rfl (fun _ => rfl) hA5 ?_
  refine k_runB (pc' := 55) (loc' := [(0, .ref 40960), (1, .int x1), (2, .int v1)]) (st' := [.int (48 + x1), .ref 41008, .int x1, .ref 41014]) 8 rfl ?_
  obtain ⟨v6, hv6, hD⟩ := Option.bind_eq_some_iff.mp hD
  refine k_ldI rfl rfl hv6 ?_
  obtain ⟨A7, hA7, hD⟩ := Option.bind_eq_some_iff.mp hD
  refine k_stI 54 rfl rfl (fun _ => rfl) hA7 ?_
  refine k_runB (pc' := 58) (loc' := [(0, .ref 40960), (1, .int x1), (2, .int v1)]) (st' := [.int v1]) 1 rfl ?_
  refine k_if rfl (fun c58_7 => ?_) (fun c58_7 => ?_)
  · rw [c58_7, cond_true] at hD
    refine k_runB (pc' := 81) (loc' := [(0, .ref 40960), (1, .int x1), (2, .int v1)]) (st' := [.int ((6 * (F 18)) + x1), .ref 40990, .int 8, .ref 41009]) 11 rfl ?_
    obtain ⟨v9, hv9, hD⟩ := Option.bind_eq_some_iff.mp hD
    refine k_ldI rfl rfl hv9 ?_
    refine k_runB (pc' := 96) (loc' := [(0, .ref 40960), (1, .int x1), (2, .int v1)]) (st' := [.int ((6 * (F 18)) + v1), .ref 40980, .int (8 * v9), .ref 41009]) 9 rfl ?_
    obtain ⟨v10, hv10, hD⟩ := Option.bind_eq_some_iff.mp hD
    refine k_ldI rfl rfl hv10 ?_
    refine k_runB (pc' := 98) (loc' := [(0, .ref 40960), (1, .int x1), (2, .int v1)]) (st' := [.int ((8 * v9) + v10), .ref 41009]) 1 rfl ?_
    obtain ⟨v11, hv11, hD⟩ := Option.bind_eq_some_iff.mp hD
    refine k_ldI rfl rfl hv11 ?_
    refine k_runB (pc' := 109) (loc' := [(0, .ref 40960), (1, .int x1), (2, .int v1), (3, .int v11)]) (st' := [.int 1000000, .int v11, .int x1, .ref 41010]) 6 rfl ?_
    refine k_ic rfl (fun c109_11 => ?_) (fun c109_11 => ?_)
    · rw [c109_11, cond_true] at hD
      refine k_runB (pc' := 117) (loc' := [(0, .ref 40960), (1, .int x1), (2, .int v1), (3, .int v11)]) (st' := [.int 1, .int x1, .ref 41010]) 1 rfl ?_
      refine k_wk [0, 1, 3] (loc' := [(0, .ref 40960), (1, .int x1), (3, .int v11)]) rfl rfl ?_
      exact t_d_getsUp_117  hD
    · rw [c109_11, cond_false] at hD
      refine k_runB (pc' := 117) (loc' := [(0, .ref 40960), (1, .int x1), (2, .int v1), (3, .int v11)]) (st' := [.int 3, .int x1, .ref 41010]) 2 rfl ?_
      refine k_wk [0, 1, 3] (loc' := [(0, .ref 40960), (1, .int x1), (3, .int v11)]) rfl rfl ?_
      exact t_d_getsUp_117  hD
  · rw [c58_7, cond_false] at hD
    cases hD
    exact k_vret rfl rfl
def d_tells_211 (n : Nat) (F : Nat → Int32) (A : Nat → Nat → Int32) (J : Nat → Nat → Int64) (x1 : Int32) (x3 : Int32) (x6 : Int32) : Option (Int32 × (Nat → Int32) × (Nat → Nat → Int32) × (Nat → Nat → Int64)) :=
    (m_ld (A 39) 100 x6).bind fun v36 =>
    (m_ld (A 40) 100 x6).bind fun v37 =>
    (d_termOf n F A J v36 v37).bind fun (v38, F39, A40, J41) =>
    cond (g_cnd .eq (F39 63) 0)
    (cond (g_cnd .ge v38 0)
    ((d_stepsOf F39 A40 J41 x3).bind fun v44 =>
    cond (g_cnd .lt v38 v44)
    (some (v38, F39, A40, J41))
    ((d_stepsOf F39 A40 J41 x3).bind fun v46 =>
    some (v46 - 1, F39, A40, J41)))
    (some (0, F39, A40, J41)))
    ((m_ld (A40 54) 6 x1).bind fun v47 =>
    some (v47, F39, A40, J41))
theorem t_d_tells_211 (ht : ∀ k, t.1 12 k = k_ty 12 k) {n : Nat}  {F : Nat → Int32} {A : Nat → Nat → Int32} {J : Nat → Nat → Int64} {x1 : Int32} {x3 : Int32} {x6 : Int32} {w : Int32 × (Nat → Int32) × (Nat → Nat → Int32) × (Nat → Nat → Int64)} : d_tells_211 n F A J x1 x3 x6 = some w → k_run t lg (d + 1) 194 211 [(0, .ref 40960), (1, .int x1), (3, .int x3), (6, .int x6)] [] (m_h c B F A J) (some (.int w.1), m_h c B w.2.1 w.2.2.1 w.2.2.2) := by
  intro hD
  unfold d_tells_211 at hD
  refine k_runB (pc' := 218) (loc' := [(0, .ref 40960), (1, .int x1), (3, .int x3), (6, .int x6)]) (st' := [.int x6, .ref 40999, .ref 40960]) 4 rfl ?_
  obtain ⟨v36, hv36, hD⟩ := Option.bind_eq_some_iff.mp hD
  refine k_ldI rfl rfl hv36 ?_
  refine k_runB (pc' := 225) (loc' := [(0, .ref 40960), (1, .int x1), (3, .int x3), (6, .int x6)]) (st' := [.int x6, .ref 41000, .int v36, .ref 40960]) 3 rfl ?_
  obtain ⟨v37, hv37, hD⟩ := Option.bind_eq_some_iff.mp hD
  refine k_ldI rfl rfl hv37 ?_
  obtain ⟨⟨v38, F39, A40, J41⟩, hv38, hD⟩ := Option.bind_eq_some_iff.mp hD
  dsimp only at hD
  refine k_runC rfl rfl rfl rfl (t_d_termOf (d := d) ht hv38) ?_
  refine k_runB (pc' := 235) (loc' := [(0, .ref 40960), (1, .int x1), (3, .int x3), (6, .int x6), (7, .int v38)]) (st' := [.int (F39 63)]) 3 rfl ?_
  refine k_if rfl (fun c235_41 => ?_) (fun c235_41 => ?_)
  · rw [c235_41, cond_true] at hD
    refine k_runB (pc' := 247) (loc' := [(0, .ref 40960), (1, .int x1), (3, .int x3), (6, .int x6), (7, .int v38)]) (st' := [.int v38]) 1 rfl ?_
    refine k_if rfl (fun c247_42 => ?_) (fun c247_42 => ?_)
    · rw [c247_42, cond_true] at hD
      refine k_runB (pc' := 258) (loc' := [(0, .ref 40960), (1, .int x1), (3, .int x3), (6, .int x6), (7, .int v38)]) (st' := [.int x3, .ref 40960, .int v38]) 3 rfl ?_
      obtain ⟨v44, hv44, hD⟩ := Option.bind_eq_some_iff.mp hD
      refine k_runC rfl rfl rfl rfl (t_d_stepsOf (d := d) hv44) ?_
      refine k_ic rfl (fun c261_44 => ?_) (fun c261_44 => ?_)
      · rw [c261_44, cond_true] at hD
        refine k_runB (pc' := 276) (loc' := [(0, .ref 40960), (1, .int x1), (3, .int x3), (6, .int x6), (7, .int v38)]) (st' := [.int v38]) 1 rfl ?_
        cases hD
        exact k_iret rfl rfl
      · rw [c261_44, cond_false] at hD
        refine k_runB (pc' := 266) (loc' := [(0, .ref 40960), (1, .int x1), (3, .int x3), (6, .int x6), (7, .int v38)]) (st' := [.int x3, .ref 40960]) 2 rfl ?_
        obtain ⟨v46, hv46, hD⟩ := Option.bind_eq_some_iff.mp hD
        refine k_runC rfl rfl rfl rfl (t_d_stepsOf (d := d) hv46) ?_
        refine k_runB (pc' := 276) (loc' := [(0, .ref 40960), (1, .int x1), (3, .int x3), (6, .int x6), (7, .int v38)]) (st' := [.int (v46 - 1)]) 3 rfl ?_
        cases hD
        exact k_iret rfl rfl
    · rw [c247_42, cond_false] at hD
      refine k_runB (pc' := 276) (loc' := [(0, .ref 40960), (1, .int x1), (3, .int x3), (6, .int x6), (7, .int v38)]) (st' := [.int 0]) 2 rfl ?_
      cases hD
      exact k_iret rfl rfl
  · rw [c235_41, cond_false] at hD
    refine k_runB (pc' := 243) (loc' := [(0, .ref 40960), (1, .int x1), (3, .int x3), (6, .int x6), (7, .int v38)]) (st' := [.int x1, .ref 41014]) 3 rfl ?_
    obtain ⟨v47, hv47, hD⟩ := Option.bind_eq_some_iff.mp hD
    refine k_ldI rfl rfl hv47 ?_
    cases hD
    exact k_iret rfl rfl
def d_tells_130 : Nat → (Nat → Int32) → (Nat → Nat → Int32) → (Nat → Nat → Int64) → Int32 → Int32 → Int32 → Int32 → Option (Int32 × (Nat → Int32) × (Nat → Nat → Int32) × (Nat → Nat → Int64))
  | 0, _, _, _, _, _, _, _ => none
  | n + 1, F, A, J, x1, x3, x5, x6 => cond (g_cnd .ge x6 x5)
    ((m_ld (A 54) 6 x1).bind fun v18 =>
    some (v18, F, A, J))
    ((m_ld (A 36) 100 x6).bind fun v19 =>
    cond (g_cnd .eq v19 0)
    (d_tells_211 n F A J x1 x3 x6)
    ((m_ld (A 37) 100 x6).bind fun v21 =>
    (m_ld (A 38) 100 x6).bind fun v22 =>
    (d_termOf n F A J v21 v22).bind fun (v23, F24, A25, J26) =>
    (m_ld (A25 38) 100 x6).bind fun v27 =>
    (m_ld (A25 39) 100 x6).bind fun v28 =>
    (d_termOf n F24 A25 J26 v27 v28).bind fun (v29, F30, A31, J32) =>
    cond (g_cnd .eq (F30 63) 0)
    (cond (g_cnd .lt v23 v29)
    (d_tells_211 n F30 A31 J32 x1 x3 x6)
    ((d_tells_130 n) F30 A31 J32 x1 x3 x5 (x6 + 1)))
    ((m_ld (A31 54) 6 x1).bind fun v35 =>
    some (v35, F30, A31, J32))))
theorem t_d_tells_130 (ht : ∀ k, t.1 12 k = k_ty 12 k) {n : Nat}  {F : Nat → Int32} {A : Nat → Nat → Int32} {J : Nat → Nat → Int64} {x1 : Int32} {x3 : Int32} {x5 : Int32} {x6 : Int32} {w : Int32 × (Nat → Int32) × (Nat → Nat → Int32) × (Nat → Nat → Int64)} : d_tells_130 n F A J x1 x3 x5 x6 = some w → k_run t lg (d + 1) 194 130 [(0, .ref 40960), (1, .int x1), (3, .int x3), (5, .int x5), (6, .int x6)] [] (m_h c B F A J) (some (.int w.1), m_h c B w.2.1 w.2.2.1 w.2.2.2) := by
  induction n generalizing F A J x1 x3 x5 x6 w with
  | zero => intro hD; cases hD
  | succ n ih =>
    intro hD
    have hK130 : ∀ (F : Nat → Int32) (A : Nat → Nat → Int32) (J : Nat → Nat → Int64) (x1 : Int32) (x3 : Int32) (x5 : Int32) (x6 : Int32) (w : Int32 × (Nat → Int32) × (Nat → Nat → Int32) × (Nat → Nat → Int64)), d_tells_130 n F A J x1 x3 x5 x6 = some w → k_run t lg (d + 1) 194 130 [(0, .ref 40960), (1, .int x1), (3, .int x3), (5, .int x5), (6, .int x6)] [] (m_h c B F A J) (some (.int w.1), m_h c B w.2.1 w.2.2.1 w.2.2.2) := fun _ _ _ _ _ _ _ _ h => ih h
    unfold d_tells_130 at hD
    refine k_runB (pc' := 134) (loc' := [(0, .ref 40960), (1, .int x1), (3, .int x3), (5, .int x5), (6, .int x6)]) (st' := [.int x5, .int x6]) 2 rfl ?_
    refine k_ic rfl (fun c134_16 => ?_) (fun c134_16 => ?_)
    · rw [c134_16, cond_true] at hD
      refine k_runB (pc' := 288) (loc' := [(0, .ref 40960), (1, .int x1), (3, .int x3), (5, .int x5), (6, .int x6)]) (st' := [.int x1, .ref 41014]) 3 rfl ?_
      obtain ⟨v18, hv18, hD⟩ := Option.bind_eq_some_iff.mp hD
      refine k_ldI rfl rfl hv18 ?_
      cases hD
      exact k_iret rfl rfl
    · rw [c134_16, cond_false] at hD
      refine k_runB (pc' := 143) (loc' := [(0, .ref 40960), (1, .int x1), (3, .int x3), (5, .int x5), (6, .int x6)]) (st' := [.int x6, .ref 40996]) 3 rfl ?_
      obtain ⟨v19, hv19, hD⟩ := Option.bind_eq_some_iff.mp hD
      refine k_ldZ rfl rfl hv19 ?_
      refine k_if rfl (fun c144_19 => ?_) (fun c144_19 => ?_)
      · rw [c144_19, cond_true] at hD
        refine k_wk [0, 1, 3, 6] (loc' := [(0, .ref 40960), (1, .int x1), (3, .int x3), (6, .int x6)]) rfl rfl ?_
        exact t_d_tells_211 ht  hD
      · rw [c144_19, cond_false] at hD
        refine k_runB (pc' := 154) (loc' := [(0, .ref 40960), (1, .int x1), (3, .int x3), (5, .int x5), (6, .int x6)]) (st' := [.int x6, .ref 40997, .ref 40960]) 4 rfl ?_
        obtain ⟨v21, hv21, hD⟩ := Option.bind_eq_some_iff.mp hD
        refine k_ldI rfl rfl hv21 ?_
        refine k_runB (pc' := 161) (loc' := [(0, .ref 40960), (1, .int x1), (3, .int x3), (5, .int x5), (6, .int x6)]) (st' := [.int x6, .ref 40998, .int v21, .ref 40960]) 3 rfl ?_
        obtain ⟨v22, hv22, hD⟩ := Option.bind_eq_some_iff.mp hD
        refine k_ldI rfl rfl hv22 ?_
        obtain ⟨⟨v23, F24, A25, J26⟩, hv23, hD⟩ := Option.bind_eq_some_iff.mp hD
        dsimp only at hD
        refine k_runC rfl rfl rfl rfl (t_d_termOf (d := d) ht hv23) ?_
        refine k_runB (pc' := 174) (loc' := [(0, .ref 40960), (1, .int x1), (3, .int x3), (5, .int x5), (6, .int x6), (7, .int v23)]) (st' := [.int x6, .ref 40998, .ref 40960]) 5 rfl ?_
        obtain ⟨v27, hv27, hD⟩ := Option.bind_eq_some_iff.mp hD
        refine k_ldI rfl rfl hv27 ?_
        refine k_runB (pc' := 181) (loc' := [(0, .ref 40960), (1, .int x1), (3, .int x3), (5, .int x5), (6, .int x6), (7, .int v23)]) (st' := [.int x6, .ref 40999, .int v27, .ref 40960]) 3 rfl ?_
        obtain ⟨v28, hv28, hD⟩ := Option.bind_eq_some_iff.mp hD
        refine k_ldI rfl rfl hv28 ?_
        obtain ⟨⟨v29, F30, A31, J32⟩, hv29, hD⟩ := Option.bind_eq_some_iff.mp hD
        dsimp only at hD
        refine k_runC rfl rfl rfl rfl (t_d_termOf (d := d) ht hv29) ?_
        refine k_runB (pc' := 191) (loc' := [(0, .ref 40960), (1, .int x1), (3, .int x3), (5, .int x5), (6, .int x6), (7, .int v23), (8, .int v29)]) (st' := [.int (F30 63)]) 3 rfl ?_
        refine k_if rfl (fun c191_32 => ?_) (fun c191_32 => ?_)
        · rw [c191_32, cond_true] at hD
          refine k_runB (pc' := 205) (loc' := [(0, .ref 40960), (1, .int x1), (3, .int x3), (5, .int x5), (6, .int x6), (7, .int v23), (8, .int v29)]) (st' := [.int v29, .int v23]) 2 rfl ?_
          refine k_ic rfl (fun c205_33 => ?_) (fun c205_33 => ?_)
          · rw [c205_33, cond_true] at hD
            refine k_wk [0, 1, 3, 6] (loc' := [(0, .ref 40960), (1, .int x1), (3, .int x3), (6, .int x6)]) rfl rfl ?_
            exact t_d_tells_211 ht  hD
          · rw [c205_33, cond_false] at hD
            refine k_runB (pc' := 130) (loc' := [(0, .ref 40960), (1, .int x1), (3, .int x3), (5, .int x5), (6, .int (x6 + 1)), (7, .int v23), (8, .int v29)]) (st' := []) 3 rfl ?_
            refine k_wk [0, 1, 3, 5, 6] (loc' := [(0, .ref 40960), (1, .int x1), (3, .int x3), (5, .int x5), (6, .int (x6 + 1))]) rfl rfl ?_
            exact hK130 _ _ _ _ _ _ _ _ hD
        · rw [c191_32, cond_false] at hD
          refine k_runB (pc' := 199) (loc' := [(0, .ref 40960), (1, .int x1), (3, .int x3), (5, .int x5), (6, .int x6), (7, .int v23), (8, .int v29)]) (st' := [.int x1, .ref 41014]) 3 rfl ?_
          obtain ⟨v35, hv35, hD⟩ := Option.bind_eq_some_iff.mp hD
          refine k_ldI rfl rfl hv35 ?_
          cases hD
          exact k_iret rfl rfl
/-- SleepWorkModel.tells(II)I -/
def d_tells (n : Nat) (F : Nat → Int32) (A : Nat → Nat → Int32) (J : Nat → Nat → Int64) (x1 : Int32) (x2 : Int32) : Option (Int32 × (Nat → Int32) × (Nat → Nat → Int32) × (Nat → Nat → Int64)) :=
  (m_ld (A 48) 100 (42 + x1)).bind fun v1 =>
  (m_ld (A 34) 12 ((6 * (F 18)) + x1)).bind fun v2 =>
  (m_ld (A 35) 12 ((6 * (F 18)) + x1)).bind fun v3 =>
  (m_ld (A 54) 6 x1).bind fun v4 =>
  (m_st A 45 6 0 v4).bind fun A5 =>
  (m_ld (A5 54) 6 x1).bind fun v6 =>
  (m_ld (A5 48) 100 ((6 + (6 * v1)) + v6)).bind fun v7 =>
  (m_st A5 45 6 1 v7).bind fun A8 =>
  (d_stepsOf F A8 J v1).bind fun v9 =>
  (m_st A8 45 6 2 v9).bind fun A10 =>
  (m_st A10 45 6 3 x2).bind fun A11 =>
  (m_ld (A11 48) 100 v1).bind fun v12 =>
  (m_st A11 45 6 4 v12).bind fun A13 =>
  (m_ld (A13 55) 6 x1).bind fun v14 =>
  (m_st A13 45 6 5 v14).bind fun A15 =>
  (m_pfz F 63 0).bind fun F16 =>
  d_tells_130 n F16 A15 J x1 v1 v3 v2
theorem t_d_tells (ht : ∀ k, t.1 12 k = k_ty 12 k) {n : Nat} {x1 : Int32} {x2 : Int32} {r : Int32} {F' : Nat → Int32} {A' : Nat → Nat → Int32} {J' : Nat → Nat → Int64} : d_tells n F A J x1 x2 = some (r, F', A', J') → k_run t lg (d + 1) 194 0 [(0, .ref 40960), (1, .int x1), (2, .int x2)] [] (m_h c B F A J) (some (.int r), m_h c B F' A' J') := by
  intro hD
  unfold d_tells at hD
  refine k_runB (pc' := 8) (loc' := [(0, .ref 40960), (1, .int x1), (2, .int x2)]) (st' := [.int (42 + x1), .ref 41008]) 5 rfl ?_
  obtain ⟨v1, hv1, hD⟩ := Option.bind_eq_some_iff.mp hD
  refine k_ldI rfl rfl hv1 ?_
  refine k_runB (pc' := 23) (loc' := [(0, .ref 40960), (1, .int x1), (2, .int x2), (3, .int v1)]) (st' := [.int ((6 * (F 18)) + x1), .ref 40994]) 9 rfl ?_
  obtain ⟨v2, hv2, hD⟩ := Option.bind_eq_some_iff.mp hD
  refine k_ldI rfl rfl hv2 ?_
  refine k_runB (pc' := 39) (loc' := [(0, .ref 40960), (1, .int x1), (2, .int x2), (3, .int v1), (4, .int v2)]) (st' := [.int ((6 * (F 18)) + x1), .ref 40995]) 9 rfl ?_
  obtain ⟨v3, hv3, hD⟩ := Option.bind_eq_some_iff.mp hD
  refine k_ldI rfl rfl hv3 ?_
  refine k_runB (pc' := 52) (loc' := [(0, .ref 40960), (1, .int x1), (2, .int x2), (3, .int v1), (4, .int v2), (5, .int v3)]) (st' := [.int x1, .ref 41014, .int 0, .ref 41005]) 7 rfl ?_
  obtain ⟨v4, hv4, hD⟩ := Option.bind_eq_some_iff.mp hD
  refine k_ldI rfl rfl hv4 ?_
  obtain ⟨A5, hA5, hD⟩ := Option.bind_eq_some_iff.mp hD
  refine k_stI 45 rfl rfl (fun _ => rfl) hA5 ?_
  refine k_runB (pc' := 75) (loc' := [(0, .ref 40960), (1, .int x1), (2, .int x2), (3, .int v1), (4, .int v2), (5, .int v3)]) (st' := [.int x1, .ref 41014, .int (6 + (6 * v1)), .ref 41008, .int 1, .ref 41005]) 13 rfl ?_
  obtain ⟨v6, hv6, hD⟩ := Option.bind_eq_some_iff.mp hD
  refine k_ldI rfl rfl hv6 ?_
  refine k_runB (pc' := 77) (loc' := [(0, .ref 40960), (1, .int x1), (2, .int x2), (3, .int v1), (4, .int v2), (5, .int v3)]) (st' := [.int ((6 + (6 * v1)) + v6), .ref 41008, .int 1, .ref 41005]) 1 rfl ?_
  obtain ⟨v7, hv7, hD⟩ := Option.bind_eq_some_iff.mp hD
  refine k_ldI rfl rfl hv7 ?_
  obtain ⟨A8, hA8, hD⟩ := Option.bind_eq_some_iff.mp hD
  refine k_stI 45 rfl rfl (fun _ => rfl) hA8 ?_
  refine k_runB (pc' := 86) (loc' := [(0, .ref 40960), (1, .int x1), (2, .int x2), (3, .int v1), (4, .int v2), (5, .int v3)]) (st' := [.int v1, .ref 40960, .int 2, .ref 41005]) 5 rfl ?_
  obtain ⟨v9, hv9, hD⟩ := Option.bind_eq_some_iff.mp hD
  refine k_runC rfl rfl rfl rfl (t_d_stepsOf (d := d) hv9) ?_
  obtain ⟨A10, hA10, hD⟩ := Option.bind_eq_some_iff.mp hD
  refine k_stI 45 rfl rfl (fun _ => rfl) hA10 ?_
  refine k_runB (pc' := 96) (loc' := [(0, .ref 40960), (1, .int x1), (2, .int x2), (3, .int v1), (4, .int v2), (5, .int v3)]) (st' := [.int x2, .int 3, .ref 41005]) 4 rfl ?_
  obtain ⟨A11, hA11, hD⟩ := Option.bind_eq_some_iff.mp hD
  refine k_stI 45 rfl rfl (fun _ => rfl) hA11 ?_
  refine k_runB (pc' := 107) (loc' := [(0, .ref 40960), (1, .int x1), (2, .int x2), (3, .int v1), (4, .int v2), (5, .int v3)]) (st' := [.int v1, .ref 41008, .int 4, .ref 41005]) 6 rfl ?_
  obtain ⟨v12, hv12, hD⟩ := Option.bind_eq_some_iff.mp hD
  refine k_ldI rfl rfl hv12 ?_
  obtain ⟨A13, hA13, hD⟩ := Option.bind_eq_some_iff.mp hD
  refine k_stI 45 rfl rfl (fun _ => rfl) hA13 ?_
  refine k_runB (pc' := 119) (loc' := [(0, .ref 40960), (1, .int x1), (2, .int x2), (3, .int v1), (4, .int v2), (5, .int v3)]) (st' := [.int x1, .ref 41015, .int 5, .ref 41005]) 6 rfl ?_
  obtain ⟨v14, hv14, hD⟩ := Option.bind_eq_some_iff.mp hD
  refine k_ldI rfl rfl hv14 ?_
  obtain ⟨A15, hA15, hD⟩ := Option.bind_eq_some_iff.mp hD
  refine k_stI 45 rfl rfl (fun _ => rfl) hA15 ?_
  refine k_runB (pc' := 123) (loc' := [(0, .ref 40960), (1, .int x1), (2, .int x2), (3, .int v1), (4, .int v2), (5, .int v3)]) (st' := [.int 0, .ref 40960]) 2 rfl ?_
  obtain ⟨F16, hF16, hD⟩ := Option.bind_eq_some_iff.mp hD
  refine k_ptZ rfl (ht 63) rfl rfl hF16 ?_
  refine k_runB (pc' := 130) (loc' := [(0, .ref 40960), (1, .int x1), (2, .int x2), (3, .int v1), (4, .int v2), (5, .int v3), (6, .int v2)]) (st' := []) 2 rfl ?_
  refine k_wk [0, 1, 3, 5, 6] (loc' := [(0, .ref 40960), (1, .int x1), (3, .int v1), (5, .int v3), (6, .int v2)]) rfl rfl ?_
  exact t_d_tells_130 ht  hD
end MD
end Qz4
section Qz5
/-! the reference's methods as functions (printed by wip/dec.py) -/
section MD
variable {t : gT} {lg : Nat → Nat} {d : Nat} {c : Nat × Nat} {B : Nat → List gE} {F : Nat → Int32} {A : Nat → Nat → Int32} {J : Nat → Nat → Int64}
/-- SleepWorkModel.does(II)V -/
def d_does (F : Nat → Int32) (A : Nat → Nat → Int32) (J : Nat → Nat → Int64) (x1 : Int32) (x2 : Int32) : Option (Unit × (Nat → Int32) × (Nat → Nat → Int32) × (Nat → Nat → Int64)) :=
  (m_ld (A 48) 100 ((6 + (6 * x1)) + x2)).bind fun v1 =>
  (m_st A 48 100 ((6 + (6 * x1)) + x2) (v1 + 1)).bind fun A2 =>
  (d_stepAt F A2 J x1 x2).bind fun v3 =>
  (m_ld (A2 28) 72 v3).bind fun v4 =>
  cond (g_cnd .lt v4 0)
  (some ((), F, A2, J))
  ((m_ld (A2 48) 100 ((6 + (6 * x1)) + v4)).bind fun v6 =>
  cond (g_cnd .le v6 0)
  (some ((), F, A2, J))
  ((m_ld (A2 48) 100 ((6 + (6 * x1)) + v4)).bind fun v8 =>
  (m_st A2 48 100 ((6 + (6 * x1)) + v4) (v8 - 1)).bind fun A9 =>
  some ((), F, A9, J)))
theorem t_d_does {x1 : Int32} {x2 : Int32} {r : Unit} {F' : Nat → Int32} {A' : Nat → Nat → Int32} {J' : Nat → Nat → Int64} : d_does F A J x1 x2 = some (r, F', A', J') → k_run t lg (d + 1) 195 0 [(0, .ref 40960), (1, .int x1), (2, .int x2)] [] (m_h c B F A J) (none, m_h c B F' A' J') := by
  intro hD
  unfold d_does at hD
  refine k_runB (pc' := 14) (loc' := [(0, .ref 40960), (1, .int x1), (2, .int x2)]) (st' := [.int ((6 + (6 * x1)) + x2), .ref 41008, .int ((6 + (6 * x1)) + x2), .ref 41008]) 10 rfl ?_
  obtain ⟨v1, hv1, hD⟩ := Option.bind_eq_some_iff.mp hD
  refine k_ldI rfl rfl hv1 ?_
  refine k_runB (pc' := 17) (loc' := [(0, .ref 40960), (1, .int x1), (2, .int x2)]) (st' := [.int (v1 + 1), .int ((6 + (6 * x1)) + x2), .ref 41008]) 2 rfl ?_
  obtain ⟨A2, hA2, hD⟩ := Option.bind_eq_some_iff.mp hD
  refine k_stI 48 rfl rfl (fun _ => rfl) hA2 ?_
  refine k_runB (pc' := 25) (loc' := [(0, .ref 40960), (1, .int x1), (2, .int x2)]) (st' := [.int x2, .int x1, .ref 40960, .ref 40988]) 5 rfl ?_
  obtain ⟨v3, hv3, hD⟩ := Option.bind_eq_some_iff.mp hD
  refine k_runC rfl rfl rfl rfl (t_d_stepAt (d := d) hv3) ?_
  obtain ⟨v4, hv4, hD⟩ := Option.bind_eq_some_iff.mp hD
  refine k_ldI rfl rfl hv4 ?_
  refine k_runB (pc' := 31) (loc' := [(0, .ref 40960), (1, .int x1), (2, .int x2), (3, .int v4)]) (st' := [.int v4]) 2 rfl ?_
  refine k_if rfl (fun c31_4 => ?_) (fun c31_4 => ?_)
  · rw [c31_4, cond_true] at hD
    cases hD
    exact k_vret rfl rfl
  · rw [c31_4, cond_false] at hD
    refine k_runB (pc' := 47) (loc' := [(0, .ref 40960), (1, .int x1), (2, .int x2), (3, .int v4)]) (st' := [.int ((6 + (6 * x1)) + v4), .ref 41008]) 9 rfl ?_
    obtain ⟨v6, hv6, hD⟩ := Option.bind_eq_some_iff.mp hD
    refine k_ldI rfl rfl hv6 ?_
    refine k_if rfl (fun c48_6 => ?_) (fun c48_6 => ?_)
    · rw [c48_6, cond_true] at hD
      cases hD
      exact k_vret rfl rfl
    · rw [c48_6, cond_false] at hD
      refine k_runB (pc' := 65) (loc' := [(0, .ref 40960), (1, .int x1), (2, .int x2), (3, .int v4)]) (st' := [.int ((6 + (6 * x1)) + v4), .ref 41008, .int ((6 + (6 * x1)) + v4), .ref 41008]) 10 rfl ?_
      obtain ⟨v8, hv8, hD⟩ := Option.bind_eq_some_iff.mp hD
      refine k_ldI rfl rfl hv8 ?_
      refine k_runB (pc' := 68) (loc' := [(0, .ref 40960), (1, .int x1), (2, .int x2), (3, .int v4)]) (st' := [.int (v8 - 1), .int ((6 + (6 * x1)) + v4), .ref 41008]) 2 rfl ?_
      obtain ⟨A9, hA9, hD⟩ := Option.bind_eq_some_iff.mp hD
      refine k_stI 48 rfl rfl (fun _ => rfl) hA9 ?_
      cases hD
      exact k_vret rfl rfl
/-- SleepWorkModel.isOver(I)V -/
def d_isOver (F : Nat → Int32) (A : Nat → Nat → Int32) (J : Nat → Nat → Int64) (x1 : Int32) : Option (Unit × (Nat → Int32) × (Nat → Nat → Int32) × (Nat → Nat → Int64)) :=
  (m_ld (A 48) 100 (42 + x1)).bind fun v1 =>
  (m_ld (A 53) 6 x1).bind fun v2 =>
  (d_does F A J v1 v2).bind fun (_, F4, A5, J6) =>
  (m_st A5 50 6 x1 1).bind fun A7 =>
  (m_ld (A7 53) 6 x1).bind fun v8 =>
  (m_st A7 54 6 x1 v8).bind fun A9 =>
  (m_ld (A9 55) 6 x1).bind fun v10 =>
  (m_st A9 55 6 x1 (v10 + 1)).bind fun A11 =>
  some ((), F4, A11, J6)
theorem t_d_isOver {x1 : Int32} {r : Unit} {F' : Nat → Int32} {A' : Nat → Nat → Int32} {J' : Nat → Nat → Int64} : d_isOver F A J x1 = some (r, F', A', J') → k_run t lg (d + 2) 196 0 [(0, .ref 40960), (1, .int x1)] [] (m_h c B F A J) (none, m_h c B F' A' J') := by
  intro hD
  unfold d_isOver at hD
  refine k_runB (pc' := 9) (loc' := [(0, .ref 40960), (1, .int x1)]) (st' := [.int (42 + x1), .ref 41008, .ref 40960]) 6 rfl ?_
  obtain ⟨v1, hv1, hD⟩ := Option.bind_eq_some_iff.mp hD
  refine k_ldI rfl rfl hv1 ?_
  refine k_runB (pc' := 15) (loc' := [(0, .ref 40960), (1, .int x1)]) (st' := [.int x1, .ref 41013, .int v1, .ref 40960]) 3 rfl ?_
  obtain ⟨v2, hv2, hD⟩ := Option.bind_eq_some_iff.mp hD
  refine k_ldI rfl rfl hv2 ?_
  obtain ⟨⟨v3, F4, A5, J6⟩, hv3, hD⟩ := Option.bind_eq_some_iff.mp hD
  dsimp only at hD
  refine k_runC rfl rfl rfl rfl (t_d_does (d := d) hv3) ?_
  refine k_runB (pc' := 25) (loc' := [(0, .ref 40960), (1, .int x1)]) (st' := [.int 1, .int x1, .ref 41010]) 4 rfl ?_
  obtain ⟨A7, hA7, hD⟩ := Option.bind_eq_some_iff.mp hD
  refine k_stI 50 rfl rfl (fun _ => rfl) hA7 ?_
  refine k_runB (pc' := 36) (loc' := [(0, .ref 40960), (1, .int x1)]) (st' := [.int x1, .ref 41013, .int x1, .ref 41014]) 6 rfl ?_
  obtain ⟨v8, hv8, hD⟩ := Option.bind_eq_some_iff.mp hD
  refine k_ldI rfl rfl hv8 ?_
  obtain ⟨A9, hA9, hD⟩ := Option.bind_eq_some_iff.mp hD
  refine k_stI 54 rfl rfl (fun _ => rfl) hA9 ?_
  refine k_runB (pc' := 44) (loc' := [(0, .ref 40960), (1, .int x1)]) (st' := [.int x1, .ref 41015, .int x1, .ref 41015]) 4 rfl ?_
  obtain ⟨v10, hv10, hD⟩ := Option.bind_eq_some_iff.mp hD
  refine k_ldI rfl rfl hv10 ?_
  refine k_runB (pc' := 47) (loc' := [(0, .ref 40960), (1, .int x1)]) (st' := [.int (v10 + 1), .int x1, .ref 41015]) 2 rfl ?_
  obtain ⟨A11, hA11, hD⟩ := Option.bind_eq_some_iff.mp hD
  refine k_stI 55 rfl rfl (fun _ => rfl) hA11 ?_
  cases hD
  exact k_vret rfl rfl
/-- SleepWorkModel.lies(II)V -/
def d_lies (F : Nat → Int32) (A : Nat → Nat → Int32) (J : Nat → Nat → Int64) (x1 : Int32) (x2 : Int32) : Option (Unit × (Nat → Int32) × (Nat → Nat → Int32) × (Nat → Nat → Int64)) :=
  (m_st A 50 6 x1 3).bind fun A1 =>
  (m_st A1 48 100 (66 + x1) x2).bind fun A2 =>
  some ((), F, A2, J)
theorem t_d_lies {x1 : Int32} {x2 : Int32} {r : Unit} {F' : Nat → Int32} {A' : Nat → Nat → Int32} {J' : Nat → Nat → Int64} : d_lies F A J x1 x2 = some (r, F', A', J') → k_run t lg (d) 197 0 [(0, .ref 40960), (1, .int x1), (2, .int x2)] [] (m_h c B F A J) (none, m_h c B F' A' J') := by
  intro hD
  unfold d_lies at hD
  refine k_runB (pc' := 6) (loc' := [(0, .ref 40960), (1, .int x1), (2, .int x2)]) (st' := [.int 3, .int x1, .ref 41010]) 4 rfl ?_
  obtain ⟨A1, hA1, hD⟩ := Option.bind_eq_some_iff.mp hD
  refine k_stI 50 rfl rfl (fun _ => rfl) hA1 ?_
  refine k_runB (pc' := 16) (loc' := [(0, .ref 40960), (1, .int x1), (2, .int x2)]) (st' := [.int x2, .int (66 + x1), .ref 41008]) 6 rfl ?_
  obtain ⟨A2, hA2, hD⟩ := Option.bind_eq_some_iff.mp hD
  refine k_stI 48 rfl rfl (fun _ => rfl) hA2 ?_
  cases hD
  exact k_vret rfl rfl
def d_isInUse_55 (K2 : (Nat → Int32) → (Nat → Nat → Int32) → (Nat → Nat → Int64) → Int32 → Int32 → Int32 → Option Int32) (n : Nat) (F : Nat → Int32) (A : Nat → Nat → Int32) (J : Nat → Nat → Int64) (x1 : Int32) (x2 : Int32) (x3 : Int32) : Option Int32 :=
    K2 F A J x1 x2 (x3 + 1)
theorem t_d_isInUse_55 {n : Nat} {K2 : (Nat → Int32) → (Nat → Nat → Int32) → (Nat → Nat → Int64) → Int32 → Int32 → Int32 → Option Int32} (hK2 : ∀ (F : Nat → Int32) (A : Nat → Nat → Int32) (J : Nat → Nat → Int64) (x1 : Int32) (x2 : Int32) (x3 : Int32) (w : Int32), K2 F A J x1 x2 x3 = some w → k_run t lg (d + 1) 198 2 [(0, .ref 40960), (1, .int x1), (2, .int x2), (3, .int x3)] [] (m_h c B F A J) (some (.int w), m_h c B F A J)) {F : Nat → Int32} {A : Nat → Nat → Int32} {J : Nat → Nat → Int64} {x1 : Int32} {x2 : Int32} {x3 : Int32} {w : Int32} : d_isInUse_55 K2 n F A J x1 x2 x3 = some w → k_run t lg (d + 1) 198 55 [(0, .ref 40960), (1, .int x1), (2, .int x2), (3, .int x3)] [] (m_h c B F A J) (some (.int w), m_h c B F A J) := by
  intro hD
  unfold d_isInUse_55 at hD
  refine k_runB (pc' := 2) (loc' := [(0, .ref 40960), (1, .int x1), (2, .int x2), (3, .int (x3 + 1))]) (st' := []) 2 rfl ?_
  refine k_wk [0, 1, 2, 3] (loc' := [(0, .ref 40960), (1, .int x1), (2, .int x2), (3, .int (x3 + 1))]) rfl rfl ?_
  exact hK2 _ _ _ _ _ _ _ hD
def d_isInUse_2 : Nat → (Nat → Int32) → (Nat → Nat → Int32) → (Nat → Nat → Int64) → Int32 → Int32 → Int32 → Option Int32
  | 0, _, _, _, _, _, _ => none
  | n + 1, F, A, J, x1, x2, x3 => (d_menNow F A J).bind fun v1 =>
    cond (g_cnd .ge x3 v1)
    (some (0))
    (cond (g_cnd .eq x3 x2)
    (d_isInUse_55 (d_isInUse_2 n) n F A J x1 x2 x3)
    ((m_ld (A 50) 6 x3).bind fun v4 =>
    cond (g_cnd .ne v4 2)
    (d_isInUse_55 (d_isInUse_2 n) n F A J x1 x2 x3)
    ((m_ld (A 48) 100 (42 + x3)).bind fun v6 =>
    (m_ld (A 53) 6 x3).bind fun v7 =>
    (d_stepAt F A J v6 v7).bind fun v8 =>
    (m_ld (A 27) 72 v8).bind fun v9 =>
    cond (g_cnd .ne v9 x1)
    (d_isInUse_55 (d_isInUse_2 n) n F A J x1 x2 x3)
    (some (1)))))
theorem t_d_isInUse_2 {n : Nat}  {F : Nat → Int32} {A : Nat → Nat → Int32} {J : Nat → Nat → Int64} {x1 : Int32} {x2 : Int32} {x3 : Int32} {w : Int32} : d_isInUse_2 n F A J x1 x2 x3 = some w → k_run t lg (d + 1) 198 2 [(0, .ref 40960), (1, .int x1), (2, .int x2), (3, .int x3)] [] (m_h c B F A J) (some (.int w), m_h c B F A J) := by
  induction n generalizing F A J x1 x2 x3 w with
  | zero => intro hD; cases hD
  | succ n ih =>
    intro hD
    have hK2 : ∀ (F : Nat → Int32) (A : Nat → Nat → Int32) (J : Nat → Nat → Int64) (x1 : Int32) (x2 : Int32) (x3 : Int32) (w : Int32), d_isInUse_2 n F A J x1 x2 x3 = some w → k_run t lg (d + 1) 198 2 [(0, .ref 40960), (1, .int x1), (2, .int x2), (3, .int x3)] [] (m_h c B F A J) (some (.int w), m_h c B F A J) := fun _ _ _ _ _ _ _ h => ih h
    unfold d_isInUse_2 at hD
    refine k_runB (pc' := 4) (loc' := [(0, .ref 40960), (1, .int x1), (2, .int x2), (3, .int x3)]) (st' := [.ref 40960, .int x3]) 2 rfl ?_
    obtain ⟨v1, hv1, hD⟩ := Option.bind_eq_some_iff.mp hD
    refine k_runC rfl rfl rfl rfl (t_d_menNow (d := d) hv1) ?_
    refine k_ic rfl (fun c7_1 => ?_) (fun c7_1 => ?_)
    · rw [c7_1, cond_true] at hD
      refine k_runB (pc' := 62) (loc' := [(0, .ref 40960), (1, .int x1), (2, .int x2), (3, .int x3)]) (st' := [.int 0]) 1 rfl ?_
      cases hD
      exact k_zret rfl rfl (Or.inl rfl)
    · rw [c7_1, cond_false] at hD
      refine k_runB (pc' := 12) (loc' := [(0, .ref 40960), (1, .int x1), (2, .int x2), (3, .int x3)]) (st' := [.int x2, .int x3]) 2 rfl ?_
      refine k_ic rfl (fun c12_2 => ?_) (fun c12_2 => ?_)
      · rw [c12_2, cond_true] at hD
        refine k_wk [0, 1, 2, 3] (loc' := [(0, .ref 40960), (1, .int x1), (2, .int x2), (3, .int x3)]) rfl rfl ?_
        exact t_d_isInUse_55 hK2 hD
      · rw [c12_2, cond_false] at hD
        refine k_runB (pc' := 20) (loc' := [(0, .ref 40960), (1, .int x1), (2, .int x2), (3, .int x3)]) (st' := [.int x3, .ref 41010]) 3 rfl ?_
        obtain ⟨v4, hv4, hD⟩ := Option.bind_eq_some_iff.mp hD
        refine k_ldI rfl rfl hv4 ?_
        refine k_runB (pc' := 22) (loc' := [(0, .ref 40960), (1, .int x1), (2, .int x2), (3, .int x3)]) (st' := [.int 2, .int v4]) 1 rfl ?_
        refine k_ic rfl (fun c22_4 => ?_) (fun c22_4 => ?_)
        · rw [c22_4, cond_true] at hD
          refine k_wk [0, 1, 2, 3] (loc' := [(0, .ref 40960), (1, .int x1), (2, .int x2), (3, .int x3)]) rfl rfl ?_
          exact t_d_isInUse_55 hK2 hD
        · rw [c22_4, cond_false] at hD
          refine k_runB (pc' := 38) (loc' := [(0, .ref 40960), (1, .int x1), (2, .int x2), (3, .int x3)]) (st' := [.int (42 + x3), .ref 41008, .ref 40960, .ref 40987]) 8 rfl ?_
          obtain ⟨v6, hv6, hD⟩ := Option.bind_eq_some_iff.mp hD
          refine k_ldI rfl rfl hv6 ?_
          refine k_runB (pc' := 44) (loc' := [(0, .ref 40960), (1, .int x1), (2, .int x2), (3, .int x3)]) (st' := [.int x3, .ref 41013, .int v6, .ref 40960, .ref 40987]) 3 rfl ?_
          obtain ⟨v7, hv7, hD⟩ := Option.bind_eq_some_iff.mp hD
          refine k_ldI rfl rfl hv7 ?_
          obtain ⟨v8, hv8, hD⟩ := Option.bind_eq_some_iff.mp hD
          refine k_runC rfl rfl rfl rfl (t_d_stepAt (d := d) hv8) ?_
          obtain ⟨v9, hv9, hD⟩ := Option.bind_eq_some_iff.mp hD
          refine k_ldI rfl rfl hv9 ?_
          refine k_runB (pc' := 50) (loc' := [(0, .ref 40960), (1, .int x1), (2, .int x2), (3, .int x3)]) (st' := [.int x1, .int v9]) 1 rfl ?_
          refine k_ic rfl (fun c50_9 => ?_) (fun c50_9 => ?_)
          · rw [c50_9, cond_true] at hD
            refine k_wk [0, 1, 2, 3] (loc' := [(0, .ref 40960), (1, .int x1), (2, .int x2), (3, .int x3)]) rfl rfl ?_
            exact t_d_isInUse_55 hK2 hD
          · rw [c50_9, cond_false] at hD
            refine k_runB (pc' := 54) (loc' := [(0, .ref 40960), (1, .int x1), (2, .int x2), (3, .int x3)]) (st' := [.int 1]) 1 rfl ?_
            cases hD
            exact k_zret rfl rfl (Or.inr rfl)
/-- SleepWorkModel.isInUse(II)Z -/
def d_isInUse (n : Nat) (F : Nat → Int32) (A : Nat → Nat → Int32) (J : Nat → Nat → Int64) (x1 : Int32) (x2 : Int32) : Option Int32 :=
  d_isInUse_2 n F A J x1 x2 0
theorem t_d_isInUse {n : Nat} {x1 : Int32} {x2 : Int32} {r : Int32} : d_isInUse n F A J x1 x2 = some r → k_run t lg (d + 1) 198 0 [(0, .ref 40960), (1, .int x1), (2, .int x2)] [] (m_h c B F A J) (some (.int r), m_h c B F A J) := by
  intro hD
  unfold d_isInUse at hD
  refine k_runB (pc' := 2) (loc' := [(0, .ref 40960), (1, .int x1), (2, .int x2), (3, .int 0)]) (st' := []) 2 rfl ?_
  refine k_wk [0, 1, 2, 3] (loc' := [(0, .ref 40960), (1, .int x1), (2, .int x2), (3, .int 0)]) rfl rfl ?_
  exact t_d_isInUse_2  hD
def d_begins1_147 (n : Nat) (F : Nat → Int32) (A : Nat → Nat → Int32) (J : Nat → Nat → Int64) (x1 : Int32) (x2 : Int32) (x3 : Int32) (x4 : Int32) : Option (Unit × (Nat → Int32) × (Nat → Nat → Int32) × (Nat → Nat → Int64)) :=
    (m_ld (A 48) 100 x3).bind fun v31 =>
    (m_st A 48 100 x3 (v31 - 1)).bind fun A32 =>
    (m_st A32 53 6 x1 x4).bind fun A33 =>
    (m_st A33 50 6 x1 2).bind fun A34 =>
    (d_stepAt F A34 J x3 x4).bind fun v35 =>
    (m_ld (A34 23) 72 v35).bind fun v36 =>
    (m_st A34 52 6 x1 (x2 + v36)).bind fun A37 =>
    some ((), F, A37, J)
theorem t_d_begins1_147 (ht : ∀ k, t.1 12 k = k_ty 12 k) {n : Nat}  {F : Nat → Int32} {A : Nat → Nat → Int32} {J : Nat → Nat → Int64} {x1 : Int32} {x2 : Int32} {x3 : Int32} {x4 : Int32} {w : Unit × (Nat → Int32) × (Nat → Nat → Int32) × (Nat → Nat → Int64)} : d_begins1_147 n F A J x1 x2 x3 x4 = some w → k_run t lg (d + 2) 199 147 [(0, .ref 40960), (1, .int x1), (2, .int x2), (3, .int x3), (4, .int x4)] [] (m_h c B F A J) (none, m_h c B w.2.1 w.2.2.1 w.2.2.2) := by
  intro hD
  unfold d_begins1_147 at hD
  refine k_runB (pc' := 153) (loc' := [(0, .ref 40960), (1, .int x1), (2, .int x2), (3, .int x3), (4, .int x4)]) (st' := [.int x3, .ref 41008, .int x3, .ref 41008]) 4 rfl ?_
  obtain ⟨v31, hv31, hD⟩ := Option.bind_eq_some_iff.mp hD
  refine k_ldI rfl rfl hv31 ?_
  refine k_runB (pc' := 156) (loc' := [(0, .ref 40960), (1, .int x1), (2, .int x2), (3, .int x3), (4, .int x4)]) (st' := [.int (v31 - 1), .int x3, .ref 41008]) 2 rfl ?_
  obtain ⟨A32, hA32, hD⟩ := Option.bind_eq_some_iff.mp hD
  refine k_stI 48 rfl rfl (fun _ => rfl) hA32 ?_
  refine k_runB (pc' := 164) (loc' := [(0, .ref 40960), (1, .int x1), (2, .int x2), (3, .int x3), (4, .int x4)]) (st' := [.int x4, .int x1, .ref 41013]) 4 rfl ?_
  obtain ⟨A33, hA33, hD⟩ := Option.bind_eq_some_iff.mp hD
  refine k_stI 53 rfl rfl (fun _ => rfl) hA33 ?_
  refine k_runB (pc' := 171) (loc' := [(0, .ref 40960), (1, .int x1), (2, .int x2), (3, .int x3), (4, .int x4)]) (st' := [.int 2, .int x1, .ref 41010]) 4 rfl ?_
  obtain ⟨A34, hA34, hD⟩ := Option.bind_eq_some_iff.mp hD
  refine k_stI 50 rfl rfl (fun _ => rfl) hA34 ?_
  refine k_runB (pc' := 186) (loc' := [(0, .ref 40960), (1, .int x1), (2, .int x2), (3, .int x3), (4, .int x4)]) (st' := [.int x4, .int x3, .ref 40960, .ref 40983, .int x2, .int x1, .ref 41012]) 9 rfl ?_
  obtain ⟨v35, hv35, hD⟩ := Option.bind_eq_some_iff.mp hD
  refine k_runC rfl rfl rfl rfl (t_d_stepAt (d := d + 1) hv35) ?_
  obtain ⟨v36, hv36, hD⟩ := Option.bind_eq_some_iff.mp hD
  refine k_ldI rfl rfl hv36 ?_
  refine k_runB (pc' := 191) (loc' := [(0, .ref 40960), (1, .int x1), (2, .int x2), (3, .int x3), (4, .int x4)]) (st' := [.int (x2 + v36), .int x1, .ref 41012]) 1 rfl ?_
  obtain ⟨A37, hA37, hD⟩ := Option.bind_eq_some_iff.mp hD
  refine k_stI 52 rfl rfl (fun _ => rfl) hA37 ?_
  cases hD
  exact k_vret rfl rfl
def d_begins1_131 (n : Nat) (F : Nat → Int32) (A : Nat → Nat → Int32) (J : Nat → Nat → Int64) (x1 : Int32) (x2 : Int32) (x3 : Int32) (x4 : Int32) (x5 : Int32) (x6 : Int32) : Option (Unit × (Nat → Int32) × (Nat → Nat → Int32) × (Nat → Nat → Int64)) :=
    cond (g_cnd .ne x6 0)
    (d_begins1_147 n F A J x1 x2 x3 x4)
    ((d_isInUse n F A J x5 x1).bind fun v29 =>
    cond (g_cnd .eq v29 0)
    (d_begins1_147 n F A J x1 x2 x3 x4)
    (some ((), F, A, J)))
theorem t_d_begins1_131 (ht : ∀ k, t.1 12 k = k_ty 12 k) {n : Nat}  {F : Nat → Int32} {A : Nat → Nat → Int32} {J : Nat → Nat → Int64} {x1 : Int32} {x2 : Int32} {x3 : Int32} {x4 : Int32} {x5 : Int32} {x6 : Int32} {w : Unit × (Nat → Int32) × (Nat → Nat → Int32) × (Nat → Nat → Int64)} : d_begins1_131 n F A J x1 x2 x3 x4 x5 x6 = some w → k_run t lg (d + 2) 199 131 [(0, .ref 40960), (1, .int x1), (2, .int x2), (3, .int x3), (4, .int x4), (5, .int x5), (6, .int x6)] [] (m_h c B F A J) (none, m_h c B w.2.1 w.2.2.1 w.2.2.2) := by
  intro hD
  unfold d_begins1_131 at hD
  refine k_runB (pc' := 133) (loc' := [(0, .ref 40960), (1, .int x1), (2, .int x2), (3, .int x3), (4, .int x4), (5, .int x5), (6, .int x6)]) (st' := [.int x6]) 1 rfl ?_
  refine k_if rfl (fun c133_27 => ?_) (fun c133_27 => ?_)
  · rw [c133_27, cond_true] at hD
    refine k_wk [0, 1, 2, 3, 4] (loc' := [(0, .ref 40960), (1, .int x1), (2, .int x2), (3, .int x3), (4, .int x4)]) rfl rfl ?_
    exact t_d_begins1_147 ht  hD
  · rw [c133_27, cond_false] at hD
    refine k_runB (pc' := 140) (loc' := [(0, .ref 40960), (1, .int x1), (2, .int x2), (3, .int x3), (4, .int x4), (5, .int x5), (6, .int x6)]) (st' := [.int x1, .int x5, .ref 40960]) 3 rfl ?_
    obtain ⟨v29, hv29, hD⟩ := Option.bind_eq_some_iff.mp hD
    refine k_runC rfl rfl rfl rfl (t_d_isInUse (d := d) hv29) ?_
    refine k_if rfl (fun c143_29 => ?_) (fun c143_29 => ?_)
    · rw [c143_29, cond_true] at hD
      refine k_wk [0, 1, 2, 3, 4] (loc' := [(0, .ref 40960), (1, .int x1), (2, .int x2), (3, .int x3), (4, .int x4)]) rfl rfl ?_
      exact t_d_begins1_147 ht  hD
    · rw [c143_29, cond_false] at hD
      cases hD
      exact k_vret rfl rfl
def d_begins1_124 (n : Nat) (F : Nat → Int32) (A : Nat → Nat → Int32) (J : Nat → Nat → Int64) (x1 : Int32) (x2 : Int32) : Option (Unit × (Nat → Int32) × (Nat → Nat → Int32) × (Nat → Nat → Int64)) :=
    (d_lies F A J x1 x2).bind fun (_, F25, A26, J27) =>
    some ((), F25, A26, J27)
theorem t_d_begins1_124 (ht : ∀ k, t.1 12 k = k_ty 12 k) {n : Nat}  {F : Nat → Int32} {A : Nat → Nat → Int32} {J : Nat → Nat → Int64} {x1 : Int32} {x2 : Int32} {w : Unit × (Nat → Int32) × (Nat → Nat → Int32) × (Nat → Nat → Int64)} : d_begins1_124 n F A J x1 x2 = some w → k_run t lg (d + 2) 199 124 [(0, .ref 40960), (1, .int x1), (2, .int x2)] [] (m_h c B F A J) (none, m_h c B w.2.1 w.2.2.1 w.2.2.2) := by
  intro hD
  unfold d_begins1_124 at hD
  refine k_runB (pc' := 127) (loc' := [(0, .ref 40960), (1, .int x1), (2, .int x2)]) (st' := [.int x2, .int x1, .ref 40960]) 3 rfl ?_
  obtain ⟨⟨v24, F25, A26, J27⟩, hv24, hD⟩ := Option.bind_eq_some_iff.mp hD
  dsimp only at hD
  refine k_runC rfl rfl rfl rfl (t_d_lies (d := d + 1) hv24) ?_
  cases hD
  exact k_vret rfl rfl
def d_begins1_81 (n : Nat) (F : Nat → Int32) (A : Nat → Nat → Int32) (J : Nat → Nat → Int64) (x1 : Int32) (x2 : Int32) (x3 : Int32) (x4 : Int32) (x5 : Int32) (s0 : Int32) : Option (Unit × (Nat → Int32) × (Nat → Nat → Int32) × (Nat → Nat → Int64)) :=
    (m_ld (A 48) 100 x3).bind fun v18 =>
    cond (g_cnd .eq v18 0)
    (d_begins1_124 n F A J x1 x2)
    (cond (g_cnd .ne s0 0)
    (d_begins1_131 n F A J x1 x2 x3 x4 x5 s0)
    ((m_ld (A 48) 100 (72 + x5)).bind fun v21 =>
    (m_ld (A 20) 12 ((6 * (F 18)) + x3)).bind fun v22 =>
    cond (g_cnd .eq v21 v22)
    (d_begins1_131 n F A J x1 x2 x3 x4 x5 s0)
    (d_begins1_124 n F A J x1 x2)))
theorem t_d_begins1_81 (ht : ∀ k, t.1 12 k = k_ty 12 k) {n : Nat}  {F : Nat → Int32} {A : Nat → Nat → Int32} {J : Nat → Nat → Int64} {x1 : Int32} {x2 : Int32} {x3 : Int32} {x4 : Int32} {x5 : Int32} {s0 : Int32} {w : Unit × (Nat → Int32) × (Nat → Nat → Int32) × (Nat → Nat → Int64)} : d_begins1_81 n F A J x1 x2 x3 x4 x5 s0 = some w → k_run t lg (d + 2) 199 81 [(0, .ref 40960), (1, .int x1), (2, .int x2), (3, .int x3), (4, .int x4), (5, .int x5)] [.int s0] (m_h c B F A J) (none, m_h c B w.2.1 w.2.2.1 w.2.2.2) := by
  intro hD
  unfold d_begins1_81 at hD
  refine k_runB (pc' := 88) (loc' := [(0, .ref 40960), (1, .int x1), (2, .int x2), (3, .int x3), (4, .int x4), (5, .int x5), (6, .int s0)]) (st' := [.int x3, .ref 41008]) 4 rfl ?_
  obtain ⟨v18, hv18, hD⟩ := Option.bind_eq_some_iff.mp hD
  refine k_ldI rfl rfl hv18 ?_
  refine k_if rfl (fun c89_18 => ?_) (fun c89_18 => ?_)
  · rw [c89_18, cond_true] at hD
    refine k_wk [0, 1, 2] (loc' := [(0, .ref 40960), (1, .int x1), (2, .int x2)]) rfl rfl ?_
    exact t_d_begins1_124 ht  hD
  · rw [c89_18, cond_false] at hD
    refine k_runB (pc' := 94) (loc' := [(0, .ref 40960), (1, .int x1), (2, .int x2), (3, .int x3), (4, .int x4), (5, .int x5), (6, .int s0)]) (st' := [.int s0]) 1 rfl ?_
    refine k_if rfl (fun c94_19 => ?_) (fun c94_19 => ?_)
    · rw [c94_19, cond_true] at hD
      refine k_wk [0, 1, 2, 3, 4, 5, 6] (loc' := [(0, .ref 40960), (1, .int x1), (2, .int x2), (3, .int x3), (4, .int x4), (5, .int x5), (6, .int s0)]) rfl rfl ?_
      exact t_d_begins1_131 ht  hD
    · rw [c94_19, cond_false] at hD
      refine k_runB (pc' := 106) (loc' := [(0, .ref 40960), (1, .int x1), (2, .int x2), (3, .int x3), (4, .int x4), (5, .int x5), (6, .int s0)]) (st' := [.int (72 + x5), .ref 41008]) 5 rfl ?_
      obtain ⟨v21, hv21, hD⟩ := Option.bind_eq_some_iff.mp hD
      refine k_ldI rfl rfl hv21 ?_
      refine k_runB (pc' := 120) (loc' := [(0, .ref 40960), (1, .int x1), (2, .int x2), (3, .int x3), (4, .int x4), (5, .int x5), (6, .int s0)]) (st' := [.int ((6 * (F 18)) + x3), .ref 40980, .int v21]) 8 rfl ?_
      obtain ⟨v22, hv22, hD⟩ := Option.bind_eq_some_iff.mp hD
      refine k_ldI rfl rfl hv22 ?_
      refine k_ic rfl (fun c121_22 => ?_) (fun c121_22 => ?_)
      · rw [c121_22, cond_true] at hD
        refine k_wk [0, 1, 2, 3, 4, 5, 6] (loc' := [(0, .ref 40960), (1, .int x1), (2, .int x2), (3, .int x3), (4, .int x4), (5, .int x5), (6, .int s0)]) rfl rfl ?_
        exact t_d_begins1_131 ht  hD
      · rw [c121_22, cond_false] at hD
        refine k_wk [0, 1, 2] (loc' := [(0, .ref 40960), (1, .int x1), (2, .int x2)]) rfl rfl ?_
        exact t_d_begins1_124 ht  hD
def d_begins1_76 (n : Nat) (F : Nat → Int32) (A : Nat → Nat → Int32) (J : Nat → Nat → Int64) (x1 : Int32) (x2 : Int32) (x3 : Int32) (x4 : Int32) (x5 : Int32) : Option (Unit × (Nat → Int32) × (Nat → Nat → Int32) × (Nat → Nat → Int64)) :=
    d_begins1_81 n F A J x1 x2 x3 x4 x5 1
theorem t_d_begins1_76 (ht : ∀ k, t.1 12 k = k_ty 12 k) {n : Nat}  {F : Nat → Int32} {A : Nat → Nat → Int32} {J : Nat → Nat → Int64} {x1 : Int32} {x2 : Int32} {x3 : Int32} {x4 : Int32} {x5 : Int32} {w : Unit × (Nat → Int32) × (Nat → Nat → Int32) × (Nat → Nat → Int64)} : d_begins1_76 n F A J x1 x2 x3 x4 x5 = some w → k_run t lg (d + 2) 199 76 [(0, .ref 40960), (1, .int x1), (2, .int x2), (3, .int x3), (4, .int x4), (5, .int x5)] [] (m_h c B F A J) (none, m_h c B w.2.1 w.2.2.1 w.2.2.2) := by
  intro hD
  unfold d_begins1_76 at hD
  refine k_runB (pc' := 81) (loc' := [(0, .ref 40960), (1, .int x1), (2, .int x2), (3, .int x3), (4, .int x4), (5, .int x5)]) (st' := [.int 1]) 2 rfl ?_
  refine k_wk [0, 1, 2, 3, 4, 5] (loc' := [(0, .ref 40960), (1, .int x1), (2, .int x2), (3, .int x3), (4, .int x4), (5, .int x5)]) rfl rfl ?_
  exact t_d_begins1_81 ht  hD
/-- SleepWorkModel.begins1(II)V -/
def d_begins1 (n : Nat) (F : Nat → Int32) (A : Nat → Nat → Int32) (J : Nat → Nat → Int64) (x1 : Int32) (x2 : Int32) : Option (Unit × (Nat → Int32) × (Nat → Nat → Int32) × (Nat → Nat → Int64)) :=
  (m_ld (A 48) 100 (42 + x1)).bind fun v1 =>
  (d_isEnded n F A J v1).bind fun v2 =>
  cond (g_cnd .eq v2 0)
  ((d_tells n F A J x1 x2).bind fun (v4, F5, A6, J7) =>
  (d_stepAt F5 A6 J7 v1 v4).bind fun v8 =>
  (m_ld (A6 27) 72 v8).bind fun v9 =>
  cond (g_cnd .lt v9 0)
  (d_begins1_76 n F5 A6 J7 x1 x2 v1 v4 v9)
  ((m_ld (A6 48) 100 (72 + v9)).bind fun v11 =>
  cond (g_cnd .ne v11 (100 + x1))
  (d_begins1_81 n F5 A6 J7 x1 x2 v1 v4 v9 0)
  (d_begins1_76 n F5 A6 J7 x1 x2 v1 v4 v9)))
  ((m_st A 56 6 x1 (vp_nar .boolean 1)).bind fun A13 =>
  (d_lies F A13 J x1 x2).bind fun (_, F15, A16, J17) =>
  some ((), F15, A16, J17))
theorem t_d_begins1 (ht : ∀ k, t.1 12 k = k_ty 12 k) {n : Nat} {x1 : Int32} {x2 : Int32} {r : Unit} {F' : Nat → Int32} {A' : Nat → Nat → Int32} {J' : Nat → Nat → Int64} : d_begins1 n F A J x1 x2 = some (r, F', A', J') → k_run t lg (d + 2) 199 0 [(0, .ref 40960), (1, .int x1), (2, .int x2)] [] (m_h c B F A J) (none, m_h c B F' A' J') := by
  intro hD
  unfold d_begins1 at hD
  refine k_runB (pc' := 8) (loc' := [(0, .ref 40960), (1, .int x1), (2, .int x2)]) (st' := [.int (42 + x1), .ref 41008]) 5 rfl ?_
  obtain ⟨v1, hv1, hD⟩ := Option.bind_eq_some_iff.mp hD
  refine k_ldI rfl rfl hv1 ?_
  refine k_runB (pc' := 12) (loc' := [(0, .ref 40960), (1, .int x1), (2, .int x2), (3, .int v1)]) (st' := [.int v1, .ref 40960]) 3 rfl ?_
  obtain ⟨v2, hv2, hD⟩ := Option.bind_eq_some_iff.mp hD
  refine k_runC rfl rfl rfl rfl (t_d_isEnded (d := d) hv2) ?_
  refine k_if rfl (fun c15_2 => ?_) (fun c15_2 => ?_)
  · rw [c15_2, cond_true] at hD
    refine k_runB (pc' := 35) (loc' := [(0, .ref 40960), (1, .int x1), (2, .int x2), (3, .int v1)]) (st' := [.int x2, .int x1, .ref 40960]) 3 rfl ?_
    obtain ⟨⟨v4, F5, A6, J7⟩, hv4, hD⟩ := Option.bind_eq_some_iff.mp hD
    dsimp only at hD
    refine k_runC rfl rfl rfl rfl (t_d_tells (d := d) ht hv4) ?_
    refine k_runB (pc' := 48) (loc' := [(0, .ref 40960), (1, .int x1), (2, .int x2), (3, .int v1), (4, .int v4)]) (st' := [.int v4, .int v1, .ref 40960, .ref 40987]) 6 rfl ?_
    obtain ⟨v8, hv8, hD⟩ := Option.bind_eq_some_iff.mp hD
    refine k_runC rfl rfl rfl rfl (t_d_stepAt (d := d + 1) hv8) ?_
    obtain ⟨v9, hv9, hD⟩ := Option.bind_eq_some_iff.mp hD
    refine k_ldI rfl rfl hv9 ?_
    refine k_runB (pc' := 56) (loc' := [(0, .ref 40960), (1, .int x1), (2, .int x2), (3, .int v1), (4, .int v4), (5, .int v9)]) (st' := [.int v9]) 2 rfl ?_
    refine k_if rfl (fun c56_9 => ?_) (fun c56_9 => ?_)
    · rw [c56_9, cond_true] at hD
      refine k_wk [0, 1, 2, 3, 4, 5] (loc' := [(0, .ref 40960), (1, .int x1), (2, .int x2), (3, .int v1), (4, .int v4), (5, .int v9)]) rfl rfl ?_
      exact t_d_begins1_76 ht  hD
    · rw [c56_9, cond_false] at hD
      refine k_runB (pc' := 68) (loc' := [(0, .ref 40960), (1, .int x1), (2, .int x2), (3, .int v1), (4, .int v4), (5, .int v9)]) (st' := [.int (72 + v9), .ref 41008]) 5 rfl ?_
      obtain ⟨v11, hv11, hD⟩ := Option.bind_eq_some_iff.mp hD
      refine k_ldI rfl rfl hv11 ?_
      refine k_runB (pc' := 73) (loc' := [(0, .ref 40960), (1, .int x1), (2, .int x2), (3, .int v1), (4, .int v4), (5, .int v9)]) (st' := [.int (100 + x1), .int v11]) 3 rfl ?_
      refine k_ic rfl (fun c73_11 => ?_) (fun c73_11 => ?_)
      · rw [c73_11, cond_true] at hD
        refine k_runB (pc' := 81) (loc' := [(0, .ref 40960), (1, .int x1), (2, .int x2), (3, .int v1), (4, .int v4), (5, .int v9)]) (st' := [.int 0]) 1 rfl ?_
        refine k_wk [0, 1, 2, 3, 4, 5] (loc' := [(0, .ref 40960), (1, .int x1), (2, .int x2), (3, .int v1), (4, .int v4), (5, .int v9)]) rfl rfl ?_
        exact t_d_begins1_81 ht  hD
      · rw [c73_11, cond_false] at hD
        refine k_wk [0, 1, 2, 3, 4, 5] (loc' := [(0, .ref 40960), (1, .int x1), (2, .int x2), (3, .int v1), (4, .int v4), (5, .int v9)]) rfl rfl ?_
        exact t_d_begins1_76 ht  hD
  · rw [c15_2, cond_false] at hD
    refine k_runB (pc' := 24) (loc' := [(0, .ref 40960), (1, .int x1), (2, .int x2), (3, .int v1)]) (st' := [.int 1, .int x1, .ref 41016]) 4 rfl ?_
    obtain ⟨A13, hA13, hD⟩ := Option.bind_eq_some_iff.mp hD
    refine k_stZ 56 rfl rfl (fun _ => rfl) hA13 ?_
    refine k_runB (pc' := 28) (loc' := [(0, .ref 40960), (1, .int x1), (2, .int x2), (3, .int v1)]) (st' := [.int x2, .int x1, .ref 40960]) 3 rfl ?_
    obtain ⟨⟨v14, F15, A16, J17⟩, hv14, hD⟩ := Option.bind_eq_some_iff.mp hD
    dsimp only at hD
    refine k_runC rfl rfl rfl rfl (t_d_lies (d := d + 1) hv14) ?_
    cases hD
    exact k_vret rfl rfl
def d_goesTill_128 (K27 : (Nat → Int32) → (Nat → Nat → Int32) → (Nat → Nat → Int64) → Int32 → Int32 → Option (Unit × (Nat → Int32) × (Nat → Nat → Int32) × (Nat → Nat → Int64))) (n : Nat) (F : Nat → Int32) (A : Nat → Nat → Int32) (J : Nat → Nat → Int64) (x1 : Int32) (x2 : Int32) : Option (Unit × (Nat → Int32) × (Nat → Nat → Int32) × (Nat → Nat → Int64)) :=
    K27 F A J x1 (x2 + 1)
theorem t_d_goesTill_128 (ht : ∀ k, t.1 12 k = k_ty 12 k) {n : Nat} {K27 : (Nat → Int32) → (Nat → Nat → Int32) → (Nat → Nat → Int64) → Int32 → Int32 → Option (Unit × (Nat → Int32) × (Nat → Nat → Int32) × (Nat → Nat → Int64))} (hK27 : ∀ (F : Nat → Int32) (A : Nat → Nat → Int32) (J : Nat → Nat → Int64) (x1 : Int32) (x2 : Int32) (w : Unit × (Nat → Int32) × (Nat → Nat → Int32) × (Nat → Nat → Int64)), K27 F A J x1 x2 = some w → k_run t lg (d + 3) 200 27 [(0, .ref 40960), (1, .int x1), (2, .int x2)] [] (m_h c B F A J) (none, m_h c B w.2.1 w.2.2.1 w.2.2.2)) {F : Nat → Int32} {A : Nat → Nat → Int32} {J : Nat → Nat → Int64} {x1 : Int32} {x2 : Int32} {w : Unit × (Nat → Int32) × (Nat → Nat → Int32) × (Nat → Nat → Int64)} : d_goesTill_128 K27 n F A J x1 x2 = some w → k_run t lg (d + 3) 200 128 [(0, .ref 40960), (1, .int x1), (2, .int x2)] [] (m_h c B F A J) (none, m_h c B w.2.1 w.2.2.1 w.2.2.2) := by
  intro hD
  unfold d_goesTill_128 at hD
  refine k_runB (pc' := 27) (loc' := [(0, .ref 40960), (1, .int x1), (2, .int (x2 + 1))]) (st' := []) 2 rfl ?_
  refine k_wk [0, 1, 2] (loc' := [(0, .ref 40960), (1, .int x1), (2, .int (x2 + 1))]) rfl rfl ?_
  exact hK27 _ _ _ _ _ _ hD
def d_goesTill_122 (K27 : (Nat → Int32) → (Nat → Nat → Int32) → (Nat → Nat → Int64) → Int32 → Int32 → Option (Unit × (Nat → Int32) × (Nat → Nat → Int32) × (Nat → Nat → Int64))) (K75 : (Nat → Int32) → (Nat → Nat → Int32) → (Nat → Nat → Int64) → Int32 → Int32 → Int32 → Option (Unit × (Nat → Int32) × (Nat → Nat → Int32) × (Nat → Nat → Int64))) (n : Nat) (F : Nat → Int32) (A : Nat → Nat → Int32) (J : Nat → Nat → Int64) (x1 : Int32) (x2 : Int32) (x3 : Int32) : Option (Unit × (Nat → Int32) × (Nat → Nat → Int32) × (Nat → Nat → Int64)) :=
    K75 F A J x1 x2 (x3 + 1)
theorem t_d_goesTill_122 (ht : ∀ k, t.1 12 k = k_ty 12 k) {n : Nat} {K27 : (Nat → Int32) → (Nat → Nat → Int32) → (Nat → Nat → Int64) → Int32 → Int32 → Option (Unit × (Nat → Int32) × (Nat → Nat → Int32) × (Nat → Nat → Int64))} {K75 : (Nat → Int32) → (Nat → Nat → Int32) → (Nat → Nat → Int64) → Int32 → Int32 → Int32 → Option (Unit × (Nat → Int32) × (Nat → Nat → Int32) × (Nat → Nat → Int64))} (hK27 : ∀ (F : Nat → Int32) (A : Nat → Nat → Int32) (J : Nat → Nat → Int64) (x1 : Int32) (x2 : Int32) (w : Unit × (Nat → Int32) × (Nat → Nat → Int32) × (Nat → Nat → Int64)), K27 F A J x1 x2 = some w → k_run t lg (d + 3) 200 27 [(0, .ref 40960), (1, .int x1), (2, .int x2)] [] (m_h c B F A J) (none, m_h c B w.2.1 w.2.2.1 w.2.2.2)) (hK75 : ∀ (F : Nat → Int32) (A : Nat → Nat → Int32) (J : Nat → Nat → Int64) (x1 : Int32) (x2 : Int32) (x3 : Int32) (w : Unit × (Nat → Int32) × (Nat → Nat → Int32) × (Nat → Nat → Int64)), K75 F A J x1 x2 x3 = some w → k_run t lg (d + 3) 200 75 [(0, .ref 40960), (1, .int x1), (2, .int x2), (3, .int x3)] [] (m_h c B F A J) (none, m_h c B w.2.1 w.2.2.1 w.2.2.2)) {F : Nat → Int32} {A : Nat → Nat → Int32} {J : Nat → Nat → Int64} {x1 : Int32} {x2 : Int32} {x3 : Int32} {w : Unit × (Nat → Int32) × (Nat → Nat → Int32) × (Nat → Nat → Int64)} : d_goesTill_122 K27 K75 n F A J x1 x2 x3 = some w → k_run t lg (d + 3) 200 122 [(0, .ref 40960), (1, .int x1), (2, .int x2), (3, .int x3)] [] (m_h c B F A J) (none, m_h c B w.2.1 w.2.2.1 w.2.2.2) := by
  intro hD
  unfold d_goesTill_122 at hD
  refine k_runB (pc' := 75) (loc' := [(0, .ref 40960), (1, .int x1), (2, .int x2), (3, .int (x3 + 1))]) (st' := []) 2 rfl ?_
  refine k_wk [0, 1, 2, 3] (loc' := [(0, .ref 40960), (1, .int x1), (2, .int x2), (3, .int (x3 + 1))]) rfl rfl ?_
  exact hK75 _ _ _ _ _ _ _ hD
def d_goesTill_75 (K27 : (Nat → Int32) → (Nat → Nat → Int32) → (Nat → Nat → Int64) → Int32 → Int32 → Option (Unit × (Nat → Int32) × (Nat → Nat → Int32) × (Nat → Nat → Int64))) : Nat → (Nat → Int32) → (Nat → Nat → Int32) → (Nat → Nat → Int64) → Int32 → Int32 → Int32 → Option (Unit × (Nat → Int32) × (Nat → Nat → Int32) × (Nat → Nat → Int64))
  | 0, _, _, _, _, _, _ => none
  | n + 1, F, A, J, x1, x2, x3 => (d_menNow F A J).bind fun v22 =>
    cond (g_cnd .ge x3 v22)
    (d_goesTill_128 K27 n F A J x1 x2)
    ((m_ld (A 41) 2 (F 18)).bind fun v24 =>
    cond (g_cnd .ge x2 v24)
    (d_goesTill_128 K27 n F A J x1 x2)
    ((m_ld (A 50) 6 x3).bind fun v26 =>
    cond (g_cnd .ne v26 1)
    (d_goesTill_122 K27 (d_goesTill_75 K27 n) n F A J x1 x2 x3)
    ((m_ld (A 51) 6 x3).bind fun v28 =>
    cond (g_cnd .gt v28 x2)
    (d_goesTill_122 K27 (d_goesTill_75 K27 n) n F A J x1 x2 x3)
    ((d_begins1 n F A J x3 x2).bind fun (_, F31, A32, J33) =>
    (d_goesTill_75 K27 n) F31 A32 J33 x1 x2 (x3 + 1)))))
theorem t_d_goesTill_75 (ht : ∀ k, t.1 12 k = k_ty 12 k) {n : Nat} {K27 : (Nat → Int32) → (Nat → Nat → Int32) → (Nat → Nat → Int64) → Int32 → Int32 → Option (Unit × (Nat → Int32) × (Nat → Nat → Int32) × (Nat → Nat → Int64))} (hK27 : ∀ (F : Nat → Int32) (A : Nat → Nat → Int32) (J : Nat → Nat → Int64) (x1 : Int32) (x2 : Int32) (w : Unit × (Nat → Int32) × (Nat → Nat → Int32) × (Nat → Nat → Int64)), K27 F A J x1 x2 = some w → k_run t lg (d + 3) 200 27 [(0, .ref 40960), (1, .int x1), (2, .int x2)] [] (m_h c B F A J) (none, m_h c B w.2.1 w.2.2.1 w.2.2.2)) {F : Nat → Int32} {A : Nat → Nat → Int32} {J : Nat → Nat → Int64} {x1 : Int32} {x2 : Int32} {x3 : Int32} {w : Unit × (Nat → Int32) × (Nat → Nat → Int32) × (Nat → Nat → Int64)} : d_goesTill_75 K27 n F A J x1 x2 x3 = some w → k_run t lg (d + 3) 200 75 [(0, .ref 40960), (1, .int x1), (2, .int x2), (3, .int x3)] [] (m_h c B F A J) (none, m_h c B w.2.1 w.2.2.1 w.2.2.2) := by
  induction n generalizing F A J x1 x2 x3 w with
  | zero => intro hD; cases hD
  | succ n ih =>
    intro hD
    have hK75 : ∀ (F : Nat → Int32) (A : Nat → Nat → Int32) (J : Nat → Nat → Int64) (x1 : Int32) (x2 : Int32) (x3 : Int32) (w : Unit × (Nat → Int32) × (Nat → Nat → Int32) × (Nat → Nat → Int64)), d_goesTill_75 K27 n F A J x1 x2 x3 = some w → k_run t lg (d + 3) 200 75 [(0, .ref 40960), (1, .int x1), (2, .int x2), (3, .int x3)] [] (m_h c B F A J) (none, m_h c B w.2.1 w.2.2.1 w.2.2.2) := fun _ _ _ _ _ _ _ h => ih h
    unfold d_goesTill_75 at hD
    refine k_runB (pc' := 77) (loc' := [(0, .ref 40960), (1, .int x1), (2, .int x2), (3, .int x3)]) (st' := [.ref 40960, .int x3]) 2 rfl ?_
    obtain ⟨v22, hv22, hD⟩ := Option.bind_eq_some_iff.mp hD
    refine k_runC rfl rfl rfl rfl (t_d_menNow (d := d + 2) hv22) ?_
    refine k_ic rfl (fun c80_22 => ?_) (fun c80_22 => ?_)
    · rw [c80_22, cond_true] at hD
      refine k_wk [0, 1, 2] (loc' := [(0, .ref 40960), (1, .int x1), (2, .int x2)]) rfl rfl ?_
      exact t_d_goesTill_128 ht hK27 hD
    · rw [c80_22, cond_false] at hD
      refine k_runB (pc' := 92) (loc' := [(0, .ref 40960), (1, .int x1), (2, .int x2), (3, .int x3)]) (st' := [.int (F 18), .ref 41001, .int x2]) 5 rfl ?_
      obtain ⟨v24, hv24, hD⟩ := Option.bind_eq_some_iff.mp hD
      refine k_ldI rfl rfl hv24 ?_
      refine k_ic rfl (fun c93_24 => ?_) (fun c93_24 => ?_)
      · rw [c93_24, cond_true] at hD
        refine k_wk [0, 1, 2] (loc' := [(0, .ref 40960), (1, .int x1), (2, .int x2)]) rfl rfl ?_
        exact t_d_goesTill_128 ht hK27 hD
      · rw [c93_24, cond_false] at hD
        refine k_runB (pc' := 101) (loc' := [(0, .ref 40960), (1, .int x1), (2, .int x2), (3, .int x3)]) (st' := [.int x3, .ref 41010]) 3 rfl ?_
        obtain ⟨v26, hv26, hD⟩ := Option.bind_eq_some_iff.mp hD
        refine k_ldI rfl rfl hv26 ?_
        refine k_runB (pc' := 103) (loc' := [(0, .ref 40960), (1, .int x1), (2, .int x2), (3, .int x3)]) (st' := [.int 1, .int v26]) 1 rfl ?_
        refine k_ic rfl (fun c103_26 => ?_) (fun c103_26 => ?_)
        · rw [c103_26, cond_true] at hD
          refine k_wk [0, 1, 2, 3] (loc' := [(0, .ref 40960), (1, .int x1), (2, .int x2), (3, .int x3)]) rfl rfl ?_
          exact t_d_goesTill_122 ht hK27 hK75 hD
        · rw [c103_26, cond_false] at hD
          refine k_runB (pc' := 111) (loc' := [(0, .ref 40960), (1, .int x1), (2, .int x2), (3, .int x3)]) (st' := [.int x3, .ref 41011]) 3 rfl ?_
          obtain ⟨v28, hv28, hD⟩ := Option.bind_eq_some_iff.mp hD
          refine k_ldI rfl rfl hv28 ?_
          refine k_runB (pc' := 113) (loc' := [(0, .ref 40960), (1, .int x1), (2, .int x2), (3, .int x3)]) (st' := [.int x2, .int v28]) 1 rfl ?_
          refine k_ic rfl (fun c113_28 => ?_) (fun c113_28 => ?_)
          · rw [c113_28, cond_true] at hD
            refine k_wk [0, 1, 2, 3] (loc' := [(0, .ref 40960), (1, .int x1), (2, .int x2), (3, .int x3)]) rfl rfl ?_
            exact t_d_goesTill_122 ht hK27 hK75 hD
          · rw [c113_28, cond_false] at hD
            refine k_runB (pc' := 119) (loc' := [(0, .ref 40960), (1, .int x1), (2, .int x2), (3, .int x3)]) (st' := [.int x2, .int x3, .ref 40960]) 3 rfl ?_
            obtain ⟨⟨v30, F31, A32, J33⟩, hv30, hD⟩ := Option.bind_eq_some_iff.mp hD
            dsimp only at hD
            refine k_runC rfl rfl rfl rfl (t_d_begins1 (d := d) ht hv30) ?_
            refine k_runB (pc' := 75) (loc' := [(0, .ref 40960), (1, .int x1), (2, .int x2), (3, .int (x3 + 1))]) (st' := []) 2 rfl ?_
            refine k_wk [0, 1, 2, 3] (loc' := [(0, .ref 40960), (1, .int x1), (2, .int x2), (3, .int (x3 + 1))]) rfl rfl ?_
            exact hK75 _ _ _ _ _ _ _ hD
def d_goesTill_67 (K27 : (Nat → Int32) → (Nat → Nat → Int32) → (Nat → Nat → Int64) → Int32 → Int32 → Option (Unit × (Nat → Int32) × (Nat → Nat → Int32) × (Nat → Nat → Int64))) (K34 : (Nat → Int32) → (Nat → Nat → Int32) → (Nat → Nat → Int64) → Int32 → Int32 → Int32 → Option (Unit × (Nat → Int32) × (Nat → Nat → Int32) × (Nat → Nat → Int64))) (n : Nat) (F : Nat → Int32) (A : Nat → Nat → Int32) (J : Nat → Nat → Int64) (x1 : Int32) (x2 : Int32) (x3 : Int32) : Option (Unit × (Nat → Int32) × (Nat → Nat → Int32) × (Nat → Nat → Int64)) :=
    K34 F A J x1 x2 (x3 + 1)
theorem t_d_goesTill_67 (ht : ∀ k, t.1 12 k = k_ty 12 k) {n : Nat} {K27 : (Nat → Int32) → (Nat → Nat → Int32) → (Nat → Nat → Int64) → Int32 → Int32 → Option (Unit × (Nat → Int32) × (Nat → Nat → Int32) × (Nat → Nat → Int64))} {K34 : (Nat → Int32) → (Nat → Nat → Int32) → (Nat → Nat → Int64) → Int32 → Int32 → Int32 → Option (Unit × (Nat → Int32) × (Nat → Nat → Int32) × (Nat → Nat → Int64))} (hK27 : ∀ (F : Nat → Int32) (A : Nat → Nat → Int32) (J : Nat → Nat → Int64) (x1 : Int32) (x2 : Int32) (w : Unit × (Nat → Int32) × (Nat → Nat → Int32) × (Nat → Nat → Int64)), K27 F A J x1 x2 = some w → k_run t lg (d + 3) 200 27 [(0, .ref 40960), (1, .int x1), (2, .int x2)] [] (m_h c B F A J) (none, m_h c B w.2.1 w.2.2.1 w.2.2.2)) (hK34 : ∀ (F : Nat → Int32) (A : Nat → Nat → Int32) (J : Nat → Nat → Int64) (x1 : Int32) (x2 : Int32) (x3 : Int32) (w : Unit × (Nat → Int32) × (Nat → Nat → Int32) × (Nat → Nat → Int64)), K34 F A J x1 x2 x3 = some w → k_run t lg (d + 3) 200 34 [(0, .ref 40960), (1, .int x1), (2, .int x2), (3, .int x3)] [] (m_h c B F A J) (none, m_h c B w.2.1 w.2.2.1 w.2.2.2)) {F : Nat → Int32} {A : Nat → Nat → Int32} {J : Nat → Nat → Int64} {x1 : Int32} {x2 : Int32} {x3 : Int32} {w : Unit × (Nat → Int32) × (Nat → Nat → Int32) × (Nat → Nat → Int64)} : d_goesTill_67 K27 K34 n F A J x1 x2 x3 = some w → k_run t lg (d + 3) 200 67 [(0, .ref 40960), (1, .int x1), (2, .int x2), (3, .int x3)] [] (m_h c B F A J) (none, m_h c B w.2.1 w.2.2.1 w.2.2.2) := by
  intro hD
  unfold d_goesTill_67 at hD
  refine k_runB (pc' := 34) (loc' := [(0, .ref 40960), (1, .int x1), (2, .int x2), (3, .int (x3 + 1))]) (st' := []) 2 rfl ?_
  refine k_wk [0, 1, 2, 3] (loc' := [(0, .ref 40960), (1, .int x1), (2, .int x2), (3, .int (x3 + 1))]) rfl rfl ?_
  exact hK34 _ _ _ _ _ _ _ hD
def d_goesTill_34 (K27 : (Nat → Int32) → (Nat → Nat → Int32) → (Nat → Nat → Int64) → Int32 → Int32 → Option (Unit × (Nat → Int32) × (Nat → Nat → Int32) × (Nat → Nat → Int64))) : Nat → (Nat → Int32) → (Nat → Nat → Int32) → (Nat → Nat → Int64) → Int32 → Int32 → Int32 → Option (Unit × (Nat → Int32) × (Nat → Nat → Int32) × (Nat → Nat → Int64))
  | 0, _, _, _, _, _, _ => none
  | n + 1, F, A, J, x1, x2, x3 => (d_menNow F A J).bind fun v12 =>
    cond (g_cnd .ge x3 v12)
    (d_goesTill_75 K27 n F A J x1 x2 0)
    ((m_ld (A 50) 6 x3).bind fun v14 =>
    cond (g_cnd .ne v14 2)
    (d_goesTill_67 K27 (d_goesTill_34 K27 n) n F A J x1 x2 x3)
    ((m_ld (A 52) 6 x3).bind fun v16 =>
    cond (g_cnd .ne v16 x2)
    (d_goesTill_67 K27 (d_goesTill_34 K27 n) n F A J x1 x2 x3)
    ((d_isOver F A J x3).bind fun (_, F19, A20, J21) =>
    (d_goesTill_34 K27 n) F19 A20 J21 x1 x2 (x3 + 1))))
theorem t_d_goesTill_34 (ht : ∀ k, t.1 12 k = k_ty 12 k) {n : Nat} {K27 : (Nat → Int32) → (Nat → Nat → Int32) → (Nat → Nat → Int64) → Int32 → Int32 → Option (Unit × (Nat → Int32) × (Nat → Nat → Int32) × (Nat → Nat → Int64))} (hK27 : ∀ (F : Nat → Int32) (A : Nat → Nat → Int32) (J : Nat → Nat → Int64) (x1 : Int32) (x2 : Int32) (w : Unit × (Nat → Int32) × (Nat → Nat → Int32) × (Nat → Nat → Int64)), K27 F A J x1 x2 = some w → k_run t lg (d + 3) 200 27 [(0, .ref 40960), (1, .int x1), (2, .int x2)] [] (m_h c B F A J) (none, m_h c B w.2.1 w.2.2.1 w.2.2.2)) {F : Nat → Int32} {A : Nat → Nat → Int32} {J : Nat → Nat → Int64} {x1 : Int32} {x2 : Int32} {x3 : Int32} {w : Unit × (Nat → Int32) × (Nat → Nat → Int32) × (Nat → Nat → Int64)} : d_goesTill_34 K27 n F A J x1 x2 x3 = some w → k_run t lg (d + 3) 200 34 [(0, .ref 40960), (1, .int x1), (2, .int x2), (3, .int x3)] [] (m_h c B F A J) (none, m_h c B w.2.1 w.2.2.1 w.2.2.2) := by
  induction n generalizing F A J x1 x2 x3 w with
  | zero => intro hD; cases hD
  | succ n ih =>
    intro hD
    have hK34 : ∀ (F : Nat → Int32) (A : Nat → Nat → Int32) (J : Nat → Nat → Int64) (x1 : Int32) (x2 : Int32) (x3 : Int32) (w : Unit × (Nat → Int32) × (Nat → Nat → Int32) × (Nat → Nat → Int64)), d_goesTill_34 K27 n F A J x1 x2 x3 = some w → k_run t lg (d + 3) 200 34 [(0, .ref 40960), (1, .int x1), (2, .int x2), (3, .int x3)] [] (m_h c B F A J) (none, m_h c B w.2.1 w.2.2.1 w.2.2.2) := fun _ _ _ _ _ _ _ h => ih h
    unfold d_goesTill_34 at hD
    refine k_runB (pc' := 36) (loc' := [(0, .ref 40960), (1, .int x1), (2, .int x2), (3, .int x3)]) (st' := [.ref 40960, .int x3]) 2 rfl ?_
    obtain ⟨v12, hv12, hD⟩ := Option.bind_eq_some_iff.mp hD
    refine k_runC rfl rfl rfl rfl (t_d_menNow (d := d + 2) hv12) ?_
    refine k_ic rfl (fun c39_12 => ?_) (fun c39_12 => ?_)
    · rw [c39_12, cond_true] at hD
      refine k_runB (pc' := 75) (loc' := [(0, .ref 40960), (1, .int x1), (2, .int x2), (3, .int 0)]) (st' := []) 2 rfl ?_
      refine k_wk [0, 1, 2, 3] (loc' := [(0, .ref 40960), (1, .int x1), (2, .int x2), (3, .int 0)]) rfl rfl ?_
      exact t_d_goesTill_75 ht hK27 hD
    · rw [c39_12, cond_false] at hD
      refine k_runB (pc' := 47) (loc' := [(0, .ref 40960), (1, .int x1), (2, .int x2), (3, .int x3)]) (st' := [.int x3, .ref 41010]) 3 rfl ?_
      obtain ⟨v14, hv14, hD⟩ := Option.bind_eq_some_iff.mp hD
      refine k_ldI rfl rfl hv14 ?_
      refine k_runB (pc' := 49) (loc' := [(0, .ref 40960), (1, .int x1), (2, .int x2), (3, .int x3)]) (st' := [.int 2, .int v14]) 1 rfl ?_
      refine k_ic rfl (fun c49_14 => ?_) (fun c49_14 => ?_)
      · rw [c49_14, cond_true] at hD
        refine k_wk [0, 1, 2, 3] (loc' := [(0, .ref 40960), (1, .int x1), (2, .int x2), (3, .int x3)]) rfl rfl ?_
        exact t_d_goesTill_67 ht hK27 hK34 hD
      · rw [c49_14, cond_false] at hD
        refine k_runB (pc' := 57) (loc' := [(0, .ref 40960), (1, .int x1), (2, .int x2), (3, .int x3)]) (st' := [.int x3, .ref 41012]) 3 rfl ?_
        obtain ⟨v16, hv16, hD⟩ := Option.bind_eq_some_iff.mp hD
        refine k_ldI rfl rfl hv16 ?_
        refine k_runB (pc' := 59) (loc' := [(0, .ref 40960), (1, .int x1), (2, .int x2), (3, .int x3)]) (st' := [.int x2, .int v16]) 1 rfl ?_
        refine k_ic rfl (fun c59_16 => ?_) (fun c59_16 => ?_)
        · rw [c59_16, cond_true] at hD
          refine k_wk [0, 1, 2, 3] (loc' := [(0, .ref 40960), (1, .int x1), (2, .int x2), (3, .int x3)]) rfl rfl ?_
          exact t_d_goesTill_67 ht hK27 hK34 hD
        · rw [c59_16, cond_false] at hD
          refine k_runB (pc' := 64) (loc' := [(0, .ref 40960), (1, .int x1), (2, .int x2), (3, .int x3)]) (st' := [.int x3, .ref 40960]) 2 rfl ?_
          obtain ⟨⟨v18, F19, A20, J21⟩, hv18, hD⟩ := Option.bind_eq_some_iff.mp hD
          dsimp only at hD
          refine k_runC rfl rfl rfl rfl (t_d_isOver (d := d) hv18) ?_
          refine k_runB (pc' := 34) (loc' := [(0, .ref 40960), (1, .int x1), (2, .int x2), (3, .int (x3 + 1))]) (st' := []) 2 rfl ?_
          refine k_wk [0, 1, 2, 3] (loc' := [(0, .ref 40960), (1, .int x1), (2, .int x2), (3, .int (x3 + 1))]) rfl rfl ?_
          exact hK34 _ _ _ _ _ _ _ hD
def d_goesTill_27 : Nat → (Nat → Int32) → (Nat → Nat → Int32) → (Nat → Nat → Int64) → Int32 → Int32 → Option (Unit × (Nat → Int32) × (Nat → Nat → Int32) × (Nat → Nat → Int64))
  | 0, _, _, _, _, _ => none
  | n + 1, F, A, J, x1, x2 => cond (g_cnd .gt x2 x1)
    (some ((), F, A, J))
    (d_goesTill_34 (d_goesTill_27 n) n F A J x1 x2 0)
theorem t_d_goesTill_27 (ht : ∀ k, t.1 12 k = k_ty 12 k) {n : Nat}  {F : Nat → Int32} {A : Nat → Nat → Int32} {J : Nat → Nat → Int64} {x1 : Int32} {x2 : Int32} {w : Unit × (Nat → Int32) × (Nat → Nat → Int32) × (Nat → Nat → Int64)} : d_goesTill_27 n F A J x1 x2 = some w → k_run t lg (d + 3) 200 27 [(0, .ref 40960), (1, .int x1), (2, .int x2)] [] (m_h c B F A J) (none, m_h c B w.2.1 w.2.2.1 w.2.2.2) := by
  induction n generalizing F A J x1 x2 w with
  | zero => intro hD; cases hD
  | succ n ih =>
    intro hD
    have hK27 : ∀ (F : Nat → Int32) (A : Nat → Nat → Int32) (J : Nat → Nat → Int64) (x1 : Int32) (x2 : Int32) (w : Unit × (Nat → Int32) × (Nat → Nat → Int32) × (Nat → Nat → Int64)), d_goesTill_27 n F A J x1 x2 = some w → k_run t lg (d + 3) 200 27 [(0, .ref 40960), (1, .int x1), (2, .int x2)] [] (m_h c B F A J) (none, m_h c B w.2.1 w.2.2.1 w.2.2.2) := fun _ _ _ _ _ _ h => ih h
    unfold d_goesTill_27 at hD
    refine k_runB (pc' := 29) (loc' := [(0, .ref 40960), (1, .int x1), (2, .int x2)]) (st' := [.int x1, .int x2]) 2 rfl ?_
    refine k_ic rfl (fun c29_10 => ?_) (fun c29_10 => ?_)
    · rw [c29_10, cond_true] at hD
      cases hD
      exact k_vret rfl rfl
    · rw [c29_10, cond_false] at hD
      refine k_runB (pc' := 34) (loc' := [(0, .ref 40960), (1, .int x1), (2, .int x2), (3, .int 0)]) (st' := []) 2 rfl ?_
      refine k_wk [0, 1, 2, 3] (loc' := [(0, .ref 40960), (1, .int x1), (2, .int x2), (3, .int 0)]) rfl rfl ?_
      exact t_d_goesTill_34 ht hK27 hD
def d_goesTill_6 : Nat → (Nat → Int32) → (Nat → Nat → Int32) → (Nat → Nat → Int64) → Int32 → Int32 → Option (Unit × (Nat → Int32) × (Nat → Nat → Int32) × (Nat → Nat → Int64))
  | 0, _, _, _, _, _ => none
  | n + 1, F, A, J, x1, x2 => (d_menNow F A J).bind fun v5 =>
    cond (g_cnd .ge x2 v5)
    (d_goesTill_27 n F A J x1 0)
    ((d_getsUp F A J x2).bind fun (_, F8, A9, J10) =>
    (d_goesTill_6 n) F8 A9 J10 x1 (x2 + 1))
theorem t_d_goesTill_6 (ht : ∀ k, t.1 12 k = k_ty 12 k) {n : Nat}  {F : Nat → Int32} {A : Nat → Nat → Int32} {J : Nat → Nat → Int64} {x1 : Int32} {x2 : Int32} {w : Unit × (Nat → Int32) × (Nat → Nat → Int32) × (Nat → Nat → Int64)} : d_goesTill_6 n F A J x1 x2 = some w → k_run t lg (d + 3) 200 6 [(0, .ref 40960), (1, .int x1), (2, .int x2)] [] (m_h c B F A J) (none, m_h c B w.2.1 w.2.2.1 w.2.2.2) := by
  induction n generalizing F A J x1 x2 w with
  | zero => intro hD; cases hD
  | succ n ih =>
    intro hD
    have hK6 : ∀ (F : Nat → Int32) (A : Nat → Nat → Int32) (J : Nat → Nat → Int64) (x1 : Int32) (x2 : Int32) (w : Unit × (Nat → Int32) × (Nat → Nat → Int32) × (Nat → Nat → Int64)), d_goesTill_6 n F A J x1 x2 = some w → k_run t lg (d + 3) 200 6 [(0, .ref 40960), (1, .int x1), (2, .int x2)] [] (m_h c B F A J) (none, m_h c B w.2.1 w.2.2.1 w.2.2.2) := fun _ _ _ _ _ _ h => ih h
    unfold d_goesTill_6 at hD
    refine k_runB (pc' := 8) (loc' := [(0, .ref 40960), (1, .int x1), (2, .int x2)]) (st' := [.ref 40960, .int x2]) 2 rfl ?_
    obtain ⟨v5, hv5, hD⟩ := Option.bind_eq_some_iff.mp hD
    refine k_runC rfl rfl rfl rfl (t_d_menNow (d := d + 2) hv5) ?_
    refine k_ic rfl (fun c11_5 => ?_) (fun c11_5 => ?_)
    · rw [c11_5, cond_true] at hD
      refine k_runB (pc' := 27) (loc' := [(0, .ref 40960), (1, .int x1), (2, .int 0)]) (st' := []) 2 rfl ?_
      refine k_wk [0, 1, 2] (loc' := [(0, .ref 40960), (1, .int x1), (2, .int 0)]) rfl rfl ?_
      exact t_d_goesTill_27 ht  hD
    · rw [c11_5, cond_false] at hD
      refine k_runB (pc' := 16) (loc' := [(0, .ref 40960), (1, .int x1), (2, .int x2)]) (st' := [.int x2, .ref 40960]) 2 rfl ?_
      obtain ⟨⟨v7, F8, A9, J10⟩, hv7, hD⟩ := Option.bind_eq_some_iff.mp hD
      dsimp only at hD
      refine k_runC rfl rfl rfl rfl (t_d_getsUp (d := d + 2) hv7) ?_
      refine k_runB (pc' := 6) (loc' := [(0, .ref 40960), (1, .int x1), (2, .int (x2 + 1))]) (st' := []) 2 rfl ?_
      refine k_wk [0, 1, 2] (loc' := [(0, .ref 40960), (1, .int x1), (2, .int (x2 + 1))]) rfl rfl ?_
      exact hK6 _ _ _ _ _ _ hD
/-- SleepWorkModel.goesTill(I)V -/
def d_goesTill (n : Nat) (F : Nat → Int32) (A : Nat → Nat → Int32) (J : Nat → Nat → Int64) (x1 : Int32) : Option (Unit × (Nat → Int32) × (Nat → Nat → Int32) × (Nat → Nat → Int64)) :=
  (d_fillsWays n F A J).bind fun (_, F2, A3, J4) =>
  d_goesTill_6 n F2 A3 J4 x1 0
theorem t_d_goesTill (ht : ∀ k, t.1 12 k = k_ty 12 k) {n : Nat} {x1 : Int32} {r : Unit} {F' : Nat → Int32} {A' : Nat → Nat → Int32} {J' : Nat → Nat → Int64} : d_goesTill n F A J x1 = some (r, F', A', J') → k_run t lg (d + 3) 200 0 [(0, .ref 40960), (1, .int x1)] [] (m_h c B F A J) (none, m_h c B F' A' J') := by
  intro hD
  unfold d_goesTill at hD
  refine k_runB (pc' := 1) (loc' := [(0, .ref 40960), (1, .int x1)]) (st' := [.ref 40960]) 1 rfl ?_
  obtain ⟨⟨v1, F2, A3, J4⟩, hv1, hD⟩ := Option.bind_eq_some_iff.mp hD
  dsimp only at hD
  refine k_runC rfl rfl rfl rfl (t_d_fillsWays (d := d + 2) hv1) ?_
  refine k_runB (pc' := 6) (loc' := [(0, .ref 40960), (1, .int x1), (2, .int 0)]) (st' := []) 2 rfl ?_
  refine k_wk [0, 1, 2] (loc' := [(0, .ref 40960), (1, .int x1), (2, .int 0)]) rfl rfl ?_
  exact t_d_goesTill_6 ht  hD
def d_wholeNight_108 (K20 : (Nat → Int32) → (Nat → Nat → Int32) → (Nat → Nat → Int64) → Int32 → Int32 → Option (Int32 × (Nat → Int32) × (Nat → Nat → Int32) × (Nat → Nat → Int64))) (n : Nat) (F : Nat → Int32) (A : Nat → Nat → Int32) (J : Nat → Nat → Int64) (x1 : Int32) (x2 : Int32) : Option (Int32 × (Nat → Int32) × (Nat → Nat → Int32) × (Nat → Nat → Int64)) :=
    K20 F A J x1 (x2 + 1)
theorem t_d_wholeNight_108 (ht : ∀ k, t.1 12 k = k_ty 12 k) {n : Nat} {K20 : (Nat → Int32) → (Nat → Nat → Int32) → (Nat → Nat → Int64) → Int32 → Int32 → Option (Int32 × (Nat → Int32) × (Nat → Nat → Int32) × (Nat → Nat → Int64))} (hK20 : ∀ (F : Nat → Int32) (A : Nat → Nat → Int32) (J : Nat → Nat → Int64) (x1 : Int32) (x2 : Int32) (w : Int32 × (Nat → Int32) × (Nat → Nat → Int32) × (Nat → Nat → Int64)), K20 F A J x1 x2 = some w → k_run t lg (d + 4) 201 20 [(0, .ref 40960), (1, .int x1), (2, .int x2)] [] (m_h c B F A J) (some (.int w.1), m_h c B w.2.1 w.2.2.1 w.2.2.2)) {F : Nat → Int32} {A : Nat → Nat → Int32} {J : Nat → Nat → Int64} {x1 : Int32} {x2 : Int32} {w : Int32 × (Nat → Int32) × (Nat → Nat → Int32) × (Nat → Nat → Int64)} : d_wholeNight_108 K20 n F A J x1 x2 = some w → k_run t lg (d + 4) 201 108 [(0, .ref 40960), (1, .int x1), (2, .int x2)] [] (m_h c B F A J) (some (.int w.1), m_h c B w.2.1 w.2.2.1 w.2.2.2) := by
  intro hD
  unfold d_wholeNight_108 at hD
  refine k_runB (pc' := 20) (loc' := [(0, .ref 40960), (1, .int x1), (2, .int (x2 + 1))]) (st' := []) 2 rfl ?_
  refine k_wk [0, 1, 2] (loc' := [(0, .ref 40960), (1, .int x1), (2, .int (x2 + 1))]) rfl rfl ?_
  exact hK20 _ _ _ _ _ _ hD
def d_wholeNight_20 : Nat → (Nat → Int32) → (Nat → Nat → Int32) → (Nat → Nat → Int64) → Int32 → Int32 → Option (Int32 × (Nat → Int32) × (Nat → Nat → Int32) × (Nat → Nat → Int64))
  | 0, _, _, _, _, _ => none
  | n + 1, F, A, J, x1, x2 => (d_menNow F A J).bind fun v7 =>
    cond (g_cnd .ge x2 v7)
    ((m_ld (A 48) 100 79).bind fun v9 =>
    (m_st A 48 100 79 (v9 + 1)).bind fun A10 =>
    (d_worthNow n F A10 J).bind fun v11 =>
    some (v11 - x1, F, A10, J))
    ((m_ld (A 55) 6 x2).bind fun v12 =>
    (m_st A 48 100 (54 + x2) v12).bind fun A13 =>
    (m_ld (A13 48) 100 (60 + x2)).bind fun v14 =>
    (m_ld (A13 55) 6 x2).bind fun v15 =>
    (m_st A13 48 100 (60 + x2) (v14 + v15)).bind fun A16 =>
    (m_ld (A16 54) 6 x2).bind fun v17 =>
    (m_st A16 48 100 (48 + x2) v17).bind fun A18 =>
    (m_ld (A18 56) 6 x2).bind fun v19 =>
    cond (g_cnd .ne v19 0)
    ((m_st A18 48 100 (42 + x2) ((-1))).bind fun A21 =>
    (m_st A21 48 100 (48 + x2) ((-1))).bind fun A22 =>
    (d_wholeNight_20 n) F A22 J x1 (x2 + 1))
    (d_wholeNight_108 (d_wholeNight_20 n) n F A18 J x1 x2))
theorem t_d_wholeNight_20 (ht : ∀ k, t.1 12 k = k_ty 12 k) {n : Nat}  {F : Nat → Int32} {A : Nat → Nat → Int32} {J : Nat → Nat → Int64} {x1 : Int32} {x2 : Int32} {w : Int32 × (Nat → Int32) × (Nat → Nat → Int32) × (Nat → Nat → Int64)} : d_wholeNight_20 n F A J x1 x2 = some w → k_run t lg (d + 4) 201 20 [(0, .ref 40960), (1, .int x1), (2, .int x2)] [] (m_h c B F A J) (some (.int w.1), m_h c B w.2.1 w.2.2.1 w.2.2.2) := by
  induction n generalizing F A J x1 x2 w with
  | zero => intro hD; cases hD
  | succ n ih =>
    intro hD
    have hK20 : ∀ (F : Nat → Int32) (A : Nat → Nat → Int32) (J : Nat → Nat → Int64) (x1 : Int32) (x2 : Int32) (w : Int32 × (Nat → Int32) × (Nat → Nat → Int32) × (Nat → Nat → Int64)), d_wholeNight_20 n F A J x1 x2 = some w → k_run t lg (d + 4) 201 20 [(0, .ref 40960), (1, .int x1), (2, .int x2)] [] (m_h c B F A J) (some (.int w.1), m_h c B w.2.1 w.2.2.1 w.2.2.2) := fun _ _ _ _ _ _ h => ih h
    unfold d_wholeNight_20 at hD
    refine k_runB (pc' := 22) (loc' := [(0, .ref 40960), (1, .int x1), (2, .int x2)]) (st' := [.ref 40960, .int x2]) 2 rfl ?_
    obtain ⟨v7, hv7, hD⟩ := Option.bind_eq_some_iff.mp hD
    refine k_runC rfl rfl rfl rfl (t_d_menNow (d := d + 3) hv7) ?_
    refine k_ic rfl (fun c25_7 => ?_) (fun c25_7 => ?_)
    · rw [c25_7, cond_true] at hD
      refine k_runB (pc' := 121) (loc' := [(0, .ref 40960), (1, .int x1), (2, .int x2)]) (st' := [.int 79, .ref 41008, .int 79, .ref 41008]) 4 rfl ?_
      obtain ⟨v9, hv9, hD⟩ := Option.bind_eq_some_iff.mp hD
      refine k_ldI rfl rfl hv9 ?_
      refine k_runB (pc' := 124) (loc' := [(0, .ref 40960), (1, .int x1), (2, .int x2)]) (st' := [.int (v9 + 1), .int 79, .ref 41008]) 2 rfl ?_
      obtain ⟨A10, hA10, hD⟩ := Option.bind_eq_some_iff.mp hD
      refine k_stI 48 rfl rfl (fun _ => rfl) hA10 ?_
      refine k_runB (pc' := 126) (loc' := [(0, .ref 40960), (1, .int x1), (2, .int x2)]) (st' := [.ref 40960]) 1 rfl ?_
      obtain ⟨v11, hv11, hD⟩ := Option.bind_eq_some_iff.mp hD
      refine k_runC rfl rfl rfl rfl (t_d_worthNow (d := d + 1) hv11) ?_
      refine k_runB (pc' := 131) (loc' := [(0, .ref 40960), (1, .int x1), (2, .int x2)]) (st' := [.int (v11 - x1)]) 2 rfl ?_
      cases hD
      exact k_iret rfl rfl
    · rw [c25_7, cond_false] at hD
      refine k_runB (pc' := 41) (loc' := [(0, .ref 40960), (1, .int x1), (2, .int x2)]) (st' := [.int x2, .ref 41015, .int (54 + x2), .ref 41008]) 8 rfl ?_
      obtain ⟨v12, hv12, hD⟩ := Option.bind_eq_some_iff.mp hD
      refine k_ldI rfl rfl hv12 ?_
      obtain ⟨A13, hA13, hD⟩ := Option.bind_eq_some_iff.mp hD
      refine k_stI 48 rfl rfl (fun _ => rfl) hA13 ?_
      refine k_runB (pc' := 52) (loc' := [(0, .ref 40960), (1, .int x1), (2, .int x2)]) (st' := [.int (60 + x2), .ref 41008, .int (60 + x2), .ref 41008]) 6 rfl ?_
      obtain ⟨v14, hv14, hD⟩ := Option.bind_eq_some_iff.mp hD
      refine k_ldI rfl rfl hv14 ?_
      refine k_runB (pc' := 58) (loc' := [(0, .ref 40960), (1, .int x1), (2, .int x2)]) (st' := [.int x2, .ref 41015, .int v14, .int (60 + x2), .ref 41008]) 3 rfl ?_
      obtain ⟨v15, hv15, hD⟩ := Option.bind_eq_some_iff.mp hD
      refine k_ldI rfl rfl hv15 ?_
      refine k_runB (pc' := 60) (loc' := [(0, .ref 40960), (1, .int x1), (2, .int x2)]) (st' := [.int (v14 + v15), .int (60 + x2), .ref 41008]) 1 rfl ?_
      obtain ⟨A16, hA16, hD⟩ := Option.bind_eq_some_iff.mp hD
      refine k_stI 48 rfl rfl (fun _ => rfl) hA16 ?_
      refine k_runB (pc' := 74) (loc' := [(0, .ref 40960), (1, .int x1), (2, .int x2)]) (st' := [.int x2, .ref 41014, .int (48 + x2), .ref 41008]) 8 rfl ?_
      obtain ⟨v17, hv17, hD⟩ := Option.bind_eq_some_iff.mp hD
      refine k_ldI rfl rfl hv17 ?_
      obtain ⟨A18, hA18, hD⟩ := Option.bind_eq_some_iff.mp hD
      refine k_stI 48 rfl rfl (fun _ => rfl) hA18 ?_
      refine k_runB (pc' := 81) (loc' := [(0, .ref 40960), (1, .int x1), (2, .int x2)]) (st' := [.int x2, .ref 41016]) 3 rfl ?_
      obtain ⟨v19, hv19, hD⟩ := Option.bind_eq_some_iff.mp hD
      refine k_ldZ rfl rfl hv19 ?_
      refine k_if rfl (fun c82_19 => ?_) (fun c82_19 => ?_)
      · rw [c82_19, cond_true] at hD
        refine k_runB (pc' := 97) (loc' := [(0, .ref 40960), (1, .int x1), (2, .int x2)]) (st' := [.int ((-1)), .int (42 + x2), .ref 41008]) 6 rfl ?_
        obtain ⟨A21, hA21, hD⟩ := Option.bind_eq_some_iff.mp hD
        refine k_stI 48 rfl rfl (fun _ => rfl) hA21 ?_
        refine k_runB (pc' := 107) (loc' := [(0, .ref 40960), (1, .int x1), (2, .int x2)]) (st' := [.int ((-1)), .int (48 + x2), .ref 41008]) 6 rfl ?_
        obtain ⟨A22, hA22, hD⟩ := Option.bind_eq_some_iff.mp hD
        refine k_stI 48 rfl rfl (fun _ => rfl) hA22 ?_
        refine k_runB (pc' := 20) (loc' := [(0, .ref 40960), (1, .int x1), (2, .int (x2 + 1))]) (st' := []) 2 rfl ?_
        refine k_wk [0, 1, 2] (loc' := [(0, .ref 40960), (1, .int x1), (2, .int (x2 + 1))]) rfl rfl ?_
        exact hK20 _ _ _ _ _ _ hD
      · rw [c82_19, cond_false] at hD
        refine k_runB (pc' := 108) (loc' := [(0, .ref 40960), (1, .int x1), (2, .int x2)]) (st' := []) 1 rfl ?_
        refine k_wk [0, 1, 2] (loc' := [(0, .ref 40960), (1, .int x1), (2, .int x2)]) rfl rfl ?_
        exact t_d_wholeNight_108 ht hK20 hD
/-- SleepWorkModel.wholeNight()I -/
def d_wholeNight (n : Nat) (F : Nat → Int32) (A : Nat → Nat → Int32) (J : Nat → Nat → Int64) : Option (Int32 × (Nat → Int32) × (Nat → Nat → Int32) × (Nat → Nat → Int64)) :=
  (d_worthNow n F A J).bind fun v1 =>
  (m_ld (A 41) 2 (F 18)).bind fun v2 =>
  (d_goesTill n F A J v2).bind fun (_, F4, A5, J6) =>
  d_wholeNight_20 n F4 A5 J6 v1 0
theorem t_d_wholeNight (ht : ∀ k, t.1 12 k = k_ty 12 k) {n : Nat} {r : Int32} {F' : Nat → Int32} {A' : Nat → Nat → Int32} {J' : Nat → Nat → Int64} : d_wholeNight n F A J = some (r, F', A', J') → k_run t lg (d + 4) 201 0 [(0, .ref 40960)] [] (m_h c B F A J) (some (.int r), m_h c B F' A' J') := by
  intro hD
  unfold d_wholeNight at hD
  refine k_runB (pc' := 1) (loc' := [(0, .ref 40960)]) (st' := [.ref 40960]) 1 rfl ?_
  obtain ⟨v1, hv1, hD⟩ := Option.bind_eq_some_iff.mp hD
  refine k_runC rfl rfl rfl rfl (t_d_worthNow (d := d + 1) hv1) ?_
  refine k_runB (pc' := 14) (loc' := [(0, .ref 40960), (1, .int v1)]) (st' := [.int (F 18), .ref 41001, .ref 40960]) 6 rfl ?_
  obtain ⟨v2, hv2, hD⟩ := Option.bind_eq_some_iff.mp hD
  refine k_ldI rfl rfl hv2 ?_
  obtain ⟨⟨v3, F4, A5, J6⟩, hv3, hD⟩ := Option.bind_eq_some_iff.mp hD
  dsimp only at hD
  refine k_runC rfl rfl rfl rfl (t_d_goesTill (d := d) ht hv3) ?_
  refine k_runB (pc' := 20) (loc' := [(0, .ref 40960), (1, .int v1), (2, .int 0)]) (st' := []) 2 rfl ?_
  refine k_wk [0, 1, 2] (loc' := [(0, .ref 40960), (1, .int v1), (2, .int 0)]) rfl rfl ?_
  exact t_d_wholeNight_20 ht  hD
end MD
end Qz5
section Qz6
/-! the reference's methods as functions (printed by wip/dec.py) -/
section MD
variable {t : gT} {lg : Nat → Nat} {d : Nat} {c : Nat × Nat} {B : Nat → List gE} {F : Nat → Int32} {A : Nat → Nat → Int32} {J : Nat → Nat → Int64}
/-- SleepWorkModel.task(II)I -/
def d_task (n : Nat) (F : Nat → Int32) (A : Nat → Nat → Int32) (J : Nat → Nat → Int64) (x1 : Int32) (x2 : Int32) : Option (Int32 × (Nat → Int32) × (Nat → Nat → Int32) × (Nat → Nat → Int64)) :=
  (d_isTask F A J x1).bind fun v1 =>
  cond (g_cnd .ne v1 0)
  ((d_takes n F A J).bind fun (_, F4, A5, J6) =>
  cond (decide (x2 = 0))
  ((m_ld (A5 20) 12 ((6 * (F4 18)) + x1)).bind fun v8 =>
  some (v8, F4, A5, J6))
  (cond (decide (x2 = 1))
  ((d_stepsOf F4 A5 J6 x1).bind fun v9 =>
  some (v9, F4, A5, J6))
  (cond (decide (x2 = 2))
  ((m_ld (A5 48) 100 x1).bind fun v10 =>
  some (v10, F4, A5, J6))
  (cond (decide (x2 = 3))
  ((d_worthOf n F4 A5 J6 x1).bind fun v11 =>
  some (v11, F4, A5, J6))
  (cond (decide (x2 = 4))
  ((d_isEnded n F4 A5 J6 x1).bind fun v12 =>
  cond (g_cnd .eq v12 0)
  (some (0, F4, A5, J6))
  (some (1, F4, A5, J6)))
  (some ((-1), F4, A5, J6)))))))
  (some ((-1), F, A, J))
theorem t_d_task {n : Nat} {x1 : Int32} {x2 : Int32} {r : Int32} {F' : Nat → Int32} {A' : Nat → Nat → Int32} {J' : Nat → Nat → Int64} : d_task n F A J x1 x2 = some (r, F', A', J') → k_run t lg (d + 2) 202 0 [(0, .ref 40960), (1, .int x1), (2, .int x2)] [] (m_h c B F A J) (some (.int r), m_h c B F' A' J') := by
  intro hD
  unfold d_task at hD
  refine k_runB (pc' := 2) (loc' := [(0, .ref 40960), (1, .int x1), (2, .int x2)]) (st' := [.int x1, .ref 40960]) 2 rfl ?_
  obtain ⟨v1, hv1, hD⟩ := Option.bind_eq_some_iff.mp hD
  refine k_runC rfl rfl rfl rfl (t_d_isTask (d := d) hv1) ?_
  refine k_if rfl (fun c5_1 => ?_) (fun c5_1 => ?_)
  · rw [c5_1, cond_true] at hD
    refine k_runB (pc' := 11) (loc' := [(0, .ref 40960), (1, .int x1), (2, .int x2)]) (st' := [.ref 40960]) 1 rfl ?_
    obtain ⟨⟨v3, F4, A5, J6⟩, hv3, hD⟩ := Option.bind_eq_some_iff.mp hD
    dsimp only at hD
    refine k_runC rfl rfl rfl rfl (t_d_takes (d := d + 1) hv3) ?_
    refine k_runB (pc' := 15) (loc' := [(0, .ref 40960), (1, .int x1), (2, .int x2)]) (st' := [.int x2]) 1 rfl ?_
    cases c15_6_0 : decide (x2 = 0) with
    | true =>
      rw [c15_6_0, cond_true] at hD
      refine k_tab (tgt := 48) rfl (by rw [of_decide_eq_true c15_6_0]; decide) ?_
      refine k_runB (pc' := 61) (loc' := [(0, .ref 40960), (1, .int x1), (2, .int x2)]) (st' := [.int ((6 * (F4 18)) + x1), .ref 40980]) 8 rfl ?_
      obtain ⟨v8, hv8, hD⟩ := Option.bind_eq_some_iff.mp hD
      refine k_ldI rfl rfl hv8 ?_
      cases hD
      exact k_iret rfl rfl
    | false =>
      rw [c15_6_0, cond_false] at hD
      cases c15_6_1 : decide (x2 = 1) with
      | true =>
        rw [c15_6_1, cond_true] at hD
        refine k_tab (tgt := 63) rfl (by rw [of_decide_eq_true c15_6_1]; decide) ?_
        refine k_runB (pc' := 65) (loc' := [(0, .ref 40960), (1, .int x1), (2, .int x2)]) (st' := [.int x1, .ref 40960]) 2 rfl ?_
        obtain ⟨v9, hv9, hD⟩ := Option.bind_eq_some_iff.mp hD
        refine k_runC rfl rfl rfl rfl (t_d_stepsOf (d := d + 1) hv9) ?_
        cases hD
        exact k_iret rfl rfl
      | false =>
        rw [c15_6_1, cond_false] at hD
        cases c15_6_2 : decide (x2 = 2) with
        | true =>
          rw [c15_6_2, cond_true] at hD
          refine k_tab (tgt := 69) rfl (by rw [of_decide_eq_true c15_6_2]; decide) ?_
          refine k_runB (pc' := 74) (loc' := [(0, .ref 40960), (1, .int x1), (2, .int x2)]) (st' := [.int x1, .ref 41008]) 3 rfl ?_
          obtain ⟨v10, hv10, hD⟩ := Option.bind_eq_some_iff.mp hD
          refine k_ldI rfl rfl hv10 ?_
          cases hD
          exact k_iret rfl rfl
        | false =>
          rw [c15_6_2, cond_false] at hD
          cases c15_6_3 : decide (x2 = 3) with
          | true =>
            rw [c15_6_3, cond_true] at hD
            refine k_tab (tgt := 76) rfl (by rw [of_decide_eq_true c15_6_3]; decide) ?_
            refine k_runB (pc' := 78) (loc' := [(0, .ref 40960), (1, .int x1), (2, .int x2)]) (st' := [.int x1, .ref 40960]) 2 rfl ?_
            obtain ⟨v11, hv11, hD⟩ := Option.bind_eq_some_iff.mp hD
            refine k_runC rfl rfl rfl rfl (t_d_worthOf (d := d) hv11) ?_
            cases hD
            exact k_iret rfl rfl
          | false =>
            rw [c15_6_3, cond_false] at hD
            cases c15_6_4 : decide (x2 = 4) with
            | true =>
              rw [c15_6_4, cond_true] at hD
              refine k_tab (tgt := 82) rfl (by rw [of_decide_eq_true c15_6_4]; decide) ?_
              refine k_runB (pc' := 84) (loc' := [(0, .ref 40960), (1, .int x1), (2, .int x2)]) (st' := [.int x1, .ref 40960]) 2 rfl ?_
              obtain ⟨v12, hv12, hD⟩ := Option.bind_eq_some_iff.mp hD
              refine k_runC rfl rfl rfl rfl (t_d_isEnded (d := d) hv12) ?_
              refine k_if rfl (fun c87_12 => ?_) (fun c87_12 => ?_)
              · rw [c87_12, cond_true] at hD
                refine k_runB (pc' := 95) (loc' := [(0, .ref 40960), (1, .int x1), (2, .int x2)]) (st' := [.int 0]) 1 rfl ?_
                cases hD
                exact k_iret rfl rfl
              · rw [c87_12, cond_false] at hD
                refine k_runB (pc' := 95) (loc' := [(0, .ref 40960), (1, .int x1), (2, .int x2)]) (st' := [.int 1]) 2 rfl ?_
                cases hD
                exact k_iret rfl rfl
            | false =>
              rw [c15_6_4, cond_false] at hD
              refine k_tab (tgt := 96) rfl (by rw [if_pos (m_out (lo := 0) (hi := 4) [0, 1, 2, 3, 4] (by decide) (by decide) (List.forall_mem_cons.mpr ⟨of_decide_eq_false c15_6_0, List.forall_mem_cons.mpr ⟨of_decide_eq_false c15_6_1, List.forall_mem_cons.mpr ⟨of_decide_eq_false c15_6_2, List.forall_mem_cons.mpr ⟨of_decide_eq_false c15_6_3, List.forall_mem_cons.mpr ⟨of_decide_eq_false c15_6_4, fun _ h => absurd h List.not_mem_nil⟩⟩⟩⟩⟩))]; rfl) ?_
              refine k_runB (pc' := 97) (loc' := [(0, .ref 40960), (1, .int x1), (2, .int x2)]) (st' := [.int ((-1))]) 1 rfl ?_
              cases hD
              exact k_iret rfl rfl
  · rw [c5_1, cond_false] at hD
    refine k_runB (pc' := 9) (loc' := [(0, .ref 40960), (1, .int x1), (2, .int x2)]) (st' := [.int ((-1))]) 1 rfl ?_
    cases hD
    exact k_iret rfl rfl
/-- SleepWorkModel.orNone(I)I -/
def d_orNone (x0 : Int32) : Option Int32 :=
  cond (g_cnd .ge x0 0)
  (some (x0))
  (some ((-2)))
theorem t_d_orNone {x0 : Int32} {r : Int32} : d_orNone x0 = some r → k_run t lg (d) 203 0 [(0, .int x0)] [] (m_h c B F A J) (some (.int r), m_h c B F A J) := by
  intro hD
  unfold d_orNone at hD
  refine k_runB (pc' := 1) (loc' := [(0, .int x0)]) (st' := [.int x0]) 1 rfl ?_
  refine k_if rfl (fun c1_0 => ?_) (fun c1_0 => ?_)
  · rw [c1_0, cond_true] at hD
    refine k_runB (pc' := 10) (loc' := [(0, .int x0)]) (st' := [.int x0]) 1 rfl ?_
    cases hD
    exact k_iret rfl rfl
  · rw [c1_0, cond_false] at hD
    refine k_runB (pc' := 10) (loc' := [(0, .int x0)]) (st' := [.int ((-2))]) 2 rfl ?_
    cases hD
    exact k_iret rfl rfl
/-- SleepWorkModel.step(III)I -/
def d_step (F : Nat → Int32) (A : Nat → Nat → Int32) (J : Nat → Nat → Int64) (x1 : Int32) (x2 : Int32) (x3 : Int32) : Option Int32 :=
  (d_isStep F A J x1 x2).bind fun v1 =>
  cond (g_cnd .ne v1 0)
  ((d_stepAt F A J x1 x2).bind fun v3 =>
  cond (decide (x3 = 0))
  ((m_ld (A 47) 100 ((6 + (6 * x1)) + x2)).bind fun v5 =>
  some (v5))
  (cond (decide (x3 = 1))
  ((m_ld (A 23) 72 v3).bind fun v6 =>
  some (v6))
  (cond (decide (x3 = 2))
  ((m_ld (A 24) 72 v3).bind fun v7 =>
  some (v7))
  (cond (decide (x3 = 3))
  ((m_ld (A 25) 72 v3).bind fun v8 =>
  some (v8))
  (cond (decide (x3 = 4))
  ((m_ld (A 26) 72 v3).bind fun v9 =>
  some (v9))
  (cond (decide (x3 = 5))
  ((m_ld (A 27) 72 v3).bind fun v10 =>
  (d_orNone v10).bind fun v11 =>
  some (v11))
  (cond (decide (x3 = 6))
  ((m_ld (A 28) 72 v3).bind fun v12 =>
  (d_orNone v12).bind fun v13 =>
  some (v13))
  (some ((-1))))))))))
  (some ((-1)))
theorem t_d_step {x1 : Int32} {x2 : Int32} {x3 : Int32} {r : Int32} : d_step F A J x1 x2 x3 = some r → k_run t lg (d + 3) 204 0 [(0, .ref 40960), (1, .int x1), (2, .int x2), (3, .int x3)] [] (m_h c B F A J) (some (.int r), m_h c B F A J) := by
  intro hD
  unfold d_step at hD
  refine k_runB (pc' := 3) (loc' := [(0, .ref 40960), (1, .int x1), (2, .int x2), (3, .int x3)]) (st' := [.int x2, .int x1, .ref 40960]) 3 rfl ?_
  obtain ⟨v1, hv1, hD⟩ := Option.bind_eq_some_iff.mp hD
  refine k_runC rfl rfl rfl rfl (t_d_isStep (d := d) hv1) ?_
  refine k_if rfl (fun c6_1 => ?_) (fun c6_1 => ?_)
  · rw [c6_1, cond_true] at hD
    refine k_runB (pc' := 14) (loc' := [(0, .ref 40960), (1, .int x1), (2, .int x2), (3, .int x3)]) (st' := [.int x2, .int x1, .ref 40960]) 3 rfl ?_
    obtain ⟨v3, hv3, hD⟩ := Option.bind_eq_some_iff.mp hD
    refine k_runC rfl rfl rfl rfl (t_d_stepAt (d := d + 2) hv3) ?_
    refine k_runB (pc' := 20) (loc' := [(0, .ref 40960), (1, .int x1), (2, .int x2), (3, .int x3), (4, .int v3)]) (st' := [.int x3]) 2 rfl ?_
    cases c20_3_0 : decide (x3 = 0) with
    | true =>
      rw [c20_3_0, cond_true] at hD
      refine k_tab (tgt := 64) rfl (by rw [of_decide_eq_true c20_3_0]; decide) ?_
      refine k_runB (pc' := 77) (loc' := [(0, .ref 40960), (1, .int x1), (2, .int x2), (3, .int x3), (4, .int v3)]) (st' := [.int ((6 + (6 * x1)) + x2), .ref 41007]) 9 rfl ?_
      obtain ⟨v5, hv5, hD⟩ := Option.bind_eq_some_iff.mp hD
      refine k_ldI rfl rfl hv5 ?_
      cases hD
      exact k_iret rfl rfl
    | false =>
      rw [c20_3_0, cond_false] at hD
      cases c20_3_1 : decide (x3 = 1) with
      | true =>
        rw [c20_3_1, cond_true] at hD
        refine k_tab (tgt := 79) rfl (by rw [of_decide_eq_true c20_3_1]; decide) ?_
        refine k_runB (pc' := 85) (loc' := [(0, .ref 40960), (1, .int x1), (2, .int x2), (3, .int x3), (4, .int v3)]) (st' := [.int v3, .ref 40983]) 3 rfl ?_
        obtain ⟨v6, hv6, hD⟩ := Option.bind_eq_some_iff.mp hD
        refine k_ldI rfl rfl hv6 ?_
        cases hD
        exact k_iret rfl rfl
      | false =>
        rw [c20_3_1, cond_false] at hD
        cases c20_3_2 : decide (x3 = 2) with
        | true =>
          rw [c20_3_2, cond_true] at hD
          refine k_tab (tgt := 87) rfl (by rw [of_decide_eq_true c20_3_2]; decide) ?_
          refine k_runB (pc' := 93) (loc' := [(0, .ref 40960), (1, .int x1), (2, .int x2), (3, .int x3), (4, .int v3)]) (st' := [.int v3, .ref 40984]) 3 rfl ?_
          obtain ⟨v7, hv7, hD⟩ := Option.bind_eq_some_iff.mp hD
          refine k_ldI rfl rfl hv7 ?_
          cases hD
          exact k_iret rfl rfl
        | false =>
          rw [c20_3_2, cond_false] at hD
          cases c20_3_3 : decide (x3 = 3) with
          | true =>
            rw [c20_3_3, cond_true] at hD
            refine k_tab (tgt := 95) rfl (by rw [of_decide_eq_true c20_3_3]; decide) ?_
            refine k_runB (pc' := 101) (loc' := [(0, .ref 40960), (1, .int x1), (2, .int x2), (3, .int x3), (4, .int v3)]) (st' := [.int v3, .ref 40985]) 3 rfl ?_
            obtain ⟨v8, hv8, hD⟩ := Option.bind_eq_some_iff.mp hD
            refine k_ldI rfl rfl hv8 ?_
            cases hD
            exact k_iret rfl rfl
          | false =>
            rw [c20_3_3, cond_false] at hD
            cases c20_3_4 : decide (x3 = 4) with
            | true =>
              rw [c20_3_4, cond_true] at hD
              refine k_tab (tgt := 103) rfl (by rw [of_decide_eq_true c20_3_4]; decide) ?_
              refine k_runB (pc' := 109) (loc' := [(0, .ref 40960), (1, .int x1), (2, .int x2), (3, .int x3), (4, .int v3)]) (st' := [.int v3, .ref 40986]) 3 rfl ?_
              obtain ⟨v9, hv9, hD⟩ := Option.bind_eq_some_iff.mp hD
              refine k_ldI rfl rfl hv9 ?_
              cases hD
              exact k_iret rfl rfl
            | false =>
              rw [c20_3_4, cond_false] at hD
              cases c20_3_5 : decide (x3 = 5) with
              | true =>
                rw [c20_3_5, cond_true] at hD
                refine k_tab (tgt := 111) rfl (by rw [of_decide_eq_true c20_3_5]; decide) ?_
                refine k_runB (pc' := 117) (loc' := [(0, .ref 40960), (1, .int x1), (2, .int x2), (3, .int x3), (4, .int v3)]) (st' := [.int v3, .ref 40987]) 3 rfl ?_
                obtain ⟨v10, hv10, hD⟩ := Option.bind_eq_some_iff.mp hD
                refine k_ldI rfl rfl hv10 ?_
                obtain ⟨v11, hv11, hD⟩ := Option.bind_eq_some_iff.mp hD
                refine k_runC rfl rfl rfl rfl (t_d_orNone (d := d + 2) hv11) ?_
                cases hD
                exact k_iret rfl rfl
              | false =>
                rw [c20_3_5, cond_false] at hD
                cases c20_3_6 : decide (x3 = 6) with
                | true =>
                  rw [c20_3_6, cond_true] at hD
                  refine k_tab (tgt := 122) rfl (by rw [of_decide_eq_true c20_3_6]; decide) ?_
                  refine k_runB (pc' := 128) (loc' := [(0, .ref 40960), (1, .int x1), (2, .int x2), (3, .int x3), (4, .int v3)]) (st' := [.int v3, .ref 40988]) 3 rfl ?_
                  obtain ⟨v12, hv12, hD⟩ := Option.bind_eq_some_iff.mp hD
                  refine k_ldI rfl rfl hv12 ?_
                  obtain ⟨v13, hv13, hD⟩ := Option.bind_eq_some_iff.mp hD
                  refine k_runC rfl rfl rfl rfl (t_d_orNone (d := d + 2) hv13) ?_
                  cases hD
                  exact k_iret rfl rfl
                | false =>
                  rw [c20_3_6, cond_false] at hD
                  refine k_tab (tgt := 133) rfl (by rw [if_pos (m_out (lo := 0) (hi := 6) [0, 1, 2, 3, 4, 5, 6] (by decide) (by decide) (List.forall_mem_cons.mpr ⟨of_decide_eq_false c20_3_0, List.forall_mem_cons.mpr ⟨of_decide_eq_false c20_3_1, List.forall_mem_cons.mpr ⟨of_decide_eq_false c20_3_2, List.forall_mem_cons.mpr ⟨of_decide_eq_false c20_3_3, List.forall_mem_cons.mpr ⟨of_decide_eq_false c20_3_4, List.forall_mem_cons.mpr ⟨of_decide_eq_false c20_3_5, List.forall_mem_cons.mpr ⟨of_decide_eq_false c20_3_6, fun _ h => absurd h List.not_mem_nil⟩⟩⟩⟩⟩⟩⟩))]; rfl) ?_
                  refine k_runB (pc' := 134) (loc' := [(0, .ref 40960), (1, .int x1), (2, .int x2), (3, .int x3), (4, .int v3)]) (st' := [.int ((-1))]) 1 rfl ?_
                  cases hD
                  exact k_iret rfl rfl
  · rw [c6_1, cond_false] at hD
    refine k_runB (pc' := 10) (loc' := [(0, .ref 40960), (1, .int x1), (2, .int x2), (3, .int x3)]) (st' := [.int ((-1))]) 1 rfl ?_
    cases hD
    exact k_iret rfl rfl
/-- SleepWorkModel.man(II)I -/
def d_man (F : Nat → Int32) (A : Nat → Nat → Int32) (J : Nat → Nat → Int64) (x1 : Int32) (x2 : Int32) : Option Int32 :=
  (d_isMan F A J x1).bind fun v1 =>
  cond (g_cnd .ne v1 0)
  (cond (decide (x2 = 0))
  ((m_ld (A 30) 12 ((6 * (F 18)) + x1)).bind fun v4 =>
  some (v4))
  (cond (decide (x2 = 1))
  ((m_ld (A 47) 100 (42 + x1)).bind fun v5 =>
  (d_orNone v5).bind fun v6 =>
  some (v6))
  (cond (decide (x2 = 2))
  ((m_ld (A 47) 100 (48 + x1)).bind fun v7 =>
  (d_orNone v7).bind fun v8 =>
  some (v8))
  (cond (decide (x2 = 3))
  ((m_ld (A 47) 100 (54 + x1)).bind fun v9 =>
  some (v9))
  (cond (decide (x2 = 4))
  ((m_ld (A 47) 100 (60 + x1)).bind fun v10 =>
  some (v10))
  (cond (decide (x2 = 5))
  ((m_ld (A 47) 100 (66 + x1)).bind fun v11 =>
  some (v11))
  (some ((-1)))))))))
  (some ((-1)))
theorem t_d_man {x1 : Int32} {x2 : Int32} {r : Int32} : d_man F A J x1 x2 = some r → k_run t lg (d + 2) 205 0 [(0, .ref 40960), (1, .int x1), (2, .int x2)] [] (m_h c B F A J) (some (.int r), m_h c B F A J) := by
  intro hD
  unfold d_man at hD
  refine k_runB (pc' := 2) (loc' := [(0, .ref 40960), (1, .int x1), (2, .int x2)]) (st' := [.int x1, .ref 40960]) 2 rfl ?_
  obtain ⟨v1, hv1, hD⟩ := Option.bind_eq_some_iff.mp hD
  refine k_runC rfl rfl rfl rfl (t_d_isMan (d := d) hv1) ?_
  refine k_if rfl (fun c5_1 => ?_) (fun c5_1 => ?_)
  · rw [c5_1, cond_true] at hD
    refine k_runB (pc' := 11) (loc' := [(0, .ref 40960), (1, .int x1), (2, .int x2)]) (st' := [.int x2]) 1 rfl ?_
    cases c11_2_0 : decide (x2 = 0) with
    | true =>
      rw [c11_2_0, cond_true] at hD
      refine k_tab (tgt := 48) rfl (by rw [of_decide_eq_true c11_2_0]; decide) ?_
      refine k_runB (pc' := 61) (loc' := [(0, .ref 40960), (1, .int x1), (2, .int x2)]) (st' := [.int ((6 * (F 18)) + x1), .ref 40990]) 8 rfl ?_
      obtain ⟨v4, hv4, hD⟩ := Option.bind_eq_some_iff.mp hD
      refine k_ldI rfl rfl hv4 ?_
      cases hD
      exact k_iret rfl rfl
    | false =>
      rw [c11_2_0, cond_false] at hD
      cases c11_2_1 : decide (x2 = 1) with
      | true =>
        rw [c11_2_1, cond_true] at hD
        refine k_tab (tgt := 63) rfl (by rw [of_decide_eq_true c11_2_1]; decide) ?_
        refine k_runB (pc' := 71) (loc' := [(0, .ref 40960), (1, .int x1), (2, .int x2)]) (st' := [.int (42 + x1), .ref 41007]) 5 rfl ?_
        obtain ⟨v5, hv5, hD⟩ := Option.bind_eq_some_iff.mp hD
        refine k_ldI rfl rfl hv5 ?_
        obtain ⟨v6, hv6, hD⟩ := Option.bind_eq_some_iff.mp hD
        refine k_runC rfl rfl rfl rfl (t_d_orNone (d := d + 1) hv6) ?_
        cases hD
        exact k_iret rfl rfl
      | false =>
        rw [c11_2_1, cond_false] at hD
        cases c11_2_2 : decide (x2 = 2) with
        | true =>
          rw [c11_2_2, cond_true] at hD
          refine k_tab (tgt := 76) rfl (by rw [of_decide_eq_true c11_2_2]; decide) ?_
          refine k_runB (pc' := 84) (loc' := [(0, .ref 40960), (1, .int x1), (2, .int x2)]) (st' := [.int (48 + x1), .ref 41007]) 5 rfl ?_
          obtain ⟨v7, hv7, hD⟩ := Option.bind_eq_some_iff.mp hD
          refine k_ldI rfl rfl hv7 ?_
          obtain ⟨v8, hv8, hD⟩ := Option.bind_eq_some_iff.mp hD
          refine k_runC rfl rfl rfl rfl (t_d_orNone (d := d + 1) hv8) ?_
          cases hD
          exact k_iret rfl rfl
        | false =>
          rw [c11_2_2, cond_false] at hD
          cases c11_2_3 : decide (x2 = 3) with
          | true =>
            rw [c11_2_3, cond_true] at hD
            refine k_tab (tgt := 89) rfl (by rw [of_decide_eq_true c11_2_3]; decide) ?_
            refine k_runB (pc' := 97) (loc' := [(0, .ref 40960), (1, .int x1), (2, .int x2)]) (st' := [.int (54 + x1), .ref 41007]) 5 rfl ?_
            obtain ⟨v9, hv9, hD⟩ := Option.bind_eq_some_iff.mp hD
            refine k_ldI rfl rfl hv9 ?_
            cases hD
            exact k_iret rfl rfl
          | false =>
            rw [c11_2_3, cond_false] at hD
            cases c11_2_4 : decide (x2 = 4) with
            | true =>
              rw [c11_2_4, cond_true] at hD
              refine k_tab (tgt := 99) rfl (by rw [of_decide_eq_true c11_2_4]; decide) ?_
              refine k_runB (pc' := 107) (loc' := [(0, .ref 40960), (1, .int x1), (2, .int x2)]) (st' := [.int (60 + x1), .ref 41007]) 5 rfl ?_
              obtain ⟨v10, hv10, hD⟩ := Option.bind_eq_some_iff.mp hD
              refine k_ldI rfl rfl hv10 ?_
              cases hD
              exact k_iret rfl rfl
            | false =>
              rw [c11_2_4, cond_false] at hD
              cases c11_2_5 : decide (x2 = 5) with
              | true =>
                rw [c11_2_5, cond_true] at hD
                refine k_tab (tgt := 109) rfl (by rw [of_decide_eq_true c11_2_5]; decide) ?_
                refine k_runB (pc' := 117) (loc' := [(0, .ref 40960), (1, .int x1), (2, .int x2)]) (st' := [.int (66 + x1), .ref 41007]) 5 rfl ?_
                obtain ⟨v11, hv11, hD⟩ := Option.bind_eq_some_iff.mp hD
                refine k_ldI rfl rfl hv11 ?_
                cases hD
                exact k_iret rfl rfl
              | false =>
                rw [c11_2_5, cond_false] at hD
                refine k_tab (tgt := 119) rfl (by rw [if_pos (m_out (lo := 0) (hi := 5) [0, 1, 2, 3, 4, 5] (by decide) (by decide) (List.forall_mem_cons.mpr ⟨of_decide_eq_false c11_2_0, List.forall_mem_cons.mpr ⟨of_decide_eq_false c11_2_1, List.forall_mem_cons.mpr ⟨of_decide_eq_false c11_2_2, List.forall_mem_cons.mpr ⟨of_decide_eq_false c11_2_3, List.forall_mem_cons.mpr ⟨of_decide_eq_false c11_2_4, List.forall_mem_cons.mpr ⟨of_decide_eq_false c11_2_5, fun _ h => absurd h List.not_mem_nil⟩⟩⟩⟩⟩⟩))]; rfl) ?_
                refine k_runB (pc' := 120) (loc' := [(0, .ref 40960), (1, .int x1), (2, .int x2)]) (st' := [.int ((-1))]) 1 rfl ?_
                cases hD
                exact k_iret rfl rfl
  · rw [c5_1, cond_false] at hD
    refine k_runB (pc' := 9) (loc' := [(0, .ref 40960), (1, .int x1), (2, .int x2)]) (st' := [.int ((-1))]) 1 rfl ?_
    cases hD
    exact k_iret rfl rfl
/-- SleepWorkModel.tool(I)I -/
def d_tool (F : Nat → Int32) (A : Nat → Nat → Int32) (J : Nat → Nat → Int64) (x1 : Int32) : Option Int32 :=
  (d_isTool F A J x1).bind fun v1 =>
  cond (g_cnd .eq v1 0)
  (some ((-1)))
  ((m_ld (A 47) 100 (72 + x1)).bind fun v3 =>
  some (v3))
theorem t_d_tool {x1 : Int32} {r : Int32} : d_tool F A J x1 = some r → k_run t lg (d + 2) 206 0 [(0, .ref 40960), (1, .int x1)] [] (m_h c B F A J) (some (.int r), m_h c B F A J) := by
  intro hD
  unfold d_tool at hD
  refine k_runB (pc' := 2) (loc' := [(0, .ref 40960), (1, .int x1)]) (st' := [.int x1, .ref 40960]) 2 rfl ?_
  obtain ⟨v1, hv1, hD⟩ := Option.bind_eq_some_iff.mp hD
  refine k_runC rfl rfl rfl rfl (t_d_isTool (d := d) hv1) ?_
  refine k_if rfl (fun c5_1 => ?_) (fun c5_1 => ?_)
  · rw [c5_1, cond_true] at hD
    refine k_runB (pc' := 21) (loc' := [(0, .ref 40960), (1, .int x1)]) (st' := [.int ((-1))]) 1 rfl ?_
    cases hD
    exact k_iret rfl rfl
  · rw [c5_1, cond_false] at hD
    refine k_runB (pc' := 16) (loc' := [(0, .ref 40960), (1, .int x1)]) (st' := [.int (72 + x1), .ref 41007]) 5 rfl ?_
    obtain ⟨v3, hv3, hD⟩ := Option.bind_eq_some_iff.mp hD
    refine k_ldI rfl rfl hv3 ?_
    refine k_runB (pc' := 21) (loc' := [(0, .ref 40960), (1, .int x1)]) (st' := [.int v3]) 1 rfl ?_
    cases hD
    exact k_iret rfl rfl
/-- SleepWorkModel.way(II)I -/
def d_way (n : Nat) (F : Nat → Int32) (A : Nat → Nat → Int32) (J : Nat → Nat → Int64) (x1 : Int32) (x2 : Int32) : Option (Int32 × (Nat → Int32) × (Nat → Nat → Int32) × (Nat → Nat → Int64)) :=
  (d_isRoom F A J x1).bind fun v1 =>
  cond (g_cnd .eq v1 0)
  (some ((-1), F, A, J))
  ((d_isRoom F A J x2).bind fun v3 =>
  cond (g_cnd .ne v3 0)
  ((d_takes n F A J).bind fun (_, F6, A7, J8) =>
  (d_fillsWays n F6 A7 J8).bind fun (_, F10, A11, J12) =>
  (m_ld (A11 49) 64 ((8 * x1) + x2)).bind fun v13 =>
  cond (g_cnd .ne v13 1000000)
  ((m_ld (A11 49) 64 ((8 * x1) + x2)).bind fun v15 =>
  some (v15, F10, A11, J12))
  (some ((-2), F10, A11, J12)))
  (some ((-1), F, A, J)))
theorem t_d_way {n : Nat} {x1 : Int32} {x2 : Int32} {r : Int32} {F' : Nat → Int32} {A' : Nat → Nat → Int32} {J' : Nat → Nat → Int64} : d_way n F A J x1 x2 = some (r, F', A', J') → k_run t lg (d + 2) 207 0 [(0, .ref 40960), (1, .int x1), (2, .int x2)] [] (m_h c B F A J) (some (.int r), m_h c B F' A' J') := by
  intro hD
  unfold d_way at hD
  refine k_runB (pc' := 2) (loc' := [(0, .ref 40960), (1, .int x1), (2, .int x2)]) (st' := [.int x1, .ref 40960]) 2 rfl ?_
  obtain ⟨v1, hv1, hD⟩ := Option.bind_eq_some_iff.mp hD
  refine k_runC rfl rfl rfl rfl (t_d_isRoom (d := d) hv1) ?_
  refine k_if rfl (fun c5_1 => ?_) (fun c5_1 => ?_)
  · rw [c5_1, cond_true] at hD
    refine k_runB (pc' := 17) (loc' := [(0, .ref 40960), (1, .int x1), (2, .int x2)]) (st' := [.int ((-1))]) 1 rfl ?_
    cases hD
    exact k_iret rfl rfl
  · rw [c5_1, cond_false] at hD
    refine k_runB (pc' := 10) (loc' := [(0, .ref 40960), (1, .int x1), (2, .int x2)]) (st' := [.int x2, .ref 40960]) 2 rfl ?_
    obtain ⟨v3, hv3, hD⟩ := Option.bind_eq_some_iff.mp hD
    refine k_runC rfl rfl rfl rfl (t_d_isRoom (d := d) hv3) ?_
    refine k_if rfl (fun c13_3 => ?_) (fun c13_3 => ?_)
    · rw [c13_3, cond_true] at hD
      refine k_runB (pc' := 19) (loc' := [(0, .ref 40960), (1, .int x1), (2, .int x2)]) (st' := [.ref 40960]) 1 rfl ?_
      obtain ⟨⟨v5, F6, A7, J8⟩, hv5, hD⟩ := Option.bind_eq_some_iff.mp hD
      dsimp only at hD
      refine k_runC rfl rfl rfl rfl (t_d_takes (d := d + 1) hv5) ?_
      refine k_runB (pc' := 23) (loc' := [(0, .ref 40960), (1, .int x1), (2, .int x2)]) (st' := [.ref 40960]) 1 rfl ?_
      obtain ⟨⟨v9, F10, A11, J12⟩, hv9, hD⟩ := Option.bind_eq_some_iff.mp hD
      dsimp only at hD
      refine k_runC rfl rfl rfl rfl (t_d_fillsWays (d := d + 1) hv9) ?_
      refine k_runB (pc' := 36) (loc' := [(0, .ref 40960), (1, .int x1), (2, .int x2)]) (st' := [.int ((8 * x1) + x2), .ref 41009]) 7 rfl ?_
      obtain ⟨v13, hv13, hD⟩ := Option.bind_eq_some_iff.mp hD
      refine k_ldI rfl rfl hv13 ?_
      refine k_runB (pc' := 40) (loc' := [(0, .ref 40960), (1, .int x1), (2, .int x2)]) (st' := [.int 1000000, .int v13]) 1 rfl ?_
      refine k_ic rfl (fun c40_13 => ?_) (fun c40_13 => ?_)
      · rw [c40_13, cond_true] at hD
        refine k_runB (pc' := 58) (loc' := [(0, .ref 40960), (1, .int x1), (2, .int x2)]) (st' := [.int ((8 * x1) + x2), .ref 41009]) 7 rfl ?_
        obtain ⟨v15, hv15, hD⟩ := Option.bind_eq_some_iff.mp hD
        refine k_ldI rfl rfl hv15 ?_
        cases hD
        exact k_iret rfl rfl
      · rw [c40_13, cond_false] at hD
        refine k_runB (pc' := 59) (loc' := [(0, .ref 40960), (1, .int x1), (2, .int x2)]) (st' := [.int ((-2))]) 2 rfl ?_
        cases hD
        exact k_iret rfl rfl
    · rw [c13_3, cond_false] at hD
      refine k_runB (pc' := 17) (loc' := [(0, .ref 40960), (1, .int x1), (2, .int x2)]) (st' := [.int ((-1))]) 1 rfl ?_
      cases hD
      exact k_iret rfl rfl
def d_isLeft_10 (F : Nat → Int32) (A : Nat → Nat → Int32) (J : Nat → Nat → Int64) (x1 : Int32) (x2 : Int32) : Option Int32 :=
    (d_isStep F A J x1 x2).bind fun v3 =>
    cond (g_cnd .eq v3 0)
    (some (0))
    (some (1))
theorem t_d_isLeft_10  {F : Nat → Int32} {A : Nat → Nat → Int32} {J : Nat → Nat → Int64} {x1 : Int32} {x2 : Int32} {w : Int32} : d_isLeft_10 F A J x1 x2 = some w → k_run t lg (d + 3) 208 10 [(0, .ref 40960), (1, .int x1), (2, .int x2)] [] (m_h c B F A J) (some (.int w), m_h c B F A J) := by
  intro hD
  unfold d_isLeft_10 at hD
  refine k_runB (pc' := 13) (loc' := [(0, .ref 40960), (1, .int x1), (2, .int x2)]) (st' := [.int x2, .int x1, .ref 40960]) 3 rfl ?_
  obtain ⟨v3, hv3, hD⟩ := Option.bind_eq_some_iff.mp hD
  refine k_runC rfl rfl rfl rfl (t_d_isStep (d := d) hv3) ?_
  refine k_if rfl (fun c16_3 => ?_) (fun c16_3 => ?_)
  · rw [c16_3, cond_true] at hD
    refine k_runB (pc' := 24) (loc' := [(0, .ref 40960), (1, .int x1), (2, .int x2)]) (st' := [.int 0]) 1 rfl ?_
    cases hD
    exact k_zret rfl rfl (Or.inl rfl)
  · rw [c16_3, cond_false] at hD
    refine k_runB (pc' := 24) (loc' := [(0, .ref 40960), (1, .int x1), (2, .int x2)]) (st' := [.int 1]) 2 rfl ?_
    cases hD
    exact k_zret rfl rfl (Or.inr rfl)
/-- SleepWorkModel.isLeft(II)Z -/
def d_isLeft (F : Nat → Int32) (A : Nat → Nat → Int32) (J : Nat → Nat → Int64) (x1 : Int32) (x2 : Int32) : Option Int32 :=
  cond (g_cnd .ne x1 ((-1)))
  (d_isLeft_10 F A J x1 x2)
  (cond (g_cnd .eq x2 ((-1)))
  (some (1))
  (d_isLeft_10 F A J x1 x2))
theorem t_d_isLeft {x1 : Int32} {x2 : Int32} {r : Int32} : d_isLeft F A J x1 x2 = some r → k_run t lg (d + 3) 208 0 [(0, .ref 40960), (1, .int x1), (2, .int x2)] [] (m_h c B F A J) (some (.int r), m_h c B F A J) := by
  intro hD
  unfold d_isLeft at hD
  refine k_runB (pc' := 2) (loc' := [(0, .ref 40960), (1, .int x1), (2, .int x2)]) (st' := [.int ((-1)), .int x1]) 2 rfl ?_
  refine k_ic rfl (fun c2_0 => ?_) (fun c2_0 => ?_)
  · rw [c2_0, cond_true] at hD
    refine k_wk [0, 1, 2] (loc' := [(0, .ref 40960), (1, .int x1), (2, .int x2)]) rfl rfl ?_
    exact t_d_isLeft_10  hD
  · rw [c2_0, cond_false] at hD
    refine k_runB (pc' := 7) (loc' := [(0, .ref 40960), (1, .int x1), (2, .int x2)]) (st' := [.int ((-1)), .int x2]) 2 rfl ?_
    refine k_ic rfl (fun c7_1 => ?_) (fun c7_1 => ?_)
    · rw [c7_1, cond_true] at hD
      refine k_runB (pc' := 24) (loc' := [(0, .ref 40960), (1, .int x1), (2, .int x2)]) (st' := [.int 1]) 2 rfl ?_
      cases hD
      exact k_zret rfl rfl (Or.inr rfl)
    · rw [c7_1, cond_false] at hD
      refine k_wk [0, 1, 2] (loc' := [(0, .ref 40960), (1, .int x1), (2, .int x2)]) rfl rfl ?_
      exact t_d_isLeft_10  hD
/-- SleepWorkModel.leave(III)Z -/
def d_leave (F : Nat → Int32) (A : Nat → Nat → Int32) (J : Nat → Nat → Int64) (x1 : Int32) (x2 : Int32) (x3 : Int32) : Option (Int32 × (Nat → Int32) × (Nat → Nat → Int32) × (Nat → Nat → Int64)) :=
  (d_isMan F A J x1).bind fun v1 =>
  cond (g_cnd .eq v1 0)
  (some (0, F, A, J))
  ((d_isLeft F A J x2 x3).bind fun v3 =>
  cond (g_cnd .ne v3 0)
  ((m_st A 47 100 (42 + x1) x2).bind fun A5 =>
  (m_st A5 47 100 (48 + x1) x3).bind fun A6 =>
  some (1, F, A6, J))
  (some (0, F, A, J)))
theorem t_d_leave {x1 : Int32} {x2 : Int32} {x3 : Int32} {r : Int32} {F' : Nat → Int32} {A' : Nat → Nat → Int32} {J' : Nat → Nat → Int64} : d_leave F A J x1 x2 x3 = some (r, F', A', J') → k_run t lg (d + 4) 209 0 [(0, .ref 40960), (1, .int x1), (2, .int x2), (3, .int x3)] [] (m_h c B F A J) (some (.int r), m_h c B F' A' J') := by
  intro hD
  unfold d_leave at hD
  refine k_runB (pc' := 2) (loc' := [(0, .ref 40960), (1, .int x1), (2, .int x2), (3, .int x3)]) (st' := [.int x1, .ref 40960]) 2 rfl ?_
  obtain ⟨v1, hv1, hD⟩ := Option.bind_eq_some_iff.mp hD
  refine k_runC rfl rfl rfl rfl (t_d_isMan (d := d + 2) hv1) ?_
  refine k_if rfl (fun c5_1 => ?_) (fun c5_1 => ?_)
  · rw [c5_1, cond_true] at hD
    refine k_runB (pc' := 18) (loc' := [(0, .ref 40960), (1, .int x1), (2, .int x2), (3, .int x3)]) (st' := [.int 0]) 1 rfl ?_
    cases hD
    exact k_zret rfl rfl (Or.inl rfl)
  · rw [c5_1, cond_false] at hD
    refine k_runB (pc' := 11) (loc' := [(0, .ref 40960), (1, .int x1), (2, .int x2), (3, .int x3)]) (st' := [.int x3, .int x2, .ref 40960]) 3 rfl ?_
    obtain ⟨v3, hv3, hD⟩ := Option.bind_eq_some_iff.mp hD
    refine k_runC rfl rfl rfl rfl (t_d_isLeft (d := d) hv3) ?_
    refine k_if rfl (fun c14_3 => ?_) (fun c14_3 => ?_)
    · rw [c14_3, cond_true] at hD
      refine k_runB (pc' := 28) (loc' := [(0, .ref 40960), (1, .int x1), (2, .int x2), (3, .int x3)]) (st' := [.int x2, .int (42 + x1), .ref 41007]) 6 rfl ?_
      obtain ⟨A5, hA5, hD⟩ := Option.bind_eq_some_iff.mp hD
      refine k_stI 47 rfl rfl (fun _ => rfl) hA5 ?_
      refine k_runB (pc' := 38) (loc' := [(0, .ref 40960), (1, .int x1), (2, .int x2), (3, .int x3)]) (st' := [.int x3, .int (48 + x1), .ref 41007]) 6 rfl ?_
      obtain ⟨A6, hA6, hD⟩ := Option.bind_eq_some_iff.mp hD
      refine k_stI 47 rfl rfl (fun _ => rfl) hA6 ?_
      refine k_runB (pc' := 40) (loc' := [(0, .ref 40960), (1, .int x1), (2, .int x2), (3, .int x3)]) (st' := [.int 1]) 1 rfl ?_
      cases hD
      exact k_zret rfl rfl (Or.inr rfl)
    · rw [c14_3, cond_false] at hD
      refine k_runB (pc' := 18) (loc' := [(0, .ref 40960), (1, .int x1), (2, .int x2), (3, .int x3)]) (st' := [.int 0]) 1 rfl ?_
      cases hD
      exact k_zret rfl rfl (Or.inl rfl)
def d_work_42 : Nat → (Nat → Int32) → (Nat → Nat → Int32) → (Nat → Nat → Int64) → Int32 → Option (Int32 × (Nat → Int32) × (Nat → Nat → Int32) × (Nat → Nat → Int64))
  | 0, _, _, _, _ => none
  | n + 1, F, A, J, x3 => cond (g_cnd .ge x3 100)
    (some (1, F, A, J))
    ((m_ld (A 48) 100 x3).bind fun v16 =>
    (m_st A 47 100 x3 v16).bind fun A17 =>
    (d_work_42 n) F A17 J (x3 + 1))
theorem t_d_work_42 {n : Nat}  {F : Nat → Int32} {A : Nat → Nat → Int32} {J : Nat → Nat → Int64} {x3 : Int32} {w : Int32 × (Nat → Int32) × (Nat → Nat → Int32) × (Nat → Nat → Int64)} : d_work_42 n F A J x3 = some w → k_run t lg (d + 3) 210 42 [(0, .ref 40960), (3, .int x3)] [] (m_h c B F A J) (some (.int w.1), m_h c B w.2.1 w.2.2.1 w.2.2.2) := by
  induction n generalizing F A J x3 w with
  | zero => intro hD; cases hD
  | succ n ih =>
    intro hD
    have hK42 : ∀ (F : Nat → Int32) (A : Nat → Nat → Int32) (J : Nat → Nat → Int64) (x3 : Int32) (w : Int32 × (Nat → Int32) × (Nat → Nat → Int32) × (Nat → Nat → Int64)), d_work_42 n F A J x3 = some w → k_run t lg (d + 3) 210 42 [(0, .ref 40960), (3, .int x3)] [] (m_h c B F A J) (some (.int w.1), m_h c B w.2.1 w.2.2.1 w.2.2.2) := fun _ _ _ _ _ h => ih h
    unfold d_work_42 at hD
    refine k_runB (pc' := 45) (loc' := [(0, .ref 40960), (3, .int x3)]) (st' := [.int 100, .int x3]) 2 rfl ?_
    refine k_ic rfl (fun c45_14 => ?_) (fun c45_14 => ?_)
    · rw [c45_14, cond_true] at hD
      refine k_runB (pc' := 67) (loc' := [(0, .ref 40960), (3, .int x3)]) (st' := [.int 1]) 1 rfl ?_
      cases hD
      exact k_zret rfl rfl (Or.inr rfl)
    · rw [c45_14, cond_false] at hD
      refine k_runB (pc' := 58) (loc' := [(0, .ref 40960), (3, .int x3)]) (st' := [.int x3, .ref 41008, .int x3, .ref 41007]) 6 rfl ?_
      obtain ⟨v16, hv16, hD⟩ := Option.bind_eq_some_iff.mp hD
      refine k_ldI rfl rfl hv16 ?_
      obtain ⟨A17, hA17, hD⟩ := Option.bind_eq_some_iff.mp hD
      refine k_stI 47 rfl rfl (fun _ => rfl) hA17 ?_
      refine k_runB (pc' := 42) (loc' := [(0, .ref 40960), (3, .int (x3 + 1))]) (st' := []) 2 rfl ?_
      refine k_wk [0, 3] (loc' := [(0, .ref 40960), (3, .int (x3 + 1))]) rfl rfl ?_
      exact hK42 _ _ _ _ _ hD
/-- SleepWorkModel.work(II)Z -/
def d_work (n : Nat) (F : Nat → Int32) (A : Nat → Nat → Int32) (J : Nat → Nat → Int64) (x1 : Int32) (x2 : Int32) : Option (Int32 × (Nat → Int32) × (Nat → Nat → Int32) × (Nat → Nat → Int64)) :=
  (d_isStep F A J x1 x2).bind fun v1 =>
  cond (g_cnd .eq v1 0)
  (some (0, F, A, J))
  ((m_ld (A 47) 100 x1).bind fun v3 =>
  cond (g_cnd .ne v3 0)
  ((d_takes n F A J).bind fun (_, F6, A7, J8) =>
  (m_ld (A7 48) 100 x1).bind fun v9 =>
  (m_st A7 48 100 x1 (v9 - 1)).bind fun A10 =>
  (d_does F6 A10 J8 x1 x2).bind fun (_, F12, A13, J14) =>
  d_work_42 n F12 A13 J14 0)
  (some (0, F, A, J)))
theorem t_d_work {n : Nat} {x1 : Int32} {x2 : Int32} {r : Int32} {F' : Nat → Int32} {A' : Nat → Nat → Int32} {J' : Nat → Nat → Int64} : d_work n F A J x1 x2 = some (r, F', A', J') → k_run t lg (d + 3) 210 0 [(0, .ref 40960), (1, .int x1), (2, .int x2)] [] (m_h c B F A J) (some (.int r), m_h c B F' A' J') := by
  intro hD
  unfold d_work at hD
  refine k_runB (pc' := 3) (loc' := [(0, .ref 40960), (1, .int x1), (2, .int x2)]) (st' := [.int x2, .int x1, .ref 40960]) 3 rfl ?_
  obtain ⟨v1, hv1, hD⟩ := Option.bind_eq_some_iff.mp hD
  refine k_runC rfl rfl rfl rfl (t_d_isStep (d := d) hv1) ?_
  refine k_if rfl (fun c6_1 => ?_) (fun c6_1 => ?_)
  · rw [c6_1, cond_true] at hD
    refine k_runB (pc' := 19) (loc' := [(0, .ref 40960), (1, .int x1), (2, .int x2)]) (st' := [.int 0]) 1 rfl ?_
    cases hD
    exact k_zret rfl rfl (Or.inl rfl)
  · rw [c6_1, cond_false] at hD
    refine k_runB (pc' := 14) (loc' := [(0, .ref 40960), (1, .int x1), (2, .int x2)]) (st' := [.int x1, .ref 41007]) 3 rfl ?_
    obtain ⟨v3, hv3, hD⟩ := Option.bind_eq_some_iff.mp hD
    refine k_ldI rfl rfl hv3 ?_
    refine k_if rfl (fun c15_3 => ?_) (fun c15_3 => ?_)
    · rw [c15_3, cond_true] at hD
      refine k_runB (pc' := 21) (loc' := [(0, .ref 40960), (1, .int x1), (2, .int x2)]) (st' := [.ref 40960]) 1 rfl ?_
      obtain ⟨⟨v5, F6, A7, J8⟩, hv5, hD⟩ := Option.bind_eq_some_iff.mp hD
      dsimp only at hD
      refine k_runC rfl rfl rfl rfl (t_d_takes (d := d + 2) hv5) ?_
      refine k_runB (pc' := 30) (loc' := [(0, .ref 40960), (1, .int x1), (2, .int x2)]) (st' := [.int x1, .ref 41008, .int x1, .ref 41008]) 4 rfl ?_
      obtain ⟨v9, hv9, hD⟩ := Option.bind_eq_some_iff.mp hD
      refine k_ldI rfl rfl hv9 ?_
      refine k_runB (pc' := 33) (loc' := [(0, .ref 40960), (1, .int x1), (2, .int x2)]) (st' := [.int (v9 - 1), .int x1, .ref 41008]) 2 rfl ?_
      obtain ⟨A10, hA10, hD⟩ := Option.bind_eq_some_iff.mp hD
      refine k_stI 48 rfl rfl (fun _ => rfl) hA10 ?_
      refine k_runB (pc' := 37) (loc' := [(0, .ref 40960), (1, .int x1), (2, .int x2)]) (st' := [.int x2, .int x1, .ref 40960]) 3 rfl ?_
      obtain ⟨⟨v11, F12, A13, J14⟩, hv11, hD⟩ := Option.bind_eq_some_iff.mp hD
      dsimp only at hD
      refine k_runC rfl rfl rfl rfl (t_d_does (d := d + 1) hv11) ?_
      refine k_runB (pc' := 42) (loc' := [(0, .ref 40960), (1, .int x1), (2, .int x2), (3, .int 0)]) (st' := []) 2 rfl ?_
      refine k_wk [0, 3] (loc' := [(0, .ref 40960), (3, .int 0)]) rfl rfl ?_
      exact t_d_work_42  hD
    · rw [c15_3, cond_false] at hD
      refine k_runB (pc' := 19) (loc' := [(0, .ref 40960), (1, .int x1), (2, .int x2)]) (st' := [.int 0]) 1 rfl ?_
      cases hD
      exact k_zret rfl rfl (Or.inl rfl)
/-- SleepWorkModel.lay(II)Z -/
def d_lay (F : Nat → Int32) (A : Nat → Nat → Int32) (J : Nat → Nat → Int64) (x1 : Int32) (x2 : Int32) : Option (Int32 × (Nat → Int32) × (Nat → Nat → Int32) × (Nat → Nat → Int64)) :=
  (d_isTool F A J x1).bind fun v1 =>
  cond (g_cnd .eq v1 0)
  (some (0, F, A, J))
  ((d_isRoom F A J x2).bind fun v3 =>
  cond (g_cnd .ne v3 0)
  ((m_st A 47 100 (72 + x1) x2).bind fun A5 =>
  some (1, F, A5, J))
  (some (0, F, A, J)))
theorem t_d_lay {x1 : Int32} {x2 : Int32} {r : Int32} {F' : Nat → Int32} {A' : Nat → Nat → Int32} {J' : Nat → Nat → Int64} : d_lay F A J x1 x2 = some (r, F', A', J') → k_run t lg (d + 2) 211 0 [(0, .ref 40960), (1, .int x1), (2, .int x2)] [] (m_h c B F A J) (some (.int r), m_h c B F' A' J') := by
  intro hD
  unfold d_lay at hD
  refine k_runB (pc' := 2) (loc' := [(0, .ref 40960), (1, .int x1), (2, .int x2)]) (st' := [.int x1, .ref 40960]) 2 rfl ?_
  obtain ⟨v1, hv1, hD⟩ := Option.bind_eq_some_iff.mp hD
  refine k_runC rfl rfl rfl rfl (t_d_isTool (d := d) hv1) ?_
  refine k_if rfl (fun c5_1 => ?_) (fun c5_1 => ?_)
  · rw [c5_1, cond_true] at hD
    refine k_runB (pc' := 17) (loc' := [(0, .ref 40960), (1, .int x1), (2, .int x2)]) (st' := [.int 0]) 1 rfl ?_
    cases hD
    exact k_zret rfl rfl (Or.inl rfl)
  · rw [c5_1, cond_false] at hD
    refine k_runB (pc' := 10) (loc' := [(0, .ref 40960), (1, .int x1), (2, .int x2)]) (st' := [.int x2, .ref 40960]) 2 rfl ?_
    obtain ⟨v3, hv3, hD⟩ := Option.bind_eq_some_iff.mp hD
    refine k_runC rfl rfl rfl rfl (t_d_isRoom (d := d) hv3) ?_
    refine k_if rfl (fun c13_3 => ?_) (fun c13_3 => ?_)
    · rw [c13_3, cond_true] at hD
      refine k_runB (pc' := 27) (loc' := [(0, .ref 40960), (1, .int x1), (2, .int x2)]) (st' := [.int x2, .int (72 + x1), .ref 41007]) 6 rfl ?_
      obtain ⟨A5, hA5, hD⟩ := Option.bind_eq_some_iff.mp hD
      refine k_stI 47 rfl rfl (fun _ => rfl) hA5 ?_
      refine k_runB (pc' := 29) (loc' := [(0, .ref 40960), (1, .int x1), (2, .int x2)]) (st' := [.int 1]) 1 rfl ?_
      cases hD
      exact k_zret rfl rfl (Or.inr rfl)
    · rw [c13_3, cond_false] at hD
      refine k_runB (pc' := 17) (loc' := [(0, .ref 40960), (1, .int x1), (2, .int x2)]) (st' := [.int 0]) 1 rfl ?_
      cases hD
      exact k_zret rfl rfl (Or.inl rfl)
/-- SleepWorkModel.give(II)Z -/
def d_give (F : Nat → Int32) (A : Nat → Nat → Int32) (J : Nat → Nat → Int64) (x1 : Int32) (x2 : Int32) : Option (Int32 × (Nat → Int32) × (Nat → Nat → Int32) × (Nat → Nat → Int64)) :=
  (d_isTool F A J x1).bind fun v1 =>
  cond (g_cnd .eq v1 0)
  (some (0, F, A, J))
  ((d_isMan F A J x2).bind fun v3 =>
  cond (g_cnd .ne v3 0)
  ((m_st A 47 100 (72 + x1) (100 + x2)).bind fun A5 =>
  some (1, F, A5, J))
  (some (0, F, A, J)))
theorem t_d_give {x1 : Int32} {x2 : Int32} {r : Int32} {F' : Nat → Int32} {A' : Nat → Nat → Int32} {J' : Nat → Nat → Int64} : d_give F A J x1 x2 = some (r, F', A', J') → k_run t lg (d + 2) 212 0 [(0, .ref 40960), (1, .int x1), (2, .int x2)] [] (m_h c B F A J) (some (.int r), m_h c B F' A' J') := by
  intro hD
  unfold d_give at hD
  refine k_runB (pc' := 2) (loc' := [(0, .ref 40960), (1, .int x1), (2, .int x2)]) (st' := [.int x1, .ref 40960]) 2 rfl ?_
  obtain ⟨v1, hv1, hD⟩ := Option.bind_eq_some_iff.mp hD
  refine k_runC rfl rfl rfl rfl (t_d_isTool (d := d) hv1) ?_
  refine k_if rfl (fun c5_1 => ?_) (fun c5_1 => ?_)
  · rw [c5_1, cond_true] at hD
    refine k_runB (pc' := 17) (loc' := [(0, .ref 40960), (1, .int x1), (2, .int x2)]) (st' := [.int 0]) 1 rfl ?_
    cases hD
    exact k_zret rfl rfl (Or.inl rfl)
  · rw [c5_1, cond_false] at hD
    refine k_runB (pc' := 10) (loc' := [(0, .ref 40960), (1, .int x1), (2, .int x2)]) (st' := [.int x2, .ref 40960]) 2 rfl ?_
    obtain ⟨v3, hv3, hD⟩ := Option.bind_eq_some_iff.mp hD
    refine k_runC rfl rfl rfl rfl (t_d_isMan (d := d) hv3) ?_
    refine k_if rfl (fun c13_3 => ?_) (fun c13_3 => ?_)
    · rw [c13_3, cond_true] at hD
      refine k_runB (pc' := 30) (loc' := [(0, .ref 40960), (1, .int x1), (2, .int x2)]) (st' := [.int (100 + x2), .int (72 + x1), .ref 41007]) 8 rfl ?_
      obtain ⟨A5, hA5, hD⟩ := Option.bind_eq_some_iff.mp hD
      refine k_stI 47 rfl rfl (fun _ => rfl) hA5 ?_
      refine k_runB (pc' := 32) (loc' := [(0, .ref 40960), (1, .int x1), (2, .int x2)]) (st' := [.int 1]) 1 rfl ?_
      cases hD
      exact k_zret rfl rfl (Or.inr rfl)
    · rw [c13_3, cond_false] at hD
      refine k_runB (pc' := 17) (loc' := [(0, .ref 40960), (1, .int x1), (2, .int x2)]) (st' := [.int 0]) 1 rfl ?_
      cases hD
      exact k_zret rfl rfl (Or.inl rfl)
def d_bar_58 (F : Nat → Int32) (A : Nat → Nat → Int32) (J : Nat → Nat → Int64) (s1 : Int32) (s2 : Int32) : Option (Int32 × (Nat → Int32) × (Nat → Nat → Int32) × (Nat → Nat → Int64)) :=
    (m_st A 47 100 s1 s2).bind fun A7 =>
    some (1, F, A7, J)
theorem t_d_bar_58  {F : Nat → Int32} {A : Nat → Nat → Int32} {J : Nat → Nat → Int64} {s1 : Int32} {s2 : Int32} {w : Int32 × (Nat → Int32) × (Nat → Nat → Int32) × (Nat → Nat → Int64)} : d_bar_58 F A J s1 s2 = some w → k_run t lg (d + 1) 213 58 [(0, .ref 40960)] [.int s2, .int s1, .ref 41007] (m_h c B F A J) (some (.int w.1), m_h c B w.2.1 w.2.2.1 w.2.2.2) := by
  intro hD
  unfold d_bar_58 at hD
  obtain ⟨A7, hA7, hD⟩ := Option.bind_eq_some_iff.mp hD
  refine k_stI 47 rfl rfl (fun _ => rfl) hA7 ?_
  refine k_runB (pc' := 60) (loc' := [(0, .ref 40960)]) (st' := [.int 1]) 1 rfl ?_
  cases hD
  exact k_zret rfl rfl (Or.inr rfl)
/-- SleepWorkModel.bar(IZ)Z -/
def d_bar (F : Nat → Int32) (A : Nat → Nat → Int32) (J : Nat → Nat → Int64) (x1 : Int32) (x2 : Int32) : Option (Int32 × (Nat → Int32) × (Nat → Nat → Int32) × (Nat → Nat → Int64)) :=
  (m_ld (A 12) 2 (F 18)).bind fun v1 =>
  (d_in x1 0 (v1 - 1)).bind fun v2 =>
  cond (g_cnd .ne v2 0)
  (cond (g_cnd .eq x2 0)
  ((m_ld (A 47) 100 78).bind fun v5 =>
  d_bar_58 F A J 78 (v5 &&& ((1 <<< (x1 &&& 31)) ^^^ ((-1)))))
  ((m_ld (A 47) 100 78).bind fun v6 =>
  d_bar_58 F A J 78 (v6 ||| (1 <<< (x1 &&& 31)))))
  (some (0, F, A, J))
theorem t_d_bar {x1 : Int32} {x2 : Int32} {r : Int32} {F' : Nat → Int32} {A' : Nat → Nat → Int32} {J' : Nat → Nat → Int64} : d_bar F A J x1 x2 = some (r, F', A', J') → k_run t lg (d + 1) 213 0 [(0, .ref 40960), (1, .int x1), (2, .int x2)] [] (m_h c B F A J) (some (.int r), m_h c B F' A' J') := by
  intro hD
  unfold d_bar at hD
  refine k_runB (pc' := 10) (loc' := [(0, .ref 40960), (1, .int x1), (2, .int x2)]) (st' := [.int (F 18), .ref 40972, .int 0, .int x1]) 6 rfl ?_
  obtain ⟨v1, hv1, hD⟩ := Option.bind_eq_some_iff.mp hD
  refine k_ldI rfl rfl hv1 ?_
  refine k_runB (pc' := 13) (loc' := [(0, .ref 40960), (1, .int x1), (2, .int x2)]) (st' := [.int (v1 - 1), .int 0, .int x1]) 2 rfl ?_
  obtain ⟨v2, hv2, hD⟩ := Option.bind_eq_some_iff.mp hD
  refine k_runC rfl rfl rfl rfl (t_d_in (d := d) hv2) ?_
  refine k_if rfl (fun c16_2 => ?_) (fun c16_2 => ?_)
  · rw [c16_2, cond_true] at hD
    refine k_runB (pc' := 28) (loc' := [(0, .ref 40960), (1, .int x1), (2, .int x2)]) (st' := [.int x2, .int 78, .ref 41007]) 4 rfl ?_
    refine k_if rfl (fun c28_3 => ?_) (fun c28_3 => ?_)
    · rw [c28_3, cond_true] at hD
      refine k_runB (pc' := 51) (loc' := [(0, .ref 40960), (1, .int x1), (2, .int x2)]) (st' := [.int 78, .ref 41007, .int 78, .ref 41007]) 3 rfl ?_
      obtain ⟨v5, hv5, hD⟩ := Option.bind_eq_some_iff.mp hD
      refine k_ldI rfl rfl hv5 ?_
      refine k_runB (pc' := 58) (loc' := [(0, .ref 40960), (1, .int x1), (2, .int x2)]) (st' := [.int (v5 &&& ((1 <<< (x1 &&& 31)) ^^^ ((-1)))), .int 78, .ref 41007]) 6 rfl ?_
      refine k_wk [0] (loc' := [(0, .ref 40960)]) rfl rfl ?_
      exact t_d_bar_58  hD
    · rw [c28_3, cond_false] at hD
      refine k_runB (pc' := 37) (loc' := [(0, .ref 40960), (1, .int x1), (2, .int x2)]) (st' := [.int 78, .ref 41007, .int 78, .ref 41007]) 3 rfl ?_
      obtain ⟨v6, hv6, hD⟩ := Option.bind_eq_some_iff.mp hD
      refine k_ldI rfl rfl hv6 ?_
      refine k_runB (pc' := 58) (loc' := [(0, .ref 40960), (1, .int x1), (2, .int x2)]) (st' := [.int (v6 ||| (1 <<< (x1 &&& 31))), .int 78, .ref 41007]) 5 rfl ?_
      refine k_wk [0] (loc' := [(0, .ref 40960)]) rfl rfl ?_
      exact t_d_bar_58  hD
  · rw [c16_2, cond_false] at hD
    refine k_runB (pc' := 20) (loc' := [(0, .ref 40960), (1, .int x1), (2, .int x2)]) (st' := [.int 0]) 1 rfl ?_
    cases hD
    exact k_zret rfl rfl (Or.inl rfl)
def d_night_104 : Nat → (Nat → Int32) → (Nat → Nat → Int32) → (Nat → Nat → Int64) → Int32 → Int32 → Option (Int32 × (Nat → Int32) × (Nat → Nat → Int32) × (Nat → Nat → Int64))
  | 0, _, _, _, _, _ => none
  | n + 1, F, A, J, x1, x2 => cond (g_cnd .ge x2 100)
    (some (x1, F, A, J))
    ((m_ld (A 48) 100 x2).bind fun v19 =>
    (m_st A 47 100 x2 v19).bind fun A20 =>
    (d_night_104 n) F A20 J x1 (x2 + 1))
theorem t_d_night_104 (ht : ∀ k, t.1 12 k = k_ty 12 k) {n : Nat}  {F : Nat → Int32} {A : Nat → Nat → Int32} {J : Nat → Nat → Int64} {x1 : Int32} {x2 : Int32} {w : Int32 × (Nat → Int32) × (Nat → Nat → Int32) × (Nat → Nat → Int64)} : d_night_104 n F A J x1 x2 = some w → k_run t lg (d + 5) 214 104 [(0, .ref 40960), (1, .int x1), (2, .int x2)] [] (m_h c B F A J) (some (.int w.1), m_h c B w.2.1 w.2.2.1 w.2.2.2) := by
  induction n generalizing F A J x1 x2 w with
  | zero => intro hD; cases hD
  | succ n ih =>
    intro hD
    have hK104 : ∀ (F : Nat → Int32) (A : Nat → Nat → Int32) (J : Nat → Nat → Int64) (x1 : Int32) (x2 : Int32) (w : Int32 × (Nat → Int32) × (Nat → Nat → Int32) × (Nat → Nat → Int64)), d_night_104 n F A J x1 x2 = some w → k_run t lg (d + 5) 214 104 [(0, .ref 40960), (1, .int x1), (2, .int x2)] [] (m_h c B F A J) (some (.int w.1), m_h c B w.2.1 w.2.2.1 w.2.2.2) := fun _ _ _ _ _ _ h => ih h
    unfold d_night_104 at hD
    refine k_runB (pc' := 107) (loc' := [(0, .ref 40960), (1, .int x1), (2, .int x2)]) (st' := [.int 100, .int x2]) 2 rfl ?_
    refine k_ic rfl (fun c107_17 => ?_) (fun c107_17 => ?_)
    · rw [c107_17, cond_true] at hD
      refine k_runB (pc' := 129) (loc' := [(0, .ref 40960), (1, .int x1), (2, .int x2)]) (st' := [.int x1]) 1 rfl ?_
      cases hD
      exact k_iret rfl rfl
    · rw [c107_17, cond_false] at hD
      refine k_runB (pc' := 120) (loc' := [(0, .ref 40960), (1, .int x1), (2, .int x2)]) (st' := [.int x2, .ref 41008, .int x2, .ref 41007]) 6 rfl ?_
      obtain ⟨v19, hv19, hD⟩ := Option.bind_eq_some_iff.mp hD
      refine k_ldI rfl rfl hv19 ?_
      obtain ⟨A20, hA20, hD⟩ := Option.bind_eq_some_iff.mp hD
      refine k_stI 47 rfl rfl (fun _ => rfl) hA20 ?_
      refine k_runB (pc' := 104) (loc' := [(0, .ref 40960), (1, .int x1), (2, .int (x2 + 1))]) (st' := []) 2 rfl ?_
      refine k_wk [0, 1, 2] (loc' := [(0, .ref 40960), (1, .int x1), (2, .int (x2 + 1))]) rfl rfl ?_
      exact hK104 _ _ _ _ _ _ hD
def d_night_51 : Nat → (Nat → Int32) → (Nat → Nat → Int32) → (Nat → Nat → Int64) → Int32 → Option (Int32 × (Nat → Int32) × (Nat → Nat → Int32) × (Nat → Nat → Int64))
  | 0, _, _, _, _ => none
  | n + 1, F, A, J, x1 => cond (g_cnd .ge x1 100)
    ((m_pf F 74 ((F 74) + 1)).bind fun F7 =>
    (d_takes n F7 A J).bind fun (_, F9, A10, J11) =>
    (d_wholeNight n F9 A10 J11).bind fun (v12, F13, A14, J15) =>
    d_night_104 n F13 A14 J15 v12 0)
    ((m_ld (A 47) 100 x1).bind fun v16 =>
    (m_st A 57 2000 ((100 * (F 74)) + x1) v16).bind fun A17 =>
    (d_night_51 n) F A17 J (x1 + 1))
theorem t_d_night_51 (ht : ∀ k, t.1 12 k = k_ty 12 k) {n : Nat}  {F : Nat → Int32} {A : Nat → Nat → Int32} {J : Nat → Nat → Int64} {x1 : Int32} {w : Int32 × (Nat → Int32) × (Nat → Nat → Int32) × (Nat → Nat → Int64)} : d_night_51 n F A J x1 = some w → k_run t lg (d + 5) 214 51 [(0, .ref 40960), (1, .int x1)] [] (m_h c B F A J) (some (.int w.1), m_h c B w.2.1 w.2.2.1 w.2.2.2) := by
  induction n generalizing F A J x1 w with
  | zero => intro hD; cases hD
  | succ n ih =>
    intro hD
    have hK51 : ∀ (F : Nat → Int32) (A : Nat → Nat → Int32) (J : Nat → Nat → Int64) (x1 : Int32) (w : Int32 × (Nat → Int32) × (Nat → Nat → Int32) × (Nat → Nat → Int64)), d_night_51 n F A J x1 = some w → k_run t lg (d + 5) 214 51 [(0, .ref 40960), (1, .int x1)] [] (m_h c B F A J) (some (.int w.1), m_h c B w.2.1 w.2.2.1 w.2.2.2) := fun _ _ _ _ _ h => ih h
    unfold d_night_51 at hD
    refine k_runB (pc' := 54) (loc' := [(0, .ref 40960), (1, .int x1)]) (st' := [.int 100, .int x1]) 2 rfl ?_
    refine k_ic rfl (fun c54_5 => ?_) (fun c54_5 => ?_)
    · rw [c54_5, cond_true] at hD
      refine k_runB (pc' := 90) (loc' := [(0, .ref 40960), (1, .int x1)]) (st' := [.int ((F 74) + 1), .ref 40960]) 5 rfl ?_
      obtain ⟨F7, hF7, hD⟩ := Option.bind_eq_some_iff.mp hD
      refine k_ptI rfl (ht 74) rfl rfl hF7 ?_
      refine k_runB (pc' := 94) (loc' := [(0, .ref 40960), (1, .int x1)]) (st' := [.ref 40960]) 1 rfl ?_
      obtain ⟨⟨v8, F9, A10, J11⟩, hv8, hD⟩ := Option.bind_eq_some_iff.mp hD
      dsimp only at hD
      refine k_runC rfl rfl rfl rfl (t_d_takes (d := d + 4) hv8) ?_
      refine k_runB (pc' := 98) (loc' := [(0, .ref 40960), (1, .int x1)]) (st' := [.ref 40960]) 1 rfl ?_
      obtain ⟨⟨v12, F13, A14, J15⟩, hv12, hD⟩ := Option.bind_eq_some_iff.mp hD
      dsimp only at hD
      refine k_runC rfl rfl rfl rfl (t_d_wholeNight (d := d) ht hv12) ?_
      refine k_runB (pc' := 104) (loc' := [(0, .ref 40960), (1, .int v12), (2, .int 0)]) (st' := []) 3 rfl ?_
      refine k_wk [0, 1, 2] (loc' := [(0, .ref 40960), (1, .int v12), (2, .int 0)]) rfl rfl ?_
      exact t_d_night_104 ht  hD
    · rw [c54_5, cond_false] at hD
      refine k_runB (pc' := 75) (loc' := [(0, .ref 40960), (1, .int x1)]) (st' := [.int x1, .ref 41007, .int ((100 * (F 74)) + x1), .ref 41017]) 11 rfl ?_
      obtain ⟨v16, hv16, hD⟩ := Option.bind_eq_some_iff.mp hD
      refine k_ldI rfl rfl hv16 ?_
      obtain ⟨A17, hA17, hD⟩ := Option.bind_eq_some_iff.mp hD
      refine k_stI 57 rfl rfl (fun _ => rfl) hA17 ?_
      refine k_runB (pc' := 51) (loc' := [(0, .ref 40960), (1, .int (x1 + 1))]) (st' := []) 2 rfl ?_
      refine k_wk [0, 1] (loc' := [(0, .ref 40960), (1, .int (x1 + 1))]) rfl rfl ?_
      exact hK51 _ _ _ _ _ hD
def d_night_49 (n : Nat) (F : Nat → Int32) (A : Nat → Nat → Int32) (J : Nat → Nat → Int64) : Option (Int32 × (Nat → Int32) × (Nat → Nat → Int32) × (Nat → Nat → Int64)) :=
    d_night_51 n F A J 0
theorem t_d_night_49 (ht : ∀ k, t.1 12 k = k_ty 12 k) {n : Nat}  {F : Nat → Int32} {A : Nat → Nat → Int32} {J : Nat → Nat → Int64}  {w : Int32 × (Nat → Int32) × (Nat → Nat → Int32) × (Nat → Nat → Int64)} : d_night_49 n F A J = some w → k_run t lg (d + 5) 214 49 [(0, .ref 40960)] [] (m_h c B F A J) (some (.int w.1), m_h c B w.2.1 w.2.2.1 w.2.2.2) := by
  intro hD
  unfold d_night_49 at hD
  refine k_runB (pc' := 51) (loc' := [(0, .ref 40960), (1, .int 0)]) (st' := []) 2 rfl ?_
  refine k_wk [0, 1] (loc' := [(0, .ref 40960), (1, .int 0)]) rfl rfl ?_
  exact t_d_night_51 ht  hD
def d_night_11 : Nat → (Nat → Int32) → (Nat → Nat → Int32) → (Nat → Nat → Int64) → Int32 → Option (Int32 × (Nat → Int32) × (Nat → Nat → Int32) × (Nat → Nat → Int64))
  | 0, _, _, _, _ => none
  | n + 1, F, A, J, x1 => cond (g_cnd .ge x1 1900)
    ((m_pf F 74 ((F 74) - 1)).bind fun F3 =>
    d_night_51 n F3 A J 0)
    ((m_ld (A 57) 2000 (x1 + 100)).bind fun v4 =>
    (m_st A 57 2000 x1 v4).bind fun A5 =>
    (d_night_11 n) F A5 J (x1 + 1))
theorem t_d_night_11 (ht : ∀ k, t.1 12 k = k_ty 12 k) {n : Nat}  {F : Nat → Int32} {A : Nat → Nat → Int32} {J : Nat → Nat → Int64} {x1 : Int32} {w : Int32 × (Nat → Int32) × (Nat → Nat → Int32) × (Nat → Nat → Int64)} : d_night_11 n F A J x1 = some w → k_run t lg (d + 5) 214 11 [(0, .ref 40960), (1, .int x1)] [] (m_h c B F A J) (some (.int w.1), m_h c B w.2.1 w.2.2.1 w.2.2.2) := by
  induction n generalizing F A J x1 w with
  | zero => intro hD; cases hD
  | succ n ih =>
    intro hD
    have hK11 : ∀ (F : Nat → Int32) (A : Nat → Nat → Int32) (J : Nat → Nat → Int64) (x1 : Int32) (w : Int32 × (Nat → Int32) × (Nat → Nat → Int32) × (Nat → Nat → Int64)), d_night_11 n F A J x1 = some w → k_run t lg (d + 5) 214 11 [(0, .ref 40960), (1, .int x1)] [] (m_h c B F A J) (some (.int w.1), m_h c B w.2.1 w.2.2.1 w.2.2.2) := fun _ _ _ _ _ h => ih h
    unfold d_night_11 at hD
    refine k_runB (pc' := 15) (loc' := [(0, .ref 40960), (1, .int x1)]) (st' := [.int 1900, .int x1]) 2 rfl ?_
    refine k_ic rfl (fun c15_1 => ?_) (fun c15_1 => ?_)
    · rw [c15_1, cond_true] at hD
      refine k_runB (pc' := 46) (loc' := [(0, .ref 40960), (1, .int x1)]) (st' := [.int ((F 74) - 1), .ref 40960]) 5 rfl ?_
      obtain ⟨F3, hF3, hD⟩ := Option.bind_eq_some_iff.mp hD
      refine k_ptI rfl (ht 74) rfl rfl hF3 ?_
      refine k_runB (pc' := 51) (loc' := [(0, .ref 40960), (1, .int 0)]) (st' := []) 2 rfl ?_
      refine k_wk [0, 1] (loc' := [(0, .ref 40960), (1, .int 0)]) rfl rfl ?_
      exact t_d_night_51 ht  hD
    · rw [c15_1, cond_false] at hD
      refine k_runB (pc' := 31) (loc' := [(0, .ref 40960), (1, .int x1)]) (st' := [.int (x1 + 100), .ref 41017, .int x1, .ref 41017]) 8 rfl ?_
      obtain ⟨v4, hv4, hD⟩ := Option.bind_eq_some_iff.mp hD
      refine k_ldI rfl rfl hv4 ?_
      obtain ⟨A5, hA5, hD⟩ := Option.bind_eq_some_iff.mp hD
      refine k_stI 57 rfl rfl (fun _ => rfl) hA5 ?_
      refine k_runB (pc' := 11) (loc' := [(0, .ref 40960), (1, .int (x1 + 1))]) (st' := []) 2 rfl ?_
      refine k_wk [0, 1] (loc' := [(0, .ref 40960), (1, .int (x1 + 1))]) rfl rfl ?_
      exact hK11 _ _ _ _ _ hD
/-- SleepWorkModel.night()I -/
def d_night (n : Nat) (F : Nat → Int32) (A : Nat → Nat → Int32) (J : Nat → Nat → Int64) : Option (Int32 × (Nat → Int32) × (Nat → Nat → Int32) × (Nat → Nat → Int64)) :=
  cond (g_cnd .ne (F 74) 20)
  (d_night_49 n F A J)
  (d_night_11 n F A J 0)
theorem t_d_night (ht : ∀ k, t.1 12 k = k_ty 12 k) {n : Nat} {r : Int32} {F' : Nat → Int32} {A' : Nat → Nat → Int32} {J' : Nat → Nat → Int64} : d_night n F A J = some (r, F', A', J') → k_run t lg (d + 5) 214 0 [(0, .ref 40960)] [] (m_h c B F A J) (some (.int r), m_h c B F' A' J') := by
  intro hD
  unfold d_night at hD
  refine k_runB (pc' := 6) (loc' := [(0, .ref 40960)]) (st' := [.int 20, .int (F 74)]) 3 rfl ?_
  refine k_ic rfl (fun c6_0 => ?_) (fun c6_0 => ?_)
  · rw [c6_0, cond_true] at hD
    refine k_wk [0] (loc' := [(0, .ref 40960)]) rfl rfl ?_
    exact t_d_night_49 ht  hD
  · rw [c6_0, cond_false] at hD
    refine k_runB (pc' := 11) (loc' := [(0, .ref 40960), (1, .int 0)]) (st' := []) 2 rfl ?_
    refine k_wk [0, 1] (loc' := [(0, .ref 40960), (1, .int 0)]) rfl rfl ?_
    exact t_d_night_11 ht  hD
def d_undo_21 : Nat → (Nat → Int32) → (Nat → Nat → Int32) → (Nat → Nat → Int64) → Int32 → Option (Int32 × (Nat → Int32) × (Nat → Nat → Int32) × (Nat → Nat → Int64))
  | 0, _, _, _, _ => none
  | n + 1, F, A, J, x1 => cond (g_cnd .ge x1 100)
    (some (1, F, A, J))
    ((m_ld (A 57) 2000 ((100 * (F 74)) + x1)).bind fun v4 =>
    (m_st A 47 100 x1 v4).bind fun A5 =>
    (d_undo_21 n) F A5 J (x1 + 1))
theorem t_d_undo_21 (ht : ∀ k, t.1 12 k = k_ty 12 k) {n : Nat}  {F : Nat → Int32} {A : Nat → Nat → Int32} {J : Nat → Nat → Int64} {x1 : Int32} {w : Int32 × (Nat → Int32) × (Nat → Nat → Int32) × (Nat → Nat → Int64)} : d_undo_21 n F A J x1 = some w → k_run t lg (d) 215 21 [(0, .ref 40960), (1, .int x1)] [] (m_h c B F A J) (some (.int w.1), m_h c B w.2.1 w.2.2.1 w.2.2.2) := by
  induction n generalizing F A J x1 w with
  | zero => intro hD; cases hD
  | succ n ih =>
    intro hD
    have hK21 : ∀ (F : Nat → Int32) (A : Nat → Nat → Int32) (J : Nat → Nat → Int64) (x1 : Int32) (w : Int32 × (Nat → Int32) × (Nat → Nat → Int32) × (Nat → Nat → Int64)), d_undo_21 n F A J x1 = some w → k_run t lg (d) 215 21 [(0, .ref 40960), (1, .int x1)] [] (m_h c B F A J) (some (.int w.1), m_h c B w.2.1 w.2.2.1 w.2.2.2) := fun _ _ _ _ _ h => ih h
    unfold d_undo_21 at hD
    refine k_runB (pc' := 24) (loc' := [(0, .ref 40960), (1, .int x1)]) (st' := [.int 100, .int x1]) 2 rfl ?_
    refine k_ic rfl (fun c24_2 => ?_) (fun c24_2 => ?_)
    · rw [c24_2, cond_true] at hD
      refine k_runB (pc' := 54) (loc' := [(0, .ref 40960), (1, .int x1)]) (st' := [.int 1]) 1 rfl ?_
      cases hD
      exact k_zret rfl rfl (Or.inr rfl)
    · rw [c24_2, cond_false] at hD
      refine k_runB (pc' := 45) (loc' := [(0, .ref 40960), (1, .int x1)]) (st' := [.int ((100 * (F 74)) + x1), .ref 41017, .int x1, .ref 41007]) 11 rfl ?_
      obtain ⟨v4, hv4, hD⟩ := Option.bind_eq_some_iff.mp hD
      refine k_ldI rfl rfl hv4 ?_
      obtain ⟨A5, hA5, hD⟩ := Option.bind_eq_some_iff.mp hD
      refine k_stI 47 rfl rfl (fun _ => rfl) hA5 ?_
      refine k_runB (pc' := 21) (loc' := [(0, .ref 40960), (1, .int (x1 + 1))]) (st' := []) 2 rfl ?_
      refine k_wk [0, 1] (loc' := [(0, .ref 40960), (1, .int (x1 + 1))]) rfl rfl ?_
      exact hK21 _ _ _ _ _ hD
/-- SleepWorkModel.undo()Z -/
def d_undo (n : Nat) (F : Nat → Int32) (A : Nat → Nat → Int32) (J : Nat → Nat → Int64) : Option (Int32 × (Nat → Int32) × (Nat → Nat → Int32) × (Nat → Nat → Int64)) :=
  cond (g_cnd .ne (F 74) 0)
  ((m_pf F 74 ((F 74) - 1)).bind fun F2 =>
  d_undo_21 n F2 A J 0)
  (some (0, F, A, J))
theorem t_d_undo (ht : ∀ k, t.1 12 k = k_ty 12 k) {n : Nat} {r : Int32} {F' : Nat → Int32} {A' : Nat → Nat → Int32} {J' : Nat → Nat → Int64} : d_undo n F A J = some (r, F', A', J') → k_run t lg (d) 215 0 [(0, .ref 40960)] [] (m_h c B F A J) (some (.int r), m_h c B F' A' J') := by
  intro hD
  unfold d_undo at hD
  refine k_runB (pc' := 4) (loc' := [(0, .ref 40960)]) (st' := [.int (F 74)]) 2 rfl ?_
  refine k_if rfl (fun c4_0 => ?_) (fun c4_0 => ?_)
  · rw [c4_0, cond_true] at hD
    refine k_runB (pc' := 16) (loc' := [(0, .ref 40960)]) (st' := [.int ((F 74) - 1), .ref 40960]) 5 rfl ?_
    obtain ⟨F2, hF2, hD⟩ := Option.bind_eq_some_iff.mp hD
    refine k_ptI rfl (ht 74) rfl rfl hF2 ?_
    refine k_runB (pc' := 21) (loc' := [(0, .ref 40960), (1, .int 0)]) (st' := []) 2 rfl ?_
    refine k_wk [0, 1] (loc' := [(0, .ref 40960), (1, .int 0)]) rfl rfl ?_
    exact t_d_undo_21 ht  hD
  · rw [c4_0, cond_false] at hD
    refine k_runB (pc' := 8) (loc' := [(0, .ref 40960)]) (st' := [.int 0]) 1 rfl ?_
    cases hD
    exact k_zret rfl rfl (Or.inl rfl)
/-- SleepWorkModel.gain()I -/
def d_gain (n : Nat) (F : Nat → Int32) (A : Nat → Nat → Int32) (J : Nat → Nat → Int64) : Option (Int32 × (Nat → Int32) × (Nat → Nat → Int32) × (Nat → Nat → Int64)) :=
  (d_takes n F A J).bind fun (_, F2, A3, J4) =>
  (d_wholeNight n F2 A3 J4).bind fun (v5, F6, A7, J8) =>
  some (v5, F6, A7, J8)
theorem t_d_gain (ht : ∀ k, t.1 12 k = k_ty 12 k) {n : Nat} {r : Int32} {F' : Nat → Int32} {A' : Nat → Nat → Int32} {J' : Nat → Nat → Int64} : d_gain n F A J = some (r, F', A', J') → k_run t lg (d + 5) 216 0 [(0, .ref 40960)] [] (m_h c B F A J) (some (.int r), m_h c B F' A' J') := by
  intro hD
  unfold d_gain at hD
  refine k_runB (pc' := 1) (loc' := [(0, .ref 40960)]) (st' := [.ref 40960]) 1 rfl ?_
  obtain ⟨⟨v1, F2, A3, J4⟩, hv1, hD⟩ := Option.bind_eq_some_iff.mp hD
  dsimp only at hD
  refine k_runC rfl rfl rfl rfl (t_d_takes (d := d + 4) hv1) ?_
  refine k_runB (pc' := 5) (loc' := [(0, .ref 40960)]) (st' := [.ref 40960]) 1 rfl ?_
  obtain ⟨⟨v5, F6, A7, J8⟩, hv5, hD⟩ := Option.bind_eq_some_iff.mp hD
  dsimp only at hD
  refine k_runC rfl rfl rfl rfl (t_d_wholeNight (d := d) ht hv5) ?_
  cases hD
  exact k_iret rfl rfl
def d_leaves_96 (n : Nat) (F : Nat → Int32) (A : Nat → Nat → Int32) (J : Nat → Nat → Int64) (s1 : Int32) (s2 : Int32) : Option (Int32 × (Nat → Int32) × (Nat → Nat → Int32) × (Nat → Nat → Int64)) :=
    (m_st A 48 100 s1 s2).bind fun A13 =>
    some (1, F, A13, J)
theorem t_d_leaves_96 {n : Nat}  {F : Nat → Int32} {A : Nat → Nat → Int32} {J : Nat → Nat → Int64} {s1 : Int32} {s2 : Int32} {w : Int32 × (Nat → Int32) × (Nat → Nat → Int32) × (Nat → Nat → Int64)} : d_leaves_96 n F A J s1 s2 = some w → k_run t lg (d + 1) 217 96 [(0, .ref 40960)] [.int s2, .int s1, .ref 41008] (m_h c B F A J) (some (.int w.1), m_h c B w.2.1 w.2.2.1 w.2.2.2) := by
  intro hD
  unfold d_leaves_96 at hD
  obtain ⟨A13, hA13, hD⟩ := Option.bind_eq_some_iff.mp hD
  refine k_stI 48 rfl rfl (fun _ => rfl) hA13 ?_
  refine k_runB (pc' := 98) (loc' := [(0, .ref 40960)]) (st' := [.int 1]) 1 rfl ?_
  cases hD
  exact k_zret rfl rfl (Or.inr rfl)
def d_leaves_78 (n : Nat) (F : Nat → Int32) (A : Nat → Nat → Int32) (J : Nat → Nat → Int64) (x1 : Int32) (x3 : Int32) (s1 : Int32) (s2 : Int32) : Option (Int32 × (Nat → Int32) × (Nat → Nat → Int32) × (Nat → Nat → Int64)) :=
    (m_st A 48 100 s1 s2).bind fun A11 =>
    cond (g_cnd .ge x3 0)
    (d_leaves_96 n F A11 J (48 + x1) x3)
    (d_leaves_96 n F A11 J (48 + x1) ((-1)))
theorem t_d_leaves_78 {n : Nat}  {F : Nat → Int32} {A : Nat → Nat → Int32} {J : Nat → Nat → Int64} {x1 : Int32} {x3 : Int32} {s1 : Int32} {s2 : Int32} {w : Int32 × (Nat → Int32) × (Nat → Nat → Int32) × (Nat → Nat → Int64)} : d_leaves_78 n F A J x1 x3 s1 s2 = some w → k_run t lg (d + 1) 217 78 [(0, .ref 40960), (1, .int x1), (3, .int x3)] [.int s2, .int s1, .ref 41008] (m_h c B F A J) (some (.int w.1), m_h c B w.2.1 w.2.2.1 w.2.2.2) := by
  intro hD
  unfold d_leaves_78 at hD
  obtain ⟨A11, hA11, hD⟩ := Option.bind_eq_some_iff.mp hD
  refine k_stI 48 rfl rfl (fun _ => rfl) hA11 ?_
  refine k_runB (pc' := 88) (loc' := [(0, .ref 40960), (1, .int x1), (3, .int x3)]) (st' := [.int x3, .int (48 + x1), .ref 41008]) 6 rfl ?_
  refine k_if rfl (fun c88_11 => ?_) (fun c88_11 => ?_)
  · rw [c88_11, cond_true] at hD
    refine k_runB (pc' := 96) (loc' := [(0, .ref 40960), (1, .int x1), (3, .int x3)]) (st' := [.int x3, .int (48 + x1), .ref 41008]) 1 rfl ?_
    refine k_wk [0] (loc' := [(0, .ref 40960)]) rfl rfl ?_
    exact t_d_leaves_96  hD
  · rw [c88_11, cond_false] at hD
    refine k_runB (pc' := 96) (loc' := [(0, .ref 40960), (1, .int x1), (3, .int x3)]) (st' := [.int ((-1)), .int (48 + x1), .ref 41008]) 2 rfl ?_
    refine k_wk [0] (loc' := [(0, .ref 40960)]) rfl rfl ?_
    exact t_d_leaves_96  hD
def d_leaves_60 (n : Nat) (F : Nat → Int32) (A : Nat → Nat → Int32) (J : Nat → Nat → Int64) (x1 : Int32) (x3 : Int32) (x4 : Int32) : Option (Int32 × (Nat → Int32) × (Nat → Nat → Int32) × (Nat → Nat → Int64)) :=
    cond (g_cnd .ge x3 0)
    (d_leaves_78 n F A J x1 x3 (42 + x1) x4)
    (d_leaves_78 n F A J x1 x3 (42 + x1) ((-1)))
theorem t_d_leaves_60 {n : Nat}  {F : Nat → Int32} {A : Nat → Nat → Int32} {J : Nat → Nat → Int64} {x1 : Int32} {x3 : Int32} {x4 : Int32} {w : Int32 × (Nat → Int32) × (Nat → Nat → Int32) × (Nat → Nat → Int64)} : d_leaves_60 n F A J x1 x3 x4 = some w → k_run t lg (d + 1) 217 60 [(0, .ref 40960), (1, .int x1), (3, .int x3), (4, .int x4)] [] (m_h c B F A J) (some (.int w.1), m_h c B w.2.1 w.2.2.1 w.2.2.2) := by
  intro hD
  unfold d_leaves_60 at hD
  refine k_runB (pc' := 69) (loc' := [(0, .ref 40960), (1, .int x1), (3, .int x3), (4, .int x4)]) (st' := [.int x3, .int (42 + x1), .ref 41008]) 6 rfl ?_
  refine k_if rfl (fun c69_9 => ?_) (fun c69_9 => ?_)
  · rw [c69_9, cond_true] at hD
    refine k_runB (pc' := 78) (loc' := [(0, .ref 40960), (1, .int x1), (3, .int x3), (4, .int x4)]) (st' := [.int x4, .int (42 + x1), .ref 41008]) 1 rfl ?_
    refine k_wk [0, 1, 3] (loc' := [(0, .ref 40960), (1, .int x1), (3, .int x3)]) rfl rfl ?_
    exact t_d_leaves_78  hD
  · rw [c69_9, cond_false] at hD
    refine k_runB (pc' := 78) (loc' := [(0, .ref 40960), (1, .int x1), (3, .int x3), (4, .int x4)]) (st' := [.int ((-1)), .int (42 + x1), .ref 41008]) 2 rfl ?_
    refine k_wk [0, 1, 3] (loc' := [(0, .ref 40960), (1, .int x1), (3, .int x3)]) rfl rfl ?_
    exact t_d_leaves_78  hD
def d_leaves_45 (n : Nat) (F : Nat → Int32) (A : Nat → Nat → Int32) (J : Nat → Nat → Int64) (x1 : Int32) (x3 : Int32) (x4 : Int32) : Option (Int32 × (Nat → Int32) × (Nat → Nat → Int32) × (Nat → Nat → Int64)) :=
    (d_tasksNow F A J).bind fun v7 =>
    cond (g_cnd .ne x4 v7)
    (d_leaves_60 n F A J x1 x3 x4)
    (cond (g_cnd .lt x3 0)
    (d_leaves_60 n F A J x1 x3 x4)
    (some (0, F, A, J)))
theorem t_d_leaves_45 {n : Nat}  {F : Nat → Int32} {A : Nat → Nat → Int32} {J : Nat → Nat → Int64} {x1 : Int32} {x3 : Int32} {x4 : Int32} {w : Int32 × (Nat → Int32) × (Nat → Nat → Int32) × (Nat → Nat → Int64)} : d_leaves_45 n F A J x1 x3 x4 = some w → k_run t lg (d + 1) 217 45 [(0, .ref 40960), (1, .int x1), (3, .int x3), (4, .int x4)] [] (m_h c B F A J) (some (.int w.1), m_h c B w.2.1 w.2.2.1 w.2.2.2) := by
  intro hD
  unfold d_leaves_45 at hD
  refine k_runB (pc' := 48) (loc' := [(0, .ref 40960), (1, .int x1), (3, .int x3), (4, .int x4)]) (st' := [.ref 40960, .int x4]) 2 rfl ?_
  obtain ⟨v7, hv7, hD⟩ := Option.bind_eq_some_iff.mp hD
  refine k_runC rfl rfl rfl rfl (t_d_tasksNow (d := d) hv7) ?_
  refine k_ic rfl (fun c51_7 => ?_) (fun c51_7 => ?_)
  · rw [c51_7, cond_true] at hD
    refine k_wk [0, 1, 3, 4] (loc' := [(0, .ref 40960), (1, .int x1), (3, .int x3), (4, .int x4)]) rfl rfl ?_
    exact t_d_leaves_60  hD
  · rw [c51_7, cond_false] at hD
    refine k_runB (pc' := 55) (loc' := [(0, .ref 40960), (1, .int x1), (3, .int x3), (4, .int x4)]) (st' := [.int x3]) 1 rfl ?_
    refine k_if rfl (fun c55_8 => ?_) (fun c55_8 => ?_)
    · rw [c55_8, cond_true] at hD
      refine k_wk [0, 1, 3, 4] (loc' := [(0, .ref 40960), (1, .int x1), (3, .int x3), (4, .int x4)]) rfl rfl ?_
      exact t_d_leaves_60  hD
    · rw [c55_8, cond_false] at hD
      refine k_runB (pc' := 59) (loc' := [(0, .ref 40960), (1, .int x1), (3, .int x3), (4, .int x4)]) (st' := [.int 0]) 1 rfl ?_
      cases hD
      exact k_zret rfl rfl (Or.inl rfl)
def d_leaves_7 : Nat → (Nat → Int32) → (Nat → Nat → Int32) → (Nat → Nat → Int64) → Int32 → Int32 → Int32 → Option (Int32 × (Nat → Int32) × (Nat → Nat → Int32) × (Nat → Nat → Int64))
  | 0, _, _, _, _, _, _ => none
  | n + 1, F, A, J, x1, x3, x4 => cond (g_cnd .lt x3 0)
    (d_leaves_45 n F A J x1 x3 x4)
    ((d_tasksNow F A J).bind fun v2 =>
    cond (g_cnd .ge x4 v2)
    (d_leaves_45 n F A J x1 x3 x4)
    ((d_stepsOf F A J x4).bind fun v4 =>
    cond (g_cnd .lt x3 v4)
    (d_leaves_45 n F A J x1 x3 x4)
    ((d_stepsOf F A J x4).bind fun v6 =>
    (d_leaves_7 n) F A J x1 (x3 - v6) (x4 + 1))))
theorem t_d_leaves_7 {n : Nat}  {F : Nat → Int32} {A : Nat → Nat → Int32} {J : Nat → Nat → Int64} {x1 : Int32} {x3 : Int32} {x4 : Int32} {w : Int32 × (Nat → Int32) × (Nat → Nat → Int32) × (Nat → Nat → Int64)} : d_leaves_7 n F A J x1 x3 x4 = some w → k_run t lg (d + 1) 217 7 [(0, .ref 40960), (1, .int x1), (3, .int x3), (4, .int x4)] [] (m_h c B F A J) (some (.int w.1), m_h c B w.2.1 w.2.2.1 w.2.2.2) := by
  induction n generalizing F A J x1 x3 x4 w with
  | zero => intro hD; cases hD
  | succ n ih =>
    intro hD
    have hK7 : ∀ (F : Nat → Int32) (A : Nat → Nat → Int32) (J : Nat → Nat → Int64) (x1 : Int32) (x3 : Int32) (x4 : Int32) (w : Int32 × (Nat → Int32) × (Nat → Nat → Int32) × (Nat → Nat → Int64)), d_leaves_7 n F A J x1 x3 x4 = some w → k_run t lg (d + 1) 217 7 [(0, .ref 40960), (1, .int x1), (3, .int x3), (4, .int x4)] [] (m_h c B F A J) (some (.int w.1), m_h c B w.2.1 w.2.2.1 w.2.2.2) := fun _ _ _ _ _ _ _ h => ih h
    unfold d_leaves_7 at hD
    refine k_runB (pc' := 8) (loc' := [(0, .ref 40960), (1, .int x1), (3, .int x3), (4, .int x4)]) (st' := [.int x3]) 1 rfl ?_
    refine k_if rfl (fun c8_0 => ?_) (fun c8_0 => ?_)
    · rw [c8_0, cond_true] at hD
      refine k_wk [0, 1, 3, 4] (loc' := [(0, .ref 40960), (1, .int x1), (3, .int x3), (4, .int x4)]) rfl rfl ?_
      exact t_d_leaves_45  hD
    · rw [c8_0, cond_false] at hD
      refine k_runB (pc' := 14) (loc' := [(0, .ref 40960), (1, .int x1), (3, .int x3), (4, .int x4)]) (st' := [.ref 40960, .int x4]) 2 rfl ?_
      obtain ⟨v2, hv2, hD⟩ := Option.bind_eq_some_iff.mp hD
      refine k_runC rfl rfl rfl rfl (t_d_tasksNow (d := d) hv2) ?_
      refine k_ic rfl (fun c17_2 => ?_) (fun c17_2 => ?_)
      · rw [c17_2, cond_true] at hD
        refine k_wk [0, 1, 3, 4] (loc' := [(0, .ref 40960), (1, .int x1), (3, .int x3), (4, .int x4)]) rfl rfl ?_
        exact t_d_leaves_45  hD
      · rw [c17_2, cond_false] at hD
        refine k_runB (pc' := 24) (loc' := [(0, .ref 40960), (1, .int x1), (3, .int x3), (4, .int x4)]) (st' := [.int x4, .ref 40960, .int x3]) 3 rfl ?_
        obtain ⟨v4, hv4, hD⟩ := Option.bind_eq_some_iff.mp hD
        refine k_runC rfl rfl rfl rfl (t_d_stepsOf (d := d) hv4) ?_
        refine k_ic rfl (fun c27_4 => ?_) (fun c27_4 => ?_)
        · rw [c27_4, cond_true] at hD
          refine k_wk [0, 1, 3, 4] (loc' := [(0, .ref 40960), (1, .int x1), (3, .int x3), (4, .int x4)]) rfl rfl ?_
          exact t_d_leaves_45  hD
        · rw [c27_4, cond_false] at hD
          refine k_runB (pc' := 34) (loc' := [(0, .ref 40960), (1, .int x1), (3, .int x3), (4, .int x4)]) (st' := [.int x4, .ref 40960, .int x3]) 3 rfl ?_
          obtain ⟨v6, hv6, hD⟩ := Option.bind_eq_some_iff.mp hD
          refine k_runC rfl rfl rfl rfl (t_d_stepsOf (d := d) hv6) ?_
          refine k_runB (pc' := 7) (loc' := [(0, .ref 40960), (1, .int x1), (3, .int (x3 - v6)), (4, .int (x4 + 1))]) (st' := []) 4 rfl ?_
          refine k_wk [0, 1, 3, 4] (loc' := [(0, .ref 40960), (1, .int x1), (3, .int (x3 - v6)), (4, .int (x4 + 1))]) rfl rfl ?_
          exact hK7 _ _ _ _ _ _ _ hD
/-- SleepWorkModel.leaves(II)Z -/
def d_leaves (n : Nat) (F : Nat → Int32) (A : Nat → Nat → Int32) (J : Nat → Nat → Int64) (x1 : Int32) (x2 : Int32) : Option (Int32 × (Nat → Int32) × (Nat → Nat → Int32) × (Nat → Nat → Int64)) :=
  d_leaves_7 n F A J x1 (x2 - 1) 0
theorem t_d_leaves {n : Nat} {x1 : Int32} {x2 : Int32} {r : Int32} {F' : Nat → Int32} {A' : Nat → Nat → Int32} {J' : Nat → Nat → Int64} : d_leaves n F A J x1 x2 = some (r, F', A', J') → k_run t lg (d + 1) 217 0 [(0, .ref 40960), (1, .int x1), (2, .int x2)] [] (m_h c B F A J) (some (.int r), m_h c B F' A' J') := by
  intro hD
  unfold d_leaves at hD
  refine k_runB (pc' := 7) (loc' := [(0, .ref 40960), (1, .int x1), (2, .int x2), (3, .int (x2 - 1)), (4, .int 0)]) (st' := []) 6 rfl ?_
  refine k_wk [0, 1, 3, 4] (loc' := [(0, .ref 40960), (1, .int x1), (3, .int (x2 - 1)), (4, .int 0)]) rfl rfl ?_
  exact t_d_leaves_7  hD
end MD
end Qz6
