/-! the reference's methods as functions (printed by wip/dec.py) -/
section MD
variable {t : gT} {lg : Nat → Nat} {d : Nat} {c : Nat × Nat} {B : Nat → List gE} {F : Nat → Int32} {A : Nat → Nat → Int32} {J : Nat → Nat → Int64}
def d_takes_2 : Nat → (Nat → Int32) → (Nat → Nat → Int32) → (Nat → Nat → Int64) → Int32 → Option (Unit × (Nat → Int32) × (Nat → Nat → Int32) × (Nat → Nat → Int64))
  | 0, _, _, _, _ => none
  | n + 1, F, A, J, x1 => cond (g_cnd .ge x1 100)
    (some ((), F, A, J))
    ((m_ld (A 47) 100 x1).bind fun v2 =>
    (m_st A 48 100 x1 v2).bind fun A3 =>
    (d_takes_2 n) F A3 J (x1 + 1))
theorem t_d_takes_2 {n : Nat}  {F : Nat → Int32} {A : Nat → Nat → Int32} {J : Nat → Nat → Int64} {x1 : Int32} {w : Unit × (Nat → Int32) × (Nat → Nat → Int32) × (Nat → Nat → Int64)} : d_takes_2 n F A J x1 = some w → k_run t lg (d) 188 2 [(0, .ref 40960), (1, .int x1)] [] (m_h c B F A J) (none, m_h c B w.2.1 w.2.2.1 w.2.2.2) := by
  induction n generalizing F A J x1 w with
  | zero => intro hD; cases hD
  | succ n ih =>
    intro hD
    have hK2 : ∀ (F : Nat → Int32) (A : Nat → Nat → Int32) (J : Nat → Nat → Int64) (x1 : Int32) (w : Unit × (Nat → Int32) × (Nat → Nat → Int32) × (Nat → Nat → Int64)), d_takes_2 n F A J x1 = some w → k_run t lg (d) 188 2 [(0, .ref 40960), (1, .int x1)] [] (m_h c B F A J) (none, m_h c B w.2.1 w.2.2.1 w.2.2.2) := fun _ _ _ _ _ h => ih h
    unfold d_takes_2 at hD
    refine k_runB (pc' := 5) (loc' := [(0, .ref 40960), (1, .int x1)]) (st' := [.int 100, .int x1]) 2 rfl ?_
    refine k_ic rfl (fun c5_0 => ?_) (fun c5_0 => ?_)
    · rw [c5_0, cond_true] at hD
      cases hD
      exact k_vret rfl rfl
    · rw [c5_0, cond_false] at hD
      refine k_runB (pc' := 18) (loc' := [(0, .ref 40960), (1, .int x1)]) (st' := [.int x1, .ref 41007, .int x1, .ref 41008]) 6 rfl ?_
      obtain ⟨v2, hv2, hD⟩ := Option.bind_eq_some_iff.mp hD
      refine k_ldI rfl rfl hv2 ?_
      obtain ⟨A3, hA3, hD⟩ := Option.bind_eq_some_iff.mp hD
      refine k_stI 48 rfl rfl (fun _ => rfl) hA3 ?_
      refine k_runB (pc' := 2) (loc' := [(0, .ref 40960), (1, .int (x1 + 1))]) (st' := []) 2 rfl ?_
      refine k_wk [0, 1] (loc' := [(0, .ref 40960), (1, .int (x1 + 1))]) rfl rfl ?_
      exact hK2 _ _ _ _ _ hD
/-- SleepWorkModel.takes()V -/
def d_takes (n : Nat) (F : Nat → Int32) (A : Nat → Nat → Int32) (J : Nat → Nat → Int64) : Option (Unit × (Nat → Int32) × (Nat → Nat → Int32) × (Nat → Nat → Int64)) :=
  d_takes_2 n F A J 0
theorem t_d_takes {n : Nat} {r : Unit} {F' : Nat → Int32} {A' : Nat → Nat → Int32} {J' : Nat → Nat → Int64} : d_takes n F A J = some (r, F', A', J') → k_run t lg (d) 188 0 [(0, .ref 40960)] [] (m_h c B F A J) (none, m_h c B F' A' J') := by
  intro hD
  unfold d_takes at hD
  refine k_runB (pc' := 2) (loc' := [(0, .ref 40960), (1, .int 0)]) (st' := []) 2 rfl ?_
  refine k_wk [0, 1] (loc' := [(0, .ref 40960), (1, .int 0)]) rfl rfl ?_
  exact t_d_takes_2  hD
def d_isEnded_2 : Nat → (Nat → Int32) → (Nat → Nat → Int32) → (Nat → Nat → Int64) → Int32 → Int32 → Option Int32
  | 0, _, _, _, _, _ => none
  | n + 1, F, A, J, x1, x2 => (d_stepsOf F A J x1).bind fun v1 =>
    cond (g_cnd .ge x2 v1)
    (some (1))
    ((m_ld (A 48) 100 ((6 + (6 * x1)) + x2)).bind fun v3 =>
    (d_stepAt F A J x1 x2).bind fun v4 =>
    (m_ld (A 24) 72 v4).bind fun v5 =>
    cond (g_cnd .ge v3 v5)
    ((d_isEnded_2 n) F A J x1 (x2 + 1))
    (some (0)))
theorem t_d_isEnded_2 {n : Nat}  {F : Nat → Int32} {A : Nat → Nat → Int32} {J : Nat → Nat → Int64} {x1 : Int32} {x2 : Int32} {w : Int32} : d_isEnded_2 n F A J x1 x2 = some w → k_run t lg (d + 1) 189 2 [(0, .ref 40960), (1, .int x1), (2, .int x2)] [] (m_h c B F A J) (some (.int w), m_h c B F A J) := by
  induction n generalizing F A J x1 x2 w with
  | zero => intro hD; cases hD
  | succ n ih =>
    intro hD
    have hK2 : ∀ (F : Nat → Int32) (A : Nat → Nat → Int32) (J : Nat → Nat → Int64) (x1 : Int32) (x2 : Int32) (w : Int32), d_isEnded_2 n F A J x1 x2 = some w → k_run t lg (d + 1) 189 2 [(0, .ref 40960), (1, .int x1), (2, .int x2)] [] (m_h c B F A J) (some (.int w), m_h c B F A J) := fun _ _ _ _ _ _ h => ih h
    unfold d_isEnded_2 at hD
    refine k_runB (pc' := 5) (loc' := [(0, .ref 40960), (1, .int x1), (2, .int x2)]) (st' := [.int x1, .ref 40960, .int x2]) 3 rfl ?_
    obtain ⟨v1, hv1, hD⟩ := Option.bind_eq_some_iff.mp hD
    refine k_runC rfl rfl rfl rfl (t_d_stepsOf (d := d) hv1) ?_
    refine k_ic rfl (fun c8_1 => ?_) (fun c8_1 => ?_)
    · rw [c8_1, cond_true] at hD
      refine k_runB (pc' := 48) (loc' := [(0, .ref 40960), (1, .int x1), (2, .int x2)]) (st' := [.int 1]) 1 rfl ?_
      cases hD
      exact k_zret rfl rfl (Or.inr rfl)
    · rw [c8_1, cond_false] at hD
      refine k_runB (pc' := 24) (loc' := [(0, .ref 40960), (1, .int x1), (2, .int x2)]) (st' := [.int ((6 + (6 * x1)) + x2), .ref 41008]) 9 rfl ?_
      obtain ⟨v3, hv3, hD⟩ := Option.bind_eq_some_iff.mp hD
      refine k_ldI rfl rfl hv3 ?_
      refine k_runB (pc' := 32) (loc' := [(0, .ref 40960), (1, .int x1), (2, .int x2)]) (st' := [.int x2, .int x1, .ref 40960, .ref 40984, .int v3]) 5 rfl ?_
      obtain ⟨v4, hv4, hD⟩ := Option.bind_eq_some_iff.mp hD
      refine k_runC rfl rfl rfl rfl (t_d_stepAt (d := d) hv4) ?_
      obtain ⟨v5, hv5, hD⟩ := Option.bind_eq_some_iff.mp hD
      refine k_ldI rfl rfl hv5 ?_
      refine k_ic rfl (fun c36_5 => ?_) (fun c36_5 => ?_)
      · rw [c36_5, cond_true] at hD
        refine k_runB (pc' := 2) (loc' := [(0, .ref 40960), (1, .int x1), (2, .int (x2 + 1))]) (st' := []) 2 rfl ?_
        refine k_wk [0, 1, 2] (loc' := [(0, .ref 40960), (1, .int x1), (2, .int (x2 + 1))]) rfl rfl ?_
        exact hK2 _ _ _ _ _ _ hD
      · rw [c36_5, cond_false] at hD
        refine k_runB (pc' := 40) (loc' := [(0, .ref 40960), (1, .int x1), (2, .int x2)]) (st' := [.int 0]) 1 rfl ?_
        cases hD
        exact k_zret rfl rfl (Or.inl rfl)
/-- SleepWorkModel.isEnded(I)Z -/
def d_isEnded (n : Nat) (F : Nat → Int32) (A : Nat → Nat → Int32) (J : Nat → Nat → Int64) (x1 : Int32) : Option Int32 :=
  d_isEnded_2 n F A J x1 0
theorem t_d_isEnded {n : Nat} {x1 : Int32} {r : Int32} : d_isEnded n F A J x1 = some r → k_run t lg (d + 1) 189 0 [(0, .ref 40960), (1, .int x1)] [] (m_h c B F A J) (some (.int r), m_h c B F A J) := by
  intro hD
  unfold d_isEnded at hD
  refine k_runB (pc' := 2) (loc' := [(0, .ref 40960), (1, .int x1), (2, .int 0)]) (st' := []) 2 rfl ?_
  refine k_wk [0, 1, 2] (loc' := [(0, .ref 40960), (1, .int x1), (2, .int 0)]) rfl rfl ?_
  exact t_d_isEnded_2  hD
def d_worthOf_85 (K4 : (Nat → Int32) → (Nat → Nat → Int32) → (Nat → Nat → Int64) → Int32 → Int32 → Int32 → Option Int32) (n : Nat) (F : Nat → Int32) (A : Nat → Nat → Int32) (J : Nat → Nat → Int64) (x1 : Int32) (x3 : Int32) (x4 : Int32) (s0 : Int32) (s1 : Int32) (s2 : Int32) : Option Int32 :=
    (m_ld (A 26) 72 x4).bind fun v9 =>
    K4 F A J x1 (s0 + (s1 - (s2 * v9))) (x3 + 1)
theorem t_d_worthOf_85 {n : Nat} {K4 : (Nat → Int32) → (Nat → Nat → Int32) → (Nat → Nat → Int64) → Int32 → Int32 → Int32 → Option Int32} (hK4 : ∀ (F : Nat → Int32) (A : Nat → Nat → Int32) (J : Nat → Nat → Int64) (x1 : Int32) (x2 : Int32) (x3 : Int32) (w : Int32), K4 F A J x1 x2 x3 = some w → k_run t lg (d + 1) 190 4 [(0, .ref 40960), (1, .int x1), (2, .int x2), (3, .int x3)] [] (m_h c B F A J) (some (.int w), m_h c B F A J)) {F : Nat → Int32} {A : Nat → Nat → Int32} {J : Nat → Nat → Int64} {x1 : Int32} {x3 : Int32} {x4 : Int32} {s0 : Int32} {s1 : Int32} {s2 : Int32} {w : Int32} : d_worthOf_85 K4 n F A J x1 x3 x4 s0 s1 s2 = some w → k_run t lg (d + 1) 190 85 [(0, .ref 40960), (1, .int x1), (3, .int x3), (4, .int x4)] [.int s2, .int s1, .int s0] (m_h c B F A J) (some (.int w), m_h c B F A J) := by
  intro hD
  unfold d_worthOf_85 at hD
  refine k_runB (pc' := 91) (loc' := [(0, .ref 40960), (1, .int x1), (3, .int x3), (4, .int x4)]) (st' := [.int x4, .ref 40986, .int s2, .int s1, .int s0]) 3 rfl ?_
  obtain ⟨v9, hv9, hD⟩ := Option.bind_eq_some_iff.mp hD
  refine k_ldI rfl rfl hv9 ?_
  refine k_runB (pc' := 4) (loc' := [(0, .ref 40960), (1, .int x1), (2, .int (s0 + (s1 - (s2 * v9)))), (3, .int (x3 + 1)), (4, .int x4)]) (st' := []) 6 rfl ?_
  refine k_wk [0, 1, 2, 3] (loc' := [(0, .ref 40960), (1, .int x1), (2, .int (s0 + (s1 - (s2 * v9)))), (3, .int (x3 + 1))]) rfl rfl ?_
  exact hK4 _ _ _ _ _ _ _ hD
def d_worthOf_61 (K4 : (Nat → Int32) → (Nat → Nat → Int32) → (Nat → Nat → Int64) → Int32 → Int32 → Int32 → Option Int32) (n : Nat) (F : Nat → Int32) (A : Nat → Nat → Int32) (J : Nat → Nat → Int64) (x1 : Int32) (x3 : Int32) (x4 : Int32) (x5 : Int32) (x6 : Int32) (s0 : Int32) (s1 : Int32) : Option Int32 :=
    (m_ld (A 25) 72 x4).bind fun v7 =>
    cond (g_cnd .le x5 x6)
    (d_worthOf_85 K4 n F A J x1 x3 x4 s0 (s1 * v7) 0)
    (d_worthOf_85 K4 n F A J x1 x3 x4 s0 (s1 * v7) (x5 - x6))
theorem t_d_worthOf_61 {n : Nat} {K4 : (Nat → Int32) → (Nat → Nat → Int32) → (Nat → Nat → Int64) → Int32 → Int32 → Int32 → Option Int32} (hK4 : ∀ (F : Nat → Int32) (A : Nat → Nat → Int32) (J : Nat → Nat → Int64) (x1 : Int32) (x2 : Int32) (x3 : Int32) (w : Int32), K4 F A J x1 x2 x3 = some w → k_run t lg (d + 1) 190 4 [(0, .ref 40960), (1, .int x1), (2, .int x2), (3, .int x3)] [] (m_h c B F A J) (some (.int w), m_h c B F A J)) {F : Nat → Int32} {A : Nat → Nat → Int32} {J : Nat → Nat → Int64} {x1 : Int32} {x3 : Int32} {x4 : Int32} {x5 : Int32} {x6 : Int32} {s0 : Int32} {s1 : Int32} {w : Int32} : d_worthOf_61 K4 n F A J x1 x3 x4 x5 x6 s0 s1 = some w → k_run t lg (d + 1) 190 61 [(0, .ref 40960), (1, .int x1), (3, .int x3), (4, .int x4), (5, .int x5), (6, .int x6)] [.int s1, .int s0] (m_h c B F A J) (some (.int w), m_h c B F A J) := by
  intro hD
  unfold d_worthOf_61 at hD
  refine k_runB (pc' := 67) (loc' := [(0, .ref 40960), (1, .int x1), (3, .int x3), (4, .int x4), (5, .int x5), (6, .int x6)]) (st' := [.int x4, .ref 40985, .int s1, .int s0]) 3 rfl ?_
  obtain ⟨v7, hv7, hD⟩ := Option.bind_eq_some_iff.mp hD
  refine k_ldI rfl rfl hv7 ?_
  refine k_runB (pc' := 73) (loc' := [(0, .ref 40960), (1, .int x1), (3, .int x3), (4, .int x4), (5, .int x5), (6, .int x6)]) (st' := [.int x6, .int x5, .int (s1 * v7), .int s0]) 3 rfl ?_
  refine k_ic rfl (fun c73_7 => ?_) (fun c73_7 => ?_)
  · rw [c73_7, cond_true] at hD
    refine k_runB (pc' := 85) (loc' := [(0, .ref 40960), (1, .int x1), (3, .int x3), (4, .int x4), (5, .int x5), (6, .int x6)]) (st' := [.int 0, .int (s1 * v7), .int s0]) 1 rfl ?_
    refine k_wk [0, 1, 3, 4] (loc' := [(0, .ref 40960), (1, .int x1), (3, .int x3), (4, .int x4)]) rfl rfl ?_
    exact t_d_worthOf_85 hK4 hD
  · rw [c73_7, cond_false] at hD
    refine k_runB (pc' := 85) (loc' := [(0, .ref 40960), (1, .int x1), (3, .int x3), (4, .int x4), (5, .int x5), (6, .int x6)]) (st' := [.int (x5 - x6), .int (s1 * v7), .int s0]) 4 rfl ?_
    refine k_wk [0, 1, 3, 4] (loc' := [(0, .ref 40960), (1, .int x1), (3, .int x3), (4, .int x4)]) rfl rfl ?_
    exact t_d_worthOf_85 hK4 hD
def d_worthOf_4 : Nat → (Nat → Int32) → (Nat → Nat → Int32) → (Nat → Nat → Int64) → Int32 → Int32 → Int32 → Option Int32
  | 0, _, _, _, _, _, _ => none
  | n + 1, F, A, J, x1, x2, x3 => (d_stepsOf F A J x1).bind fun v1 =>
    cond (g_cnd .ge x3 v1)
    (some (x2))
    ((d_stepAt F A J x1 x3).bind fun v3 =>
    (m_ld (A 48) 100 ((6 + (6 * x1)) + x3)).bind fun v4 =>
    (m_ld (A 24) 72 v3).bind fun v5 =>
    cond (g_cnd .ge v4 v5)
    (d_worthOf_61 (d_worthOf_4 n) n F A J x1 x3 v3 v4 v5 x2 v5)
    (d_worthOf_61 (d_worthOf_4 n) n F A J x1 x3 v3 v4 v5 x2 v4))
theorem t_d_worthOf_4 {n : Nat}  {F : Nat → Int32} {A : Nat → Nat → Int32} {J : Nat → Nat → Int64} {x1 : Int32} {x2 : Int32} {x3 : Int32} {w : Int32} : d_worthOf_4 n F A J x1 x2 x3 = some w → k_run t lg (d + 1) 190 4 [(0, .ref 40960), (1, .int x1), (2, .int x2), (3, .int x3)] [] (m_h c B F A J) (some (.int w), m_h c B F A J) := by
  induction n generalizing F A J x1 x2 x3 w with
  | zero => intro hD; cases hD
  | succ n ih =>
    intro hD
    have hK4 : ∀ (F : Nat → Int32) (A : Nat → Nat → Int32) (J : Nat → Nat → Int64) (x1 : Int32) (x2 : Int32) (x3 : Int32) (w : Int32), d_worthOf_4 n F A J x1 x2 x3 = some w → k_run t lg (d + 1) 190 4 [(0, .ref 40960), (1, .int x1), (2, .int x2), (3, .int x3)] [] (m_h c B F A J) (some (.int w), m_h c B F A J) := fun _ _ _ _ _ _ _ h => ih h
    unfold d_worthOf_4 at hD
    refine k_runB (pc' := 7) (loc' := [(0, .ref 40960), (1, .int x1), (2, .int x2), (3, .int x3)]) (st' := [.int x1, .ref 40960, .int x3]) 3 rfl ?_
    obtain ⟨v1, hv1, hD⟩ := Option.bind_eq_some_iff.mp hD
    refine k_runC rfl rfl rfl rfl (t_d_stepsOf (d := d) hv1) ?_
    refine k_ic rfl (fun c10_1 => ?_) (fun c10_1 => ?_)
    · rw [c10_1, cond_true] at hD
      refine k_runB (pc' := 103) (loc' := [(0, .ref 40960), (1, .int x1), (2, .int x2), (3, .int x3)]) (st' := [.int x2]) 1 rfl ?_
      cases hD
      exact k_iret rfl rfl
    · rw [c10_1, cond_false] at hD
      refine k_runB (pc' := 16) (loc' := [(0, .ref 40960), (1, .int x1), (2, .int x2), (3, .int x3)]) (st' := [.int x3, .int x1, .ref 40960]) 3 rfl ?_
      obtain ⟨v3, hv3, hD⟩ := Option.bind_eq_some_iff.mp hD
      refine k_runC rfl rfl rfl rfl (t_d_stepAt (d := d) hv3) ?_
      refine k_runB (pc' := 34) (loc' := [(0, .ref 40960), (1, .int x1), (2, .int x2), (3, .int x3), (4, .int v3)]) (st' := [.int ((6 + (6 * x1)) + x3), .ref 41008]) 10 rfl ?_
      obtain ⟨v4, hv4, hD⟩ := Option.bind_eq_some_iff.mp hD
      refine k_ldI rfl rfl hv4 ?_
      refine k_runB (pc' := 43) (loc' := [(0, .ref 40960), (1, .int x1), (2, .int x2), (3, .int x3), (4, .int v3), (5, .int v4)]) (st' := [.int v3, .ref 40984]) 4 rfl ?_
      obtain ⟨v5, hv5, hD⟩ := Option.bind_eq_some_iff.mp hD
      refine k_ldI rfl rfl hv5 ?_
      refine k_runB (pc' := 51) (loc' := [(0, .ref 40960), (1, .int x1), (2, .int x2), (3, .int x3), (4, .int v3), (5, .int v4), (6, .int v5)]) (st' := [.int v5, .int v4, .int x2]) 4 rfl ?_
      refine k_ic rfl (fun c51_5 => ?_) (fun c51_5 => ?_)
      · rw [c51_5, cond_true] at hD
        refine k_runB (pc' := 61) (loc' := [(0, .ref 40960), (1, .int x1), (2, .int x2), (3, .int x3), (4, .int v3), (5, .int v4), (6, .int v5)]) (st' := [.int v5, .int x2]) 1 rfl ?_
        refine k_wk [0, 1, 3, 4, 5, 6] (loc' := [(0, .ref 40960), (1, .int x1), (3, .int x3), (4, .int v3), (5, .int v4), (6, .int v5)]) rfl rfl ?_
        exact t_d_worthOf_61 hK4 hD
      · rw [c51_5, cond_false] at hD
        refine k_runB (pc' := 61) (loc' := [(0, .ref 40960), (1, .int x1), (2, .int x2), (3, .int x3), (4, .int v3), (5, .int v4), (6, .int v5)]) (st' := [.int v4, .int x2]) 2 rfl ?_
        refine k_wk [0, 1, 3, 4, 5, 6] (loc' := [(0, .ref 40960), (1, .int x1), (3, .int x3), (4, .int v3), (5, .int v4), (6, .int v5)]) rfl rfl ?_
        exact t_d_worthOf_61 hK4 hD
/-- SleepWorkModel.worthOf(I)I -/
def d_worthOf (n : Nat) (F : Nat → Int32) (A : Nat → Nat → Int32) (J : Nat → Nat → Int64) (x1 : Int32) : Option Int32 :=
  d_worthOf_4 n F A J x1 0 0
theorem t_d_worthOf {n : Nat} {x1 : Int32} {r : Int32} : d_worthOf n F A J x1 = some r → k_run t lg (d + 1) 190 0 [(0, .ref 40960), (1, .int x1)] [] (m_h c B F A J) (some (.int r), m_h c B F A J) := by
  intro hD
  unfold d_worthOf at hD
  refine k_runB (pc' := 4) (loc' := [(0, .ref 40960), (1, .int x1), (2, .int 0), (3, .int 0)]) (st' := []) 4 rfl ?_
  refine k_wk [0, 1, 2, 3] (loc' := [(0, .ref 40960), (1, .int x1), (2, .int 0), (3, .int 0)]) rfl rfl ?_
  exact t_d_worthOf_4  hD
def d_worthNow_4 : Nat → (Nat → Int32) → (Nat → Nat → Int32) → (Nat → Nat → Int64) → Int32 → Int32 → Option Int32
  | 0, _, _, _, _, _ => none
  | n + 1, F, A, J, x1, x2 => (d_tasksNow F A J).bind fun v1 =>
    cond (g_cnd .ge x2 v1)
    (some (x1))
    ((d_worthOf n F A J x2).bind fun v3 =>
    (d_worthNow_4 n) F A J (x1 + v3) (x2 + 1))
theorem t_d_worthNow_4 {n : Nat}  {F : Nat → Int32} {A : Nat → Nat → Int32} {J : Nat → Nat → Int64} {x1 : Int32} {x2 : Int32} {w : Int32} : d_worthNow_4 n F A J x1 x2 = some w → k_run t lg (d + 2) 191 4 [(0, .ref 40960), (1, .int x1), (2, .int x2)] [] (m_h c B F A J) (some (.int w), m_h c B F A J) := by
  induction n generalizing F A J x1 x2 w with
  | zero => intro hD; cases hD
  | succ n ih =>
    intro hD
    have hK4 : ∀ (F : Nat → Int32) (A : Nat → Nat → Int32) (J : Nat → Nat → Int64) (x1 : Int32) (x2 : Int32) (w : Int32), d_worthNow_4 n F A J x1 x2 = some w → k_run t lg (d + 2) 191 4 [(0, .ref 40960), (1, .int x1), (2, .int x2)] [] (m_h c B F A J) (some (.int w), m_h c B F A J) := fun _ _ _ _ _ _ h => ih h
    unfold d_worthNow_4 at hD
    refine k_runB (pc' := 6) (loc' := [(0, .ref 40960), (1, .int x1), (2, .int x2)]) (st' := [.ref 40960, .int x2]) 2 rfl ?_
    obtain ⟨v1, hv1, hD⟩ := Option.bind_eq_some_iff.mp hD
    refine k_runC rfl rfl rfl rfl (t_d_tasksNow (d := d + 1) hv1) ?_
    refine k_ic rfl (fun c9_1 => ?_) (fun c9_1 => ?_)
    · rw [c9_1, cond_true] at hD
      refine k_runB (pc' := 27) (loc' := [(0, .ref 40960), (1, .int x1), (2, .int x2)]) (st' := [.int x1]) 1 rfl ?_
      cases hD
      exact k_iret rfl rfl
    · rw [c9_1, cond_false] at hD
      refine k_runB (pc' := 15) (loc' := [(0, .ref 40960), (1, .int x1), (2, .int x2)]) (st' := [.int x2, .ref 40960, .int x1]) 3 rfl ?_
      obtain ⟨v3, hv3, hD⟩ := Option.bind_eq_some_iff.mp hD
      refine k_runC rfl rfl rfl rfl (t_d_worthOf (d := d) hv3) ?_
      refine k_runB (pc' := 4) (loc' := [(0, .ref 40960), (1, .int (x1 + v3)), (2, .int (x2 + 1))]) (st' := []) 4 rfl ?_
      refine k_wk [0, 1, 2] (loc' := [(0, .ref 40960), (1, .int (x1 + v3)), (2, .int (x2 + 1))]) rfl rfl ?_
      exact hK4 _ _ _ _ _ _ hD
/-- SleepWorkModel.worthNow()I -/
def d_worthNow (n : Nat) (F : Nat → Int32) (A : Nat → Nat → Int32) (J : Nat → Nat → Int64) : Option Int32 :=
  d_worthNow_4 n F A J 0 0
theorem t_d_worthNow {n : Nat} {r : Int32} : d_worthNow n F A J = some r → k_run t lg (d + 2) 191 0 [(0, .ref 40960)] [] (m_h c B F A J) (some (.int r), m_h c B F A J) := by
  intro hD
  unfold d_worthNow at hD
  refine k_runB (pc' := 4) (loc' := [(0, .ref 40960), (1, .int 0), (2, .int 0)]) (st' := []) 4 rfl ?_
  refine k_wk [0, 1, 2] (loc' := [(0, .ref 40960), (1, .int 0), (2, .int 0)]) rfl rfl ?_
  exact t_d_worthNow_4  hD
def d_fillsWays_263 (K170 : (Nat → Int32) → (Nat → Nat → Int32) → (Nat → Nat → Int64) → Int32 → Option (Unit × (Nat → Int32) × (Nat → Nat → Int32) × (Nat → Nat → Int64))) (K178 : (Nat → Int32) → (Nat → Nat → Int32) → (Nat → Nat → Int64) → Int32 → Int32 → Option (Unit × (Nat → Int32) × (Nat → Nat → Int32) × (Nat → Nat → Int64))) (K186 : (Nat → Int32) → (Nat → Nat → Int32) → (Nat → Nat → Int64) → Int32 → Int32 → Int32 → Option (Unit × (Nat → Int32) × (Nat → Nat → Int32) × (Nat → Nat → Int64))) (n : Nat) (F : Nat → Int32) (A : Nat → Nat → Int32) (J : Nat → Nat → Int64) (x1 : Int32) (x2 : Int32) (x3 : Int32) : Option (Unit × (Nat → Int32) × (Nat → Nat → Int32) × (Nat → Nat → Int64)) :=
    K186 F A J x1 x2 (x3 + 1)
theorem t_d_fillsWays_263 {n : Nat} {K170 : (Nat → Int32) → (Nat → Nat → Int32) → (Nat → Nat → Int64) → Int32 → Option (Unit × (Nat → Int32) × (Nat → Nat → Int32) × (Nat → Nat → Int64))} {K178 : (Nat → Int32) → (Nat → Nat → Int32) → (Nat → Nat → Int64) → Int32 → Int32 → Option (Unit × (Nat → Int32) × (Nat → Nat → Int32) × (Nat → Nat → Int64))} {K186 : (Nat → Int32) → (Nat → Nat → Int32) → (Nat → Nat → Int64) → Int32 → Int32 → Int32 → Option (Unit × (Nat → Int32) × (Nat → Nat → Int32) × (Nat → Nat → Int64))} (hK170 : ∀ (F : Nat → Int32) (A : Nat → Nat → Int32) (J : Nat → Nat → Int64) (x1 : Int32) (w : Unit × (Nat → Int32) × (Nat → Nat → Int32) × (Nat → Nat → Int64)), K170 F A J x1 = some w → k_run t lg (d) 192 170 [(0, .ref 40960), (1, .int x1)] [] (m_h c B F A J) (none, m_h c B w.2.1 w.2.2.1 w.2.2.2)) (hK178 : ∀ (F : Nat → Int32) (A : Nat → Nat → Int32) (J : Nat → Nat → Int64) (x1 : Int32) (x2 : Int32) (w : Unit × (Nat → Int32) × (Nat → Nat → Int32) × (Nat → Nat → Int64)), K178 F A J x1 x2 = some w → k_run t lg (d) 192 178 [(0, .ref 40960), (1, .int x1), (2, .int x2)] [] (m_h c B F A J) (none, m_h c B w.2.1 w.2.2.1 w.2.2.2)) (hK186 : ∀ (F : Nat → Int32) (A : Nat → Nat → Int32) (J : Nat → Nat → Int64) (x1 : Int32) (x2 : Int32) (x3 : Int32) (w : Unit × (Nat → Int32) × (Nat → Nat → Int32) × (Nat → Nat → Int64)), K186 F A J x1 x2 x3 = some w → k_run t lg (d) 192 186 [(0, .ref 40960), (1, .int x1), (2, .int x2), (3, .int x3)] [] (m_h c B F A J) (none, m_h c B w.2.1 w.2.2.1 w.2.2.2)) {F : Nat → Int32} {A : Nat → Nat → Int32} {J : Nat → Nat → Int64} {x1 : Int32} {x2 : Int32} {x3 : Int32} {w : Unit × (Nat → Int32) × (Nat → Nat → Int32) × (Nat → Nat → Int64)} : d_fillsWays_263 K170 K178 K186 n F A J x1 x2 x3 = some w → k_run t lg (d) 192 263 [(0, .ref 40960), (1, .int x1), (2, .int x2), (3, .int x3)] [] (m_h c B F A J) (none, m_h c B w.2.1 w.2.2.1 w.2.2.2) := by
  intro hD
  unfold d_fillsWays_263 at hD
  refine k_runB (pc' := 186) (loc' := [(0, .ref 40960), (1, .int x1), (2, .int x2), (3, .int (x3 + 1))]) (st' := []) 2 rfl ?_
  refine k_wk [0, 1, 2, 3] (loc' := [(0, .ref 40960), (1, .int x1), (2, .int x2), (3, .int (x3 + 1))]) rfl rfl ?_
  exact hK186 _ _ _ _ _ _ _ hD
def d_fillsWays_186 (K170 : (Nat → Int32) → (Nat → Nat → Int32) → (Nat → Nat → Int64) → Int32 → Option (Unit × (Nat → Int32) × (Nat → Nat → Int32) × (Nat → Nat → Int64))) (K178 : (Nat → Int32) → (Nat → Nat → Int32) → (Nat → Nat → Int64) → Int32 → Int32 → Option (Unit × (Nat → Int32) × (Nat → Nat → Int32) × (Nat → Nat → Int64))) : Nat → (Nat → Int32) → (Nat → Nat → Int32) → (Nat → Nat → Int64) → Int32 → Int32 → Int32 → Option (Unit × (Nat → Int32) × (Nat → Nat → Int32) × (Nat → Nat → Int64))
  | 0, _, _, _, _, _, _ => none
  | n + 1, F, A, J, x1, x2, x3 => cond (g_cnd .ge x3 8)
    (K178 F A J x1 (x2 + 1))
    ((m_ld (A 49) 64 ((8 * x2) + x1)).bind fun v20 =>
    (m_ld (A 49) 64 ((8 * x1) + x3)).bind fun v21 =>
    (m_ld (A 49) 64 ((8 * x2) + x3)).bind fun v22 =>
    cond (g_cnd .ge (v20 + v21) v22)
    (d_fillsWays_263 K170 K178 (d_fillsWays_186 K170 K178 n) n F A J x1 x2 x3)
    ((m_ld (A 49) 64 ((8 * x2) + x1)).bind fun v24 =>
    (m_ld (A 49) 64 ((8 * x1) + x3)).bind fun v25 =>
    (m_st A 49 64 ((8 * x2) + x3) (v24 + v25)).bind fun A26 =>
    (d_fillsWays_186 K170 K178 n) F A26 J x1 x2 (x3 + 1)))
theorem t_d_fillsWays_186 {n : Nat} {K170 : (Nat → Int32) → (Nat → Nat → Int32) → (Nat → Nat → Int64) → Int32 → Option (Unit × (Nat → Int32) × (Nat → Nat → Int32) × (Nat → Nat → Int64))} {K178 : (Nat → Int32) → (Nat → Nat → Int32) → (Nat → Nat → Int64) → Int32 → Int32 → Option (Unit × (Nat → Int32) × (Nat → Nat → Int32) × (Nat → Nat → Int64))} (hK170 : ∀ (F : Nat → Int32) (A : Nat → Nat → Int32) (J : Nat → Nat → Int64) (x1 : Int32) (w : Unit × (Nat → Int32) × (Nat → Nat → Int32) × (Nat → Nat → Int64)), K170 F A J x1 = some w → k_run t lg (d) 192 170 [(0, .ref 40960), (1, .int x1)] [] (m_h c B F A J) (none, m_h c B w.2.1 w.2.2.1 w.2.2.2)) (hK178 : ∀ (F : Nat → Int32) (A : Nat → Nat → Int32) (J : Nat → Nat → Int64) (x1 : Int32) (x2 : Int32) (w : Unit × (Nat → Int32) × (Nat → Nat → Int32) × (Nat → Nat → Int64)), K178 F A J x1 x2 = some w → k_run t lg (d) 192 178 [(0, .ref 40960), (1, .int x1), (2, .int x2)] [] (m_h c B F A J) (none, m_h c B w.2.1 w.2.2.1 w.2.2.2)) {F : Nat → Int32} {A : Nat → Nat → Int32} {J : Nat → Nat → Int64} {x1 : Int32} {x2 : Int32} {x3 : Int32} {w : Unit × (Nat → Int32) × (Nat → Nat → Int32) × (Nat → Nat → Int64)} : d_fillsWays_186 K170 K178 n F A J x1 x2 x3 = some w → k_run t lg (d) 192 186 [(0, .ref 40960), (1, .int x1), (2, .int x2), (3, .int x3)] [] (m_h c B F A J) (none, m_h c B w.2.1 w.2.2.1 w.2.2.2) := by
  induction n generalizing F A J x1 x2 x3 w with
  | zero => intro hD; cases hD
  | succ n ih =>
    intro hD
    have hK186 : ∀ (F : Nat → Int32) (A : Nat → Nat → Int32) (J : Nat → Nat → Int64) (x1 : Int32) (x2 : Int32) (x3 : Int32) (w : Unit × (Nat → Int32) × (Nat → Nat → Int32) × (Nat → Nat → Int64)), d_fillsWays_186 K170 K178 n F A J x1 x2 x3 = some w → k_run t lg (d) 192 186 [(0, .ref 40960), (1, .int x1), (2, .int x2), (3, .int x3)] [] (m_h c B F A J) (none, m_h c B w.2.1 w.2.2.1 w.2.2.2) := fun _ _ _ _ _ _ _ h => ih h
    unfold d_fillsWays_186 at hD
    refine k_runB (pc' := 189) (loc' := [(0, .ref 40960), (1, .int x1), (2, .int x2), (3, .int x3)]) (st' := [.int 8, .int x3]) 2 rfl ?_
    refine k_ic rfl (fun c189_18 => ?_) (fun c189_18 => ?_)
    · rw [c189_18, cond_true] at hD
      refine k_runB (pc' := 178) (loc' := [(0, .ref 40960), (1, .int x1), (2, .int (x2 + 1)), (3, .int x3)]) (st' := []) 2 rfl ?_
      refine k_wk [0, 1, 2] (loc' := [(0, .ref 40960), (1, .int x1), (2, .int (x2 + 1))]) rfl rfl ?_
      exact hK178 _ _ _ _ _ _ hD
    · rw [c189_18, cond_false] at hD
      refine k_runB (pc' := 202) (loc' := [(0, .ref 40960), (1, .int x1), (2, .int x2), (3, .int x3)]) (st' := [.int ((8 * x2) + x1), .ref 41009]) 7 rfl ?_
      obtain ⟨v20, hv20, hD⟩ := Option.bind_eq_some_iff.mp hD
      refine k_ldI rfl rfl hv20 ?_
      refine k_runB (pc' := 213) (loc' := [(0, .ref 40960), (1, .int x1), (2, .int x2), (3, .int x3)]) (st' := [.int ((8 * x1) + x3), .ref 41009, .int v20]) 7 rfl ?_
      obtain ⟨v21, hv21, hD⟩ := Option.bind_eq_some_iff.mp hD
      refine k_ldI rfl rfl hv21 ?_
      refine k_runB (pc' := 225) (loc' := [(0, .ref 40960), (1, .int x1), (2, .int x2), (3, .int x3)]) (st' := [.int ((8 * x2) + x3), .ref 41009, .int (v20 + v21)]) 8 rfl ?_
      obtain ⟨v22, hv22, hD⟩ := Option.bind_eq_some_iff.mp hD
      refine k_ldI rfl rfl hv22 ?_
      refine k_ic rfl (fun c226_22 => ?_) (fun c226_22 => ?_)
      · rw [c226_22, cond_true] at hD
        refine k_wk [0, 1, 2, 3] (loc' := [(0, .ref 40960), (1, .int x1), (2, .int x2), (3, .int x3)]) rfl rfl ?_
        exact t_d_fillsWays_263 hK170 hK178 hK186 hD
      · rw [c226_22, cond_false] at hD
        refine k_runB (pc' := 249) (loc' := [(0, .ref 40960), (1, .int x1), (2, .int x2), (3, .int x3)]) (st' := [.int ((8 * x2) + x1), .ref 41009, .int ((8 * x2) + x3), .ref 41009]) 14 rfl ?_
        obtain ⟨v24, hv24, hD⟩ := Option.bind_eq_some_iff.mp hD
        refine k_ldI rfl rfl hv24 ?_
        refine k_runB (pc' := 260) (loc' := [(0, .ref 40960), (1, .int x1), (2, .int x2), (3, .int x3)]) (st' := [.int ((8 * x1) + x3), .ref 41009, .int v24, .int ((8 * x2) + x3), .ref 41009]) 7 rfl ?_
        obtain ⟨v25, hv25, hD⟩ := Option.bind_eq_some_iff.mp hD
        refine k_ldI rfl rfl hv25 ?_
        refine k_runB (pc' := 262) (loc' := [(0, .ref 40960), (1, .int x1), (2, .int x2), (3, .int x3)]) (st' := [.int (v24 + v25), .int ((8 * x2) + x3), .ref 41009]) 1 rfl ?_
        obtain ⟨A26, hA26, hD⟩ := Option.bind_eq_some_iff.mp hD
        refine k_stI 49 rfl rfl (fun _ => rfl) hA26 ?_
        refine k_runB (pc' := 186) (loc' := [(0, .ref 40960), (1, .int x1), (2, .int x2), (3, .int (x3 + 1))]) (st' := []) 2 rfl ?_
        refine k_wk [0, 1, 2, 3] (loc' := [(0, .ref 40960), (1, .int x1), (2, .int x2), (3, .int (x3 + 1))]) rfl rfl ?_
        exact hK186 _ _ _ _ _ _ _ hD
def d_fillsWays_178 (K170 : (Nat → Int32) → (Nat → Nat → Int32) → (Nat → Nat → Int64) → Int32 → Option (Unit × (Nat → Int32) × (Nat → Nat → Int32) × (Nat → Nat → Int64))) : Nat → (Nat → Int32) → (Nat → Nat → Int32) → (Nat → Nat → Int64) → Int32 → Int32 → Option (Unit × (Nat → Int32) × (Nat → Nat → Int32) × (Nat → Nat → Int64))
  | 0, _, _, _, _, _ => none
  | n + 1, F, A, J, x1, x2 => cond (g_cnd .ge x2 8)
    (K170 F A J (x1 + 1))
    (d_fillsWays_186 K170 (d_fillsWays_178 K170 n) n F A J x1 x2 0)
theorem t_d_fillsWays_178 {n : Nat} {K170 : (Nat → Int32) → (Nat → Nat → Int32) → (Nat → Nat → Int64) → Int32 → Option (Unit × (Nat → Int32) × (Nat → Nat → Int32) × (Nat → Nat → Int64))} (hK170 : ∀ (F : Nat → Int32) (A : Nat → Nat → Int32) (J : Nat → Nat → Int64) (x1 : Int32) (w : Unit × (Nat → Int32) × (Nat → Nat → Int32) × (Nat → Nat → Int64)), K170 F A J x1 = some w → k_run t lg (d) 192 170 [(0, .ref 40960), (1, .int x1)] [] (m_h c B F A J) (none, m_h c B w.2.1 w.2.2.1 w.2.2.2)) {F : Nat → Int32} {A : Nat → Nat → Int32} {J : Nat → Nat → Int64} {x1 : Int32} {x2 : Int32} {w : Unit × (Nat → Int32) × (Nat → Nat → Int32) × (Nat → Nat → Int64)} : d_fillsWays_178 K170 n F A J x1 x2 = some w → k_run t lg (d) 192 178 [(0, .ref 40960), (1, .int x1), (2, .int x2)] [] (m_h c B F A J) (none, m_h c B w.2.1 w.2.2.1 w.2.2.2) := by
  induction n generalizing F A J x1 x2 w with
  | zero => intro hD; cases hD
  | succ n ih =>
    intro hD
    have hK178 : ∀ (F : Nat → Int32) (A : Nat → Nat → Int32) (J : Nat → Nat → Int64) (x1 : Int32) (x2 : Int32) (w : Unit × (Nat → Int32) × (Nat → Nat → Int32) × (Nat → Nat → Int64)), d_fillsWays_178 K170 n F A J x1 x2 = some w → k_run t lg (d) 192 178 [(0, .ref 40960), (1, .int x1), (2, .int x2)] [] (m_h c B F A J) (none, m_h c B w.2.1 w.2.2.1 w.2.2.2) := fun _ _ _ _ _ _ h => ih h
    unfold d_fillsWays_178 at hD
    refine k_runB (pc' := 181) (loc' := [(0, .ref 40960), (1, .int x1), (2, .int x2)]) (st' := [.int 8, .int x2]) 2 rfl ?_
    refine k_ic rfl (fun c181_17 => ?_) (fun c181_17 => ?_)
    · rw [c181_17, cond_true] at hD
      refine k_runB (pc' := 170) (loc' := [(0, .ref 40960), (1, .int (x1 + 1)), (2, .int x2)]) (st' := []) 2 rfl ?_
      refine k_wk [0, 1] (loc' := [(0, .ref 40960), (1, .int (x1 + 1))]) rfl rfl ?_
      exact hK170 _ _ _ _ _ hD
    · rw [c181_17, cond_false] at hD
      refine k_runB (pc' := 186) (loc' := [(0, .ref 40960), (1, .int x1), (2, .int x2), (3, .int 0)]) (st' := []) 2 rfl ?_
      refine k_wk [0, 1, 2, 3] (loc' := [(0, .ref 40960), (1, .int x1), (2, .int x2), (3, .int 0)]) rfl rfl ?_
      exact t_d_fillsWays_186 hK170 hK178 hD
def d_fillsWays_170 : Nat → (Nat → Int32) → (Nat → Nat → Int32) → (Nat → Nat → Int64) → Int32 → Option (Unit × (Nat → Int32) × (Nat → Nat → Int32) × (Nat → Nat → Int64))
  | 0, _, _, _, _ => none
  | n + 1, F, A, J, x1 => cond (g_cnd .ge x1 8)
    (some ((), F, A, J))
    (d_fillsWays_178 (d_fillsWays_170 n) n F A J x1 0)
theorem t_d_fillsWays_170 {n : Nat}  {F : Nat → Int32} {A : Nat → Nat → Int32} {J : Nat → Nat → Int64} {x1 : Int32} {w : Unit × (Nat → Int32) × (Nat → Nat → Int32) × (Nat → Nat → Int64)} : d_fillsWays_170 n F A J x1 = some w → k_run t lg (d) 192 170 [(0, .ref 40960), (1, .int x1)] [] (m_h c B F A J) (none, m_h c B w.2.1 w.2.2.1 w.2.2.2) := by
  induction n generalizing F A J x1 w with
  | zero => intro hD; cases hD
  | succ n ih =>
    intro hD
    have hK170 : ∀ (F : Nat → Int32) (A : Nat → Nat → Int32) (J : Nat → Nat → Int64) (x1 : Int32) (w : Unit × (Nat → Int32) × (Nat → Nat → Int32) × (Nat → Nat → Int64)), d_fillsWays_170 n F A J x1 = some w → k_run t lg (d) 192 170 [(0, .ref 40960), (1, .int x1)] [] (m_h c B F A J) (none, m_h c B w.2.1 w.2.2.1 w.2.2.2) := fun _ _ _ _ _ h => ih h
    unfold d_fillsWays_170 at hD
    refine k_runB (pc' := 173) (loc' := [(0, .ref 40960), (1, .int x1)]) (st' := [.int 8, .int x1]) 2 rfl ?_
    refine k_ic rfl (fun c173_16 => ?_) (fun c173_16 => ?_)
    · rw [c173_16, cond_true] at hD
      cases hD
      exact k_vret rfl rfl
    · rw [c173_16, cond_false] at hD
      refine k_runB (pc' := 178) (loc' := [(0, .ref 40960), (1, .int x1), (2, .int 0)]) (st' := []) 2 rfl ?_
      refine k_wk [0, 1, 2] (loc' := [(0, .ref 40960), (1, .int x1), (2, .int 0)]) rfl rfl ?_
      exact t_d_fillsWays_178 hK170 hD
def d_fillsWays_162 (K40 : (Nat → Int32) → (Nat → Nat → Int32) → (Nat → Nat → Int64) → Int32 → Option (Unit × (Nat → Int32) × (Nat → Nat → Int32) × (Nat → Nat → Int64))) (n : Nat) (F : Nat → Int32) (A : Nat → Nat → Int32) (J : Nat → Nat → Int64) (x1 : Int32) : Option (Unit × (Nat → Int32) × (Nat → Nat → Int32) × (Nat → Nat → Int64)) :=
    K40 F A J (x1 + 1)
theorem t_d_fillsWays_162 {n : Nat} {K40 : (Nat → Int32) → (Nat → Nat → Int32) → (Nat → Nat → Int64) → Int32 → Option (Unit × (Nat → Int32) × (Nat → Nat → Int32) × (Nat → Nat → Int64))} (hK40 : ∀ (F : Nat → Int32) (A : Nat → Nat → Int32) (J : Nat → Nat → Int64) (x1 : Int32) (w : Unit × (Nat → Int32) × (Nat → Nat → Int32) × (Nat → Nat → Int64)), K40 F A J x1 = some w → k_run t lg (d) 192 40 [(0, .ref 40960), (1, .int x1)] [] (m_h c B F A J) (none, m_h c B w.2.1 w.2.2.1 w.2.2.2)) {F : Nat → Int32} {A : Nat → Nat → Int32} {J : Nat → Nat → Int64} {x1 : Int32} {w : Unit × (Nat → Int32) × (Nat → Nat → Int32) × (Nat → Nat → Int64)} : d_fillsWays_162 K40 n F A J x1 = some w → k_run t lg (d) 192 162 [(0, .ref 40960), (1, .int x1)] [] (m_h c B F A J) (none, m_h c B w.2.1 w.2.2.1 w.2.2.2) := by
  intro hD
  unfold d_fillsWays_162 at hD
  refine k_runB (pc' := 40) (loc' := [(0, .ref 40960), (1, .int (x1 + 1))]) (st' := []) 2 rfl ?_
  refine k_wk [0, 1] (loc' := [(0, .ref 40960), (1, .int (x1 + 1))]) rfl rfl ?_
  exact hK40 _ _ _ _ _ hD
def d_fillsWays_40 : Nat → (Nat → Int32) → (Nat → Nat → Int32) → (Nat → Nat → Int64) → Int32 → Option (Unit × (Nat → Int32) × (Nat → Nat → Int32) × (Nat → Nat → Int64))
  | 0, _, _, _, _ => none
  | n + 1, F, A, J, x1 => (m_ld (A 12) 2 (F 18)).bind fun v5 =>
    cond (g_cnd .ge x1 v5)
    (d_fillsWays_170 n F A J 0)
    ((m_ld (A 48) 100 78).bind fun v7 =>
    cond (g_cnd .ne ((v7 >>> (x1 &&& 31)) &&& 1) 1)
    ((m_ld (A 13) 24 ((12 * (F 18)) + x1)).bind fun v9 =>
    (m_ld (A 14) 24 ((12 * (F 18)) + x1)).bind fun v10 =>
    (m_ld (A 15) 24 ((12 * (F 18)) + x1)).bind fun v11 =>
    (m_ld (A 49) 64 ((8 * v9) + v10)).bind fun v12 =>
    cond (g_cnd .lt v11 v12)
    ((m_st A 49 64 ((8 * v9) + v10) v11).bind fun A14 =>
    (m_st A14 49 64 ((8 * v10) + v9) v11).bind fun A15 =>
    (d_fillsWays_40 n) F A15 J (x1 + 1))
    (d_fillsWays_162 (d_fillsWays_40 n) n F A J x1))
    (d_fillsWays_162 (d_fillsWays_40 n) n F A J x1))
theorem t_d_fillsWays_40 {n : Nat}  {F : Nat → Int32} {A : Nat → Nat → Int32} {J : Nat → Nat → Int64} {x1 : Int32} {w : Unit × (Nat → Int32) × (Nat → Nat → Int32) × (Nat → Nat → Int64)} : d_fillsWays_40 n F A J x1 = some w → k_run t lg (d) 192 40 [(0, .ref 40960), (1, .int x1)] [] (m_h c B F A J) (none, m_h c B w.2.1 w.2.2.1 w.2.2.2) := by
  induction n generalizing F A J x1 w with
  | zero => intro hD; cases hD
  | succ n ih =>
    intro hD
    have hK40 : ∀ (F : Nat → Int32) (A : Nat → Nat → Int32) (J : Nat → Nat → Int64) (x1 : Int32) (w : Unit × (Nat → Int32) × (Nat → Nat → Int32) × (Nat → Nat → Int64)), d_fillsWays_40 n F A J x1 = some w → k_run t lg (d) 192 40 [(0, .ref 40960), (1, .int x1)] [] (m_h c B F A J) (none, m_h c B w.2.1 w.2.2.1 w.2.2.2) := fun _ _ _ _ _ h => ih h
    unfold d_fillsWays_40 at hD
    refine k_runB (pc' := 49) (loc' := [(0, .ref 40960), (1, .int x1)]) (st' := [.int (F 18), .ref 40972, .int x1]) 5 rfl ?_
    obtain ⟨v5, hv5, hD⟩ := Option.bind_eq_some_iff.mp hD
    refine k_ldI rfl rfl hv5 ?_
    refine k_ic rfl (fun c50_5 => ?_) (fun c50_5 => ?_)
    · rw [c50_5, cond_true] at hD
      refine k_runB (pc' := 170) (loc' := [(0, .ref 40960), (1, .int 0)]) (st' := []) 2 rfl ?_
      refine k_wk [0, 1] (loc' := [(0, .ref 40960), (1, .int 0)]) rfl rfl ?_
      exact t_d_fillsWays_170  hD
    · rw [c50_5, cond_false] at hD
      refine k_runB (pc' := 59) (loc' := [(0, .ref 40960), (1, .int x1)]) (st' := [.int 78, .ref 41008]) 3 rfl ?_
      obtain ⟨v7, hv7, hD⟩ := Option.bind_eq_some_iff.mp hD
      refine k_ldI rfl rfl hv7 ?_
      refine k_runB (pc' := 65) (loc' := [(0, .ref 40960), (1, .int x1)]) (st' := [.int 1, .int ((v7 >>> (x1 &&& 31)) &&& 1)]) 5 rfl ?_
      refine k_ic rfl (fun c65_7 => ?_) (fun c65_7 => ?_)
      · rw [c65_7, cond_true] at hD
        refine k_runB (pc' := 84) (loc' := [(0, .ref 40960), (1, .int x1)]) (st' := [.int ((12 * (F 18)) + x1), .ref 40973]) 8 rfl ?_
        obtain ⟨v9, hv9, hD⟩ := Option.bind_eq_some_iff.mp hD
        refine k_ldI rfl rfl hv9 ?_
        refine k_runB (pc' := 99) (loc' := [(0, .ref 40960), (1, .int x1), (2, .int v9)]) (st' := [.int ((12 * (F 18)) + x1), .ref 40974]) 9 rfl ?_
        obtain ⟨v10, hv10, hD⟩ := Option.bind_eq_some_iff.mp hD
        refine k_ldI rfl rfl hv10 ?_
        refine k_runB (pc' := 114) (loc' := [(0, .ref 40960), (1, .int x1), (2, .int v9), (3, .int v10)]) (st' := [.int ((12 * (F 18)) + x1), .ref 40975]) 9 rfl ?_
        obtain ⟨v11, hv11, hD⟩ := Option.bind_eq_some_iff.mp hD
        refine k_ldI rfl rfl hv11 ?_
        refine k_runB (pc' := 129) (loc' := [(0, .ref 40960), (1, .int x1), (2, .int v9), (3, .int v10), (4, .int v11)]) (st' := [.int ((8 * v9) + v10), .ref 41009, .int v11]) 9 rfl ?_
        obtain ⟨v12, hv12, hD⟩ := Option.bind_eq_some_iff.mp hD
        refine k_ldI rfl rfl hv12 ?_
        refine k_ic rfl (fun c130_12 => ?_) (fun c130_12 => ?_)
        · rw [c130_12, cond_true] at hD
          refine k_runB (pc' := 148) (loc' := [(0, .ref 40960), (1, .int x1), (2, .int v9), (3, .int v10), (4, .int v11)]) (st' := [.int v11, .int ((8 * v9) + v10), .ref 41009]) 8 rfl ?_
          obtain ⟨A14, hA14, hD⟩ := Option.bind_eq_some_iff.mp hD
          refine k_stI 49 rfl rfl (fun _ => rfl) hA14 ?_
          refine k_runB (pc' := 161) (loc' := [(0, .ref 40960), (1, .int x1), (2, .int v9), (3, .int v10), (4, .int v11)]) (st' := [.int v11, .int ((8 * v10) + v9), .ref 41009]) 8 rfl ?_
          obtain ⟨A15, hA15, hD⟩ := Option.bind_eq_some_iff.mp hD
          refine k_stI 49 rfl rfl (fun _ => rfl) hA15 ?_
          refine k_runB (pc' := 40) (loc' := [(0, .ref 40960), (1, .int (x1 + 1)), (2, .int v9), (3, .int v10), (4, .int v11)]) (st' := []) 2 rfl ?_
          refine k_wk [0, 1] (loc' := [(0, .ref 40960), (1, .int (x1 + 1))]) rfl rfl ?_
          exact hK40 _ _ _ _ _ hD
        · rw [c130_12, cond_false] at hD
          refine k_runB (pc' := 162) (loc' := [(0, .ref 40960), (1, .int x1), (2, .int v9), (3, .int v10), (4, .int v11)]) (st' := []) 1 rfl ?_
          refine k_wk [0, 1] (loc' := [(0, .ref 40960), (1, .int x1)]) rfl rfl ?_
          exact t_d_fillsWays_162 hK40 hD
      · rw [c65_7, cond_false] at hD
        refine k_runB (pc' := 162) (loc' := [(0, .ref 40960), (1, .int x1)]) (st' := []) 1 rfl ?_
        refine k_wk [0, 1] (loc' := [(0, .ref 40960), (1, .int x1)]) rfl rfl ?_
        exact t_d_fillsWays_162 hK40 hD
def d_fillsWays_31 (K2 : (Nat → Int32) → (Nat → Nat → Int32) → (Nat → Nat → Int64) → Int32 → Option (Unit × (Nat → Int32) × (Nat → Nat → Int32) × (Nat → Nat → Int64))) (n : Nat) (F : Nat → Int32) (A : Nat → Nat → Int32) (J : Nat → Nat → Int64) (x1 : Int32) (s1 : Int32) (s2 : Int32) : Option (Unit × (Nat → Int32) × (Nat → Nat → Int32) × (Nat → Nat → Int64)) :=
    (m_st A 49 64 s1 s2).bind fun A16 =>
    K2 F A16 J (x1 + 1)
theorem t_d_fillsWays_31 {n : Nat} {K2 : (Nat → Int32) → (Nat → Nat → Int32) → (Nat → Nat → Int64) → Int32 → Option (Unit × (Nat → Int32) × (Nat → Nat → Int32) × (Nat → Nat → Int64))} (hK2 : ∀ (F : Nat → Int32) (A : Nat → Nat → Int32) (J : Nat → Nat → Int64) (x1 : Int32) (w : Unit × (Nat → Int32) × (Nat → Nat → Int32) × (Nat → Nat → Int64)), K2 F A J x1 = some w → k_run t lg (d) 192 2 [(0, .ref 40960), (1, .int x1)] [] (m_h c B F A J) (none, m_h c B w.2.1 w.2.2.1 w.2.2.2)) {F : Nat → Int32} {A : Nat → Nat → Int32} {J : Nat → Nat → Int64} {x1 : Int32} {s1 : Int32} {s2 : Int32} {w : Unit × (Nat → Int32) × (Nat → Nat → Int32) × (Nat → Nat → Int64)} : d_fillsWays_31 K2 n F A J x1 s1 s2 = some w → k_run t lg (d) 192 31 [(0, .ref 40960), (1, .int x1)] [.int s2, .int s1, .ref 41009] (m_h c B F A J) (none, m_h c B w.2.1 w.2.2.1 w.2.2.2) := by
  intro hD
  unfold d_fillsWays_31 at hD
  obtain ⟨A16, hA16, hD⟩ := Option.bind_eq_some_iff.mp hD
  refine k_stI 49 rfl rfl (fun _ => rfl) hA16 ?_
  refine k_runB (pc' := 2) (loc' := [(0, .ref 40960), (1, .int (x1 + 1))]) (st' := []) 2 rfl ?_
  refine k_wk [0, 1] (loc' := [(0, .ref 40960), (1, .int (x1 + 1))]) rfl rfl ?_
  exact hK2 _ _ _ _ _ hD
def d_fillsWays_2 : Nat → (Nat → Int32) → (Nat → Nat → Int32) → (Nat → Nat → Int64) → Int32 → Option (Unit × (Nat → Int32) × (Nat → Nat → Int32) × (Nat → Nat → Int64))
  | 0, _, _, _, _ => none
  | n + 1, F, A, J, x1 => cond (g_cnd .ge x1 64)
    (d_fillsWays_40 n F A J 0)
    ((m_div x1 8).bind fun v2 =>
    (m_rem x1 8).bind fun v3 =>
    cond (g_cnd .ne v2 v3)
    (d_fillsWays_31 (d_fillsWays_2 n) n F A J x1 x1 1000000)
    (d_fillsWays_31 (d_fillsWays_2 n) n F A J x1 x1 0))
theorem t_d_fillsWays_2 {n : Nat}  {F : Nat → Int32} {A : Nat → Nat → Int32} {J : Nat → Nat → Int64} {x1 : Int32} {w : Unit × (Nat → Int32) × (Nat → Nat → Int32) × (Nat → Nat → Int64)} : d_fillsWays_2 n F A J x1 = some w → k_run t lg (d) 192 2 [(0, .ref 40960), (1, .int x1)] [] (m_h c B F A J) (none, m_h c B w.2.1 w.2.2.1 w.2.2.2) := by
  induction n generalizing F A J x1 w with
  | zero => intro hD; cases hD
  | succ n ih =>
    intro hD
    have hK2 : ∀ (F : Nat → Int32) (A : Nat → Nat → Int32) (J : Nat → Nat → Int64) (x1 : Int32) (w : Unit × (Nat → Int32) × (Nat → Nat → Int32) × (Nat → Nat → Int64)), d_fillsWays_2 n F A J x1 = some w → k_run t lg (d) 192 2 [(0, .ref 40960), (1, .int x1)] [] (m_h c B F A J) (none, m_h c B w.2.1 w.2.2.1 w.2.2.2) := fun _ _ _ _ _ h => ih h
    unfold d_fillsWays_2 at hD
    refine k_runB (pc' := 5) (loc' := [(0, .ref 40960), (1, .int x1)]) (st' := [.int 64, .int x1]) 2 rfl ?_
    refine k_ic rfl (fun c5_0 => ?_) (fun c5_0 => ?_)
    · rw [c5_0, cond_true] at hD
      refine k_runB (pc' := 40) (loc' := [(0, .ref 40960), (1, .int 0)]) (st' := []) 2 rfl ?_
      refine k_wk [0, 1] (loc' := [(0, .ref 40960), (1, .int 0)]) rfl rfl ?_
      exact t_d_fillsWays_40  hD
    · rw [c5_0, cond_false] at hD
      refine k_runB (pc' := 16) (loc' := [(0, .ref 40960), (1, .int x1)]) (st' := [.int 8, .int x1, .int x1, .ref 41009]) 5 rfl ?_
      obtain ⟨v2, hv2, hD⟩ := Option.bind_eq_some_iff.mp hD
      refine k_dvI rfl hv2 ?_
      refine k_runB (pc' := 20) (loc' := [(0, .ref 40960), (1, .int x1)]) (st' := [.int 8, .int x1, .int v2, .int x1, .ref 41009]) 2 rfl ?_
      obtain ⟨v3, hv3, hD⟩ := Option.bind_eq_some_iff.mp hD
      refine k_rmI rfl hv3 ?_
      refine k_ic rfl (fun c21_3 => ?_) (fun c21_3 => ?_)
      · rw [c21_3, cond_true] at hD
        refine k_runB (pc' := 31) (loc' := [(0, .ref 40960), (1, .int x1)]) (st' := [.int 1000000, .int x1, .ref 41009]) 1 rfl ?_
        refine k_wk [0, 1] (loc' := [(0, .ref 40960), (1, .int x1)]) rfl rfl ?_
        exact t_d_fillsWays_31 hK2 hD
      · rw [c21_3, cond_false] at hD
        refine k_runB (pc' := 31) (loc' := [(0, .ref 40960), (1, .int x1)]) (st' := [.int 0, .int x1, .ref 41009]) 2 rfl ?_
        refine k_wk [0, 1] (loc' := [(0, .ref 40960), (1, .int x1)]) rfl rfl ?_
        exact t_d_fillsWays_31 hK2 hD
/-- SleepWorkModel.fillsWays()V -/
def d_fillsWays (n : Nat) (F : Nat → Int32) (A : Nat → Nat → Int32) (J : Nat → Nat → Int64) : Option (Unit × (Nat → Int32) × (Nat → Nat → Int32) × (Nat → Nat → Int64)) :=
  d_fillsWays_2 n F A J 0
theorem t_d_fillsWays {n : Nat} {r : Unit} {F' : Nat → Int32} {A' : Nat → Nat → Int32} {J' : Nat → Nat → Int64} : d_fillsWays n F A J = some (r, F', A', J') → k_run t lg (d) 192 0 [(0, .ref 40960)] [] (m_h c B F A J) (none, m_h c B F' A' J') := by
  intro hD
  unfold d_fillsWays at hD
  refine k_runB (pc' := 2) (loc' := [(0, .ref 40960), (1, .int 0)]) (st' := []) 2 rfl ?_
  refine k_wk [0, 1] (loc' := [(0, .ref 40960), (1, .int 0)]) rfl rfl ?_
  exact t_d_fillsWays_2  hD
def d_getsUp_117 (F : Nat → Int32) (A : Nat → Nat → Int32) (J : Nat → Nat → Int64) (x1 : Int32) (x3 : Int32) (s1 : Int32) (s2 : Int32) : Option (Unit × (Nat → Int32) × (Nat → Nat → Int32) × (Nat → Nat → Int64)) :=
    (m_st A 50 6 s1 s2).bind fun A13 =>
    (m_st A13 51 6 x1 x3).bind fun A14 =>
    cond (g_cnd .ne x3 1000000)
    (some ((), F, A14, J))
    ((m_st A14 48 100 (66 + x1) 0).bind fun A16 =>
    some ((), F, A16, J))
theorem t_d_getsUp_117  {F : Nat → Int32} {A : Nat → Nat → Int32} {J : Nat → Nat → Int64} {x1 : Int32} {x3 : Int32} {s1 : Int32} {s2 : Int32} {w : Unit × (Nat → Int32) × (Nat → Nat → Int32) × (Nat → Nat → Int64)} : d_getsUp_117 F A J x1 x3 s1 s2 = some w → k_run t lg (d) 193 117 [(0, .ref 40960), (1, .int x1), (3, .int x3)] [.int s2, .int s1, .ref 41010] (m_h c B F A J) (none, m_h c B w.2.1 w.2.2.1 w.2.2.2) := by
  intro hD
  unfold d_getsUp_117 at hD
  obtain ⟨A13, hA13, hD⟩ := Option.bind_eq_some_iff.mp hD
  refine k_stI 50 rfl rfl (fun _ => rfl) hA13 ?_
  refine k_runB (pc' := 124) (loc' := [(0, .ref 40960), (1, .int x1), (3, .int x3)]) (st' := [.int x3, .int x1, .ref 41011]) 4 rfl ?_
  obtain ⟨A14, hA14, hD⟩ := Option.bind_eq_some_iff.mp hD
  refine k_stI 51 rfl rfl (fun _ => rfl) hA14 ?_
  refine k_runB (pc' := 129) (loc' := [(0, .ref 40960), (1, .int x1), (3, .int x3)]) (st' := [.int 1000000, .int x3]) 2 rfl ?_
  refine k_ic rfl (fun c129_14 => ?_) (fun c129_14 => ?_)
  · rw [c129_14, cond_true] at hD
    cases hD
    exact k_vret rfl rfl
  · rw [c129_14, cond_false] at hD
    refine k_runB (pc' := 141) (loc' := [(0, .ref 40960), (1, .int x1), (3, .int x3)]) (st' := [.int 0, .int (66 + x1), .ref 41008]) 6 rfl ?_
    obtain ⟨A16, hA16, hD⟩ := Option.bind_eq_some_iff.mp hD
    refine k_stI 48 rfl rfl (fun _ => rfl) hA16 ?_
    cases hD
    exact k_vret rfl rfl
/-- SleepWorkModel.getsUp(I)V -/
def d_getsUp (F : Nat → Int32) (A : Nat → Nat → Int32) (J : Nat → Nat → Int64) (x1 : Int32) : Option (Unit × (Nat → Int32) × (Nat → Nat → Int32) × (Nat → Nat → Int64)) :=
  (m_ld (A 48) 100 (42 + x1)).bind fun v1 =>
  (m_st A 50 6 x1 0).bind fun A2 =>
  (m_st A2 55 6 x1 0).bind fun A3 =>
  (m_st A3 56 6 x1 (vp_nar .boolean 0)).bind fun A4 =>
  (m_st A4 48 100 (66 + x1) ((-2))).bind fun A5 =>
  (m_ld (A5 48) 100 (48 + x1)).bind fun v6 =>
  (m_st A5 54 6 x1 v6).bind fun A7 =>
  cond (g_cnd .ge v1 0)
  ((m_ld (A7 30) 12 ((6 * (F 18)) + x1)).bind fun v9 =>
  (m_ld (A7 20) 12 ((6 * (F 18)) + v1)).bind fun v10 =>
  (m_ld (A7 49) 64 ((8 * v9) + v10)).bind fun v11 =>
  cond (g_cnd .ne v11 1000000)
  (d_getsUp_117 F A7 J x1 v11 x1 1)
  (d_getsUp_117 F A7 J x1 v11 x1 3))
  (some ((), F, A7, J))
theorem t_d_getsUp {x1 : Int32} {r : Unit} {F' : Nat → Int32} {A' : Nat → Nat → Int32} {J' : Nat → Nat → Int64} : d_getsUp F A J x1 = some (r, F', A', J') → k_run t lg (d) 193 0 [(0, .ref 40960), (1, .int x1)] [] (m_h c B F A J) (none, m_h c B F' A' J') := by
  intro hD
  unfold d_getsUp at hD
  refine k_runB (pc' := 8) (loc' := [(0, .ref 40960), (1, .int x1)]) (st' := [.int (42 + x1), .ref 41008]) 5 rfl ?_
  obtain ⟨v1, hv1, hD⟩ := Option.bind_eq_some_iff.mp hD
  refine k_ldI rfl rfl hv1 ?_
  refine k_runB (pc' := 16) (loc' := [(0, .ref 40960), (1, .int x1), (2, .int v1)]) (st' := [.int 0, .int x1, .ref 41010]) 5 rfl ?_
  obtain ⟨A2, hA2, hD⟩ := Option.bind_eq_some_iff.mp hD
  refine k_stI 50 rfl rfl (fun _ => rfl) hA2 ?_
  refine k_runB (pc' := 23) (loc' := [(0, .ref 40960), (1, .int x1), (2, .int v1)]) (st' := [.int 0, .int x1, .ref 41015]) 4 rfl ?_
  obtain ⟨A3, hA3, hD⟩ := Option.bind_eq_some_iff.mp hD
  refine k_stI 55 rfl rfl (fun _ => rfl) hA3 ?_
  refine k_runB (pc' := 30) (loc' := [(0, .ref 40960), (1, .int x1), (2, .int v1)]) (st' := [.int 0, .int x1, .ref 41016]) 4 rfl ?_
  obtain ⟨A4, hA4, hD⟩ := Option.bind_eq_some_iff.mp hD
  refine k_stZ 56 rfl rfl (fun _ => rfl) hA4 ?_
  refine k_runB (pc' := 41) (loc' := [(0, .ref 40960), (1, .int x1), (2, .int v1)]) (st' := [.int ((-2)), .int (66 + x1), .ref 41008]) 6 rfl ?_
  obtain ⟨A5, hA5, hD⟩ := Option.bind_eq_some_iff.mp hD
  refine k_stI 48 rfl rfl (fun _ => rfl) hA5 ?_
  refine k_runB (pc' := 55) (loc' := [(0, .ref 40960), (1, .int x1), (2, .int v1)]) (st' := [.int (48 + x1), .ref 41008, .int x1, .ref 41014]) 8 rfl ?_
  obtain ⟨v6, hv6, hD⟩ := Option.bind_eq_some_iff.mp hD
  refine k_ldI rfl rfl hv6 ?_
  obtain ⟨A7, hA7, hD⟩ := Option.bind_eq_some_iff.mp hD
  refine k_stI 54 rfl rfl (fun _ => rfl) hA7 ?_
  refine k_runB (pc' := 58) (loc' := [(0, .ref 40960), (1, .int x1), (2, .int v1)]) (st' := [.int v1]) 1 rfl ?_
  refine k_if rfl (fun c58_7 => ?_) (fun c58_7 => ?_)
  · rw [c58_7, cond_true] at hD
    refine k_runB (pc' := 81) (loc' := [(0, .ref 40960), (1, .int x1), (2, .int v1)]) (st' := [.int ((6 * (F 18)) + x1), .ref 40990, .int 8, .ref 41009]) 11 rfl ?_
    obtain ⟨v9, hv9, hD⟩ := Option.bind_eq_some_iff.mp hD
    refine k_ldI rfl rfl hv9 ?_
    refine k_runB (pc' := 96) (loc' := [(0, .ref 40960), (1, .int x1), (2, .int v1)]) (st' := [.int ((6 * (F 18)) + v1), .ref 40980, .int (8 * v9), .ref 41009]) 9 rfl ?_
    obtain ⟨v10, hv10, hD⟩ := Option.bind_eq_some_iff.mp hD
    refine k_ldI rfl rfl hv10 ?_
    refine k_runB (pc' := 98) (loc' := [(0, .ref 40960), (1, .int x1), (2, .int v1)]) (st' := [.int ((8 * v9) + v10), .ref 41009]) 1 rfl ?_
    obtain ⟨v11, hv11, hD⟩ := Option.bind_eq_some_iff.mp hD
    refine k_ldI rfl rfl hv11 ?_
    refine k_runB (pc' := 109) (loc' := [(0, .ref 40960), (1, .int x1), (2, .int v1), (3, .int v11)]) (st' := [.int 1000000, .int v11, .int x1, .ref 41010]) 6 rfl ?_
    refine k_ic rfl (fun c109_11 => ?_) (fun c109_11 => ?_)
    · rw [c109_11, cond_true] at hD
      refine k_runB (pc' := 117) (loc' := [(0, .ref 40960), (1, .int x1), (2, .int v1), (3, .int v11)]) (st' := [.int 1, .int x1, .ref 41010]) 1 rfl ?_
      refine k_wk [0, 1, 3] (loc' := [(0, .ref 40960), (1, .int x1), (3, .int v11)]) rfl rfl ?_
      exact t_d_getsUp_117  hD
    · rw [c109_11, cond_false] at hD
      refine k_runB (pc' := 117) (loc' := [(0, .ref 40960), (1, .int x1), (2, .int v1), (3, .int v11)]) (st' := [.int 3, .int x1, .ref 41010]) 2 rfl ?_
      refine k_wk [0, 1, 3] (loc' := [(0, .ref 40960), (1, .int x1), (3, .int v11)]) rfl rfl ?_
      exact t_d_getsUp_117  hD
  · rw [c58_7, cond_false] at hD
    cases hD
    exact k_vret rfl rfl
def d_tells_211 (n : Nat) (F : Nat → Int32) (A : Nat → Nat → Int32) (J : Nat → Nat → Int64) (x1 : Int32) (x3 : Int32) (x6 : Int32) : Option (Int32 × (Nat → Int32) × (Nat → Nat → Int32) × (Nat → Nat → Int64)) :=
    (m_ld (A 39) 100 x6).bind fun v36 =>
    (m_ld (A 40) 100 x6).bind fun v37 =>
    (d_termOf n F A J v36 v37).bind fun (v38, F39, A40, J41) =>
    cond (g_cnd .eq (F39 63) 0)
    (cond (g_cnd .ge v38 0)
    ((d_stepsOf F39 A40 J41 x3).bind fun v44 =>
    cond (g_cnd .lt v38 v44)
    (some (v38, F39, A40, J41))
    ((d_stepsOf F39 A40 J41 x3).bind fun v46 =>
    some (v46 - 1, F39, A40, J41)))
    (some (0, F39, A40, J41)))
    ((m_ld (A40 54) 6 x1).bind fun v47 =>
    some (v47, F39, A40, J41))
theorem t_d_tells_211 (ht : ∀ k, t.1 12 k = k_ty 12 k) {n : Nat}  {F : Nat → Int32} {A : Nat → Nat → Int32} {J : Nat → Nat → Int64} {x1 : Int32} {x3 : Int32} {x6 : Int32} {w : Int32 × (Nat → Int32) × (Nat → Nat → Int32) × (Nat → Nat → Int64)} : d_tells_211 n F A J x1 x3 x6 = some w → k_run t lg (d + 1) 194 211 [(0, .ref 40960), (1, .int x1), (3, .int x3), (6, .int x6)] [] (m_h c B F A J) (some (.int w.1), m_h c B w.2.1 w.2.2.1 w.2.2.2) := by
  intro hD
  unfold d_tells_211 at hD
  refine k_runB (pc' := 218) (loc' := [(0, .ref 40960), (1, .int x1), (3, .int x3), (6, .int x6)]) (st' := [.int x6, .ref 40999, .ref 40960]) 4 rfl ?_
  obtain ⟨v36, hv36, hD⟩ := Option.bind_eq_some_iff.mp hD
  refine k_ldI rfl rfl hv36 ?_
  refine k_runB (pc' := 225) (loc' := [(0, .ref 40960), (1, .int x1), (3, .int x3), (6, .int x6)]) (st' := [.int x6, .ref 41000, .int v36, .ref 40960]) 3 rfl ?_
  obtain ⟨v37, hv37, hD⟩ := Option.bind_eq_some_iff.mp hD
  refine k_ldI rfl rfl hv37 ?_
  obtain ⟨⟨v38, F39, A40, J41⟩, hv38, hD⟩ := Option.bind_eq_some_iff.mp hD
  dsimp only at hD
  refine k_runC rfl rfl rfl rfl (t_d_termOf (d := d) ht hv38) ?_
  refine k_runB (pc' := 235) (loc' := [(0, .ref 40960), (1, .int x1), (3, .int x3), (6, .int x6), (7, .int v38)]) (st' := [.int (F39 63)]) 3 rfl ?_
  refine k_if rfl (fun c235_41 => ?_) (fun c235_41 => ?_)
  · rw [c235_41, cond_true] at hD
    refine k_runB (pc' := 247) (loc' := [(0, .ref 40960), (1, .int x1), (3, .int x3), (6, .int x6), (7, .int v38)]) (st' := [.int v38]) 1 rfl ?_
    refine k_if rfl (fun c247_42 => ?_) (fun c247_42 => ?_)
    · rw [c247_42, cond_true] at hD
      refine k_runB (pc' := 258) (loc' := [(0, .ref 40960), (1, .int x1), (3, .int x3), (6, .int x6), (7, .int v38)]) (st' := [.int x3, .ref 40960, .int v38]) 3 rfl ?_
      obtain ⟨v44, hv44, hD⟩ := Option.bind_eq_some_iff.mp hD
      refine k_runC rfl rfl rfl rfl (t_d_stepsOf (d := d) hv44) ?_
      refine k_ic rfl (fun c261_44 => ?_) (fun c261_44 => ?_)
      · rw [c261_44, cond_true] at hD
        refine k_runB (pc' := 276) (loc' := [(0, .ref 40960), (1, .int x1), (3, .int x3), (6, .int x6), (7, .int v38)]) (st' := [.int v38]) 1 rfl ?_
        cases hD
        exact k_iret rfl rfl
      · rw [c261_44, cond_false] at hD
        refine k_runB (pc' := 266) (loc' := [(0, .ref 40960), (1, .int x1), (3, .int x3), (6, .int x6), (7, .int v38)]) (st' := [.int x3, .ref 40960]) 2 rfl ?_
        obtain ⟨v46, hv46, hD⟩ := Option.bind_eq_some_iff.mp hD
        refine k_runC rfl rfl rfl rfl (t_d_stepsOf (d := d) hv46) ?_
        refine k_runB (pc' := 276) (loc' := [(0, .ref 40960), (1, .int x1), (3, .int x3), (6, .int x6), (7, .int v38)]) (st' := [.int (v46 - 1)]) 3 rfl ?_
        cases hD
        exact k_iret rfl rfl
    · rw [c247_42, cond_false] at hD
      refine k_runB (pc' := 276) (loc' := [(0, .ref 40960), (1, .int x1), (3, .int x3), (6, .int x6), (7, .int v38)]) (st' := [.int 0]) 2 rfl ?_
      cases hD
      exact k_iret rfl rfl
  · rw [c235_41, cond_false] at hD
    refine k_runB (pc' := 243) (loc' := [(0, .ref 40960), (1, .int x1), (3, .int x3), (6, .int x6), (7, .int v38)]) (st' := [.int x1, .ref 41014]) 3 rfl ?_
    obtain ⟨v47, hv47, hD⟩ := Option.bind_eq_some_iff.mp hD
    refine k_ldI rfl rfl hv47 ?_
    cases hD
    exact k_iret rfl rfl
def d_tells_130 : Nat → (Nat → Int32) → (Nat → Nat → Int32) → (Nat → Nat → Int64) → Int32 → Int32 → Int32 → Int32 → Option (Int32 × (Nat → Int32) × (Nat → Nat → Int32) × (Nat → Nat → Int64))
  | 0, _, _, _, _, _, _, _ => none
  | n + 1, F, A, J, x1, x3, x5, x6 => cond (g_cnd .ge x6 x5)
    ((m_ld (A 54) 6 x1).bind fun v18 =>
    some (v18, F, A, J))
    ((m_ld (A 36) 100 x6).bind fun v19 =>
    cond (g_cnd .eq v19 0)
    (d_tells_211 n F A J x1 x3 x6)
    ((m_ld (A 37) 100 x6).bind fun v21 =>
    (m_ld (A 38) 100 x6).bind fun v22 =>
    (d_termOf n F A J v21 v22).bind fun (v23, F24, A25, J26) =>
    (m_ld (A25 38) 100 x6).bind fun v27 =>
    (m_ld (A25 39) 100 x6).bind fun v28 =>
    (d_termOf n F24 A25 J26 v27 v28).bind fun (v29, F30, A31, J32) =>
    cond (g_cnd .eq (F30 63) 0)
    (cond (g_cnd .lt v23 v29)
    (d_tells_211 n F30 A31 J32 x1 x3 x6)
    ((d_tells_130 n) F30 A31 J32 x1 x3 x5 (x6 + 1)))
    ((m_ld (A31 54) 6 x1).bind fun v35 =>
    some (v35, F30, A31, J32))))
theorem t_d_tells_130 (ht : ∀ k, t.1 12 k = k_ty 12 k) {n : Nat}  {F : Nat → Int32} {A : Nat → Nat → Int32} {J : Nat → Nat → Int64} {x1 : Int32} {x3 : Int32} {x5 : Int32} {x6 : Int32} {w : Int32 × (Nat → Int32) × (Nat → Nat → Int32) × (Nat → Nat → Int64)} : d_tells_130 n F A J x1 x3 x5 x6 = some w → k_run t lg (d + 1) 194 130 [(0, .ref 40960), (1, .int x1), (3, .int x3), (5, .int x5), (6, .int x6)] [] (m_h c B F A J) (some (.int w.1), m_h c B w.2.1 w.2.2.1 w.2.2.2) := by
  induction n generalizing F A J x1 x3 x5 x6 w with
  | zero => intro hD; cases hD
  | succ n ih =>
    intro hD
    have hK130 : ∀ (F : Nat → Int32) (A : Nat → Nat → Int32) (J : Nat → Nat → Int64) (x1 : Int32) (x3 : Int32) (x5 : Int32) (x6 : Int32) (w : Int32 × (Nat → Int32) × (Nat → Nat → Int32) × (Nat → Nat → Int64)), d_tells_130 n F A J x1 x3 x5 x6 = some w → k_run t lg (d + 1) 194 130 [(0, .ref 40960), (1, .int x1), (3, .int x3), (5, .int x5), (6, .int x6)] [] (m_h c B F A J) (some (.int w.1), m_h c B w.2.1 w.2.2.1 w.2.2.2) := fun _ _ _ _ _ _ _ _ h => ih h
    unfold d_tells_130 at hD
    refine k_runB (pc' := 134) (loc' := [(0, .ref 40960), (1, .int x1), (3, .int x3), (5, .int x5), (6, .int x6)]) (st' := [.int x5, .int x6]) 2 rfl ?_
    refine k_ic rfl (fun c134_16 => ?_) (fun c134_16 => ?_)
    · rw [c134_16, cond_true] at hD
      refine k_runB (pc' := 288) (loc' := [(0, .ref 40960), (1, .int x1), (3, .int x3), (5, .int x5), (6, .int x6)]) (st' := [.int x1, .ref 41014]) 3 rfl ?_
      obtain ⟨v18, hv18, hD⟩ := Option.bind_eq_some_iff.mp hD
      refine k_ldI rfl rfl hv18 ?_
      cases hD
      exact k_iret rfl rfl
    · rw [c134_16, cond_false] at hD
      refine k_runB (pc' := 143) (loc' := [(0, .ref 40960), (1, .int x1), (3, .int x3), (5, .int x5), (6, .int x6)]) (st' := [.int x6, .ref 40996]) 3 rfl ?_
      obtain ⟨v19, hv19, hD⟩ := Option.bind_eq_some_iff.mp hD
      refine k_ldZ rfl rfl hv19 ?_
      refine k_if rfl (fun c144_19 => ?_) (fun c144_19 => ?_)
      · rw [c144_19, cond_true] at hD
        refine k_wk [0, 1, 3, 6] (loc' := [(0, .ref 40960), (1, .int x1), (3, .int x3), (6, .int x6)]) rfl rfl ?_
        exact t_d_tells_211 ht  hD
      · rw [c144_19, cond_false] at hD
        refine k_runB (pc' := 154) (loc' := [(0, .ref 40960), (1, .int x1), (3, .int x3), (5, .int x5), (6, .int x6)]) (st' := [.int x6, .ref 40997, .ref 40960]) 4 rfl ?_
        obtain ⟨v21, hv21, hD⟩ := Option.bind_eq_some_iff.mp hD
        refine k_ldI rfl rfl hv21 ?_
        refine k_runB (pc' := 161) (loc' := [(0, .ref 40960), (1, .int x1), (3, .int x3), (5, .int x5), (6, .int x6)]) (st' := [.int x6, .ref 40998, .int v21, .ref 40960]) 3 rfl ?_
        obtain ⟨v22, hv22, hD⟩ := Option.bind_eq_some_iff.mp hD
        refine k_ldI rfl rfl hv22 ?_
        obtain ⟨⟨v23, F24, A25, J26⟩, hv23, hD⟩ := Option.bind_eq_some_iff.mp hD
        dsimp only at hD
        refine k_runC rfl rfl rfl rfl (t_d_termOf (d := d) ht hv23) ?_
        refine k_runB (pc' := 174) (loc' := [(0, .ref 40960), (1, .int x1), (3, .int x3), (5, .int x5), (6, .int x6), (7, .int v23)]) (st' := [.int x6, .ref 40998, .ref 40960]) 5 rfl ?_
        obtain ⟨v27, hv27, hD⟩ := Option.bind_eq_some_iff.mp hD
        refine k_ldI rfl rfl hv27 ?_
        refine k_runB (pc' := 181) (loc' := [(0, .ref 40960), (1, .int x1), (3, .int x3), (5, .int x5), (6, .int x6), (7, .int v23)]) (st' := [.int x6, .ref 40999, .int v27, .ref 40960]) 3 rfl ?_
        obtain ⟨v28, hv28, hD⟩ := Option.bind_eq_some_iff.mp hD
        refine k_ldI rfl rfl hv28 ?_
        obtain ⟨⟨v29, F30, A31, J32⟩, hv29, hD⟩ := Option.bind_eq_some_iff.mp hD
        dsimp only at hD
        refine k_runC rfl rfl rfl rfl (t_d_termOf (d := d) ht hv29) ?_
        refine k_runB (pc' := 191) (loc' := [(0, .ref 40960), (1, .int x1), (3, .int x3), (5, .int x5), (6, .int x6), (7, .int v23), (8, .int v29)]) (st' := [.int (F30 63)]) 3 rfl ?_
        refine k_if rfl (fun c191_32 => ?_) (fun c191_32 => ?_)
        · rw [c191_32, cond_true] at hD
          refine k_runB (pc' := 205) (loc' := [(0, .ref 40960), (1, .int x1), (3, .int x3), (5, .int x5), (6, .int x6), (7, .int v23), (8, .int v29)]) (st' := [.int v29, .int v23]) 2 rfl ?_
          refine k_ic rfl (fun c205_33 => ?_) (fun c205_33 => ?_)
          · rw [c205_33, cond_true] at hD
            refine k_wk [0, 1, 3, 6] (loc' := [(0, .ref 40960), (1, .int x1), (3, .int x3), (6, .int x6)]) rfl rfl ?_
            exact t_d_tells_211 ht  hD
          · rw [c205_33, cond_false] at hD
            refine k_runB (pc' := 130) (loc' := [(0, .ref 40960), (1, .int x1), (3, .int x3), (5, .int x5), (6, .int (x6 + 1)), (7, .int v23), (8, .int v29)]) (st' := []) 3 rfl ?_
            refine k_wk [0, 1, 3, 5, 6] (loc' := [(0, .ref 40960), (1, .int x1), (3, .int x3), (5, .int x5), (6, .int (x6 + 1))]) rfl rfl ?_
            exact hK130 _ _ _ _ _ _ _ _ hD
        · rw [c191_32, cond_false] at hD
          refine k_runB (pc' := 199) (loc' := [(0, .ref 40960), (1, .int x1), (3, .int x3), (5, .int x5), (6, .int x6), (7, .int v23), (8, .int v29)]) (st' := [.int x1, .ref 41014]) 3 rfl ?_
          obtain ⟨v35, hv35, hD⟩ := Option.bind_eq_some_iff.mp hD
          refine k_ldI rfl rfl hv35 ?_
          cases hD
          exact k_iret rfl rfl
/-- SleepWorkModel.tells(II)I -/
def d_tells (n : Nat) (F : Nat → Int32) (A : Nat → Nat → Int32) (J : Nat → Nat → Int64) (x1 : Int32) (x2 : Int32) : Option (Int32 × (Nat → Int32) × (Nat → Nat → Int32) × (Nat → Nat → Int64)) :=
  (m_ld (A 48) 100 (42 + x1)).bind fun v1 =>
  (m_ld (A 34) 12 ((6 * (F 18)) + x1)).bind fun v2 =>
  (m_ld (A 35) 12 ((6 * (F 18)) + x1)).bind fun v3 =>
  (m_ld (A 54) 6 x1).bind fun v4 =>
  (m_st A 45 6 0 v4).bind fun A5 =>
  (m_ld (A5 54) 6 x1).bind fun v6 =>
  (m_ld (A5 48) 100 ((6 + (6 * v1)) + v6)).bind fun v7 =>
  (m_st A5 45 6 1 v7).bind fun A8 =>
  (d_stepsOf F A8 J v1).bind fun v9 =>
  (m_st A8 45 6 2 v9).bind fun A10 =>
  (m_st A10 45 6 3 x2).bind fun A11 =>
  (m_ld (A11 48) 100 v1).bind fun v12 =>
  (m_st A11 45 6 4 v12).bind fun A13 =>
  (m_ld (A13 55) 6 x1).bind fun v14 =>
  (m_st A13 45 6 5 v14).bind fun A15 =>
  (m_pfz F 63 0).bind fun F16 =>
  d_tells_130 n F16 A15 J x1 v1 v3 v2
theorem t_d_tells (ht : ∀ k, t.1 12 k = k_ty 12 k) {n : Nat} {x1 : Int32} {x2 : Int32} {r : Int32} {F' : Nat → Int32} {A' : Nat → Nat → Int32} {J' : Nat → Nat → Int64} : d_tells n F A J x1 x2 = some (r, F', A', J') → k_run t lg (d + 1) 194 0 [(0, .ref 40960), (1, .int x1), (2, .int x2)] [] (m_h c B F A J) (some (.int r), m_h c B F' A' J') := by
  intro hD
  unfold d_tells at hD
  refine k_runB (pc' := 8) (loc' := [(0, .ref 40960), (1, .int x1), (2, .int x2)]) (st' := [.int (42 + x1), .ref 41008]) 5 rfl ?_
  obtain ⟨v1, hv1, hD⟩ := Option.bind_eq_some_iff.mp hD
  refine k_ldI rfl rfl hv1 ?_
  refine k_runB (pc' := 23) (loc' := [(0, .ref 40960), (1, .int x1), (2, .int x2), (3, .int v1)]) (st' := [.int ((6 * (F 18)) + x1), .ref 40994]) 9 rfl ?_
  obtain ⟨v2, hv2, hD⟩ := Option.bind_eq_some_iff.mp hD
  refine k_ldI rfl rfl hv2 ?_
  refine k_runB (pc' := 39) (loc' := [(0, .ref 40960), (1, .int x1), (2, .int x2), (3, .int v1), (4, .int v2)]) (st' := [.int ((6 * (F 18)) + x1), .ref 40995]) 9 rfl ?_
  obtain ⟨v3, hv3, hD⟩ := Option.bind_eq_some_iff.mp hD
  refine k_ldI rfl rfl hv3 ?_
  refine k_runB (pc' := 52) (loc' := [(0, .ref 40960), (1, .int x1), (2, .int x2), (3, .int v1), (4, .int v2), (5, .int v3)]) (st' := [.int x1, .ref 41014, .int 0, .ref 41005]) 7 rfl ?_
  obtain ⟨v4, hv4, hD⟩ := Option.bind_eq_some_iff.mp hD
  refine k_ldI rfl rfl hv4 ?_
  obtain ⟨A5, hA5, hD⟩ := Option.bind_eq_some_iff.mp hD
  refine k_stI 45 rfl rfl (fun _ => rfl) hA5 ?_
  refine k_runB (pc' := 75) (loc' := [(0, .ref 40960), (1, .int x1), (2, .int x2), (3, .int v1), (4, .int v2), (5, .int v3)]) (st' := [.int x1, .ref 41014, .int (6 + (6 * v1)), .ref 41008, .int 1, .ref 41005]) 13 rfl ?_
  obtain ⟨v6, hv6, hD⟩ := Option.bind_eq_some_iff.mp hD
  refine k_ldI rfl rfl hv6 ?_
  refine k_runB (pc' := 77) (loc' := [(0, .ref 40960), (1, .int x1), (2, .int x2), (3, .int v1), (4, .int v2), (5, .int v3)]) (st' := [.int ((6 + (6 * v1)) + v6), .ref 41008, .int 1, .ref 41005]) 1 rfl ?_
  obtain ⟨v7, hv7, hD⟩ := Option.bind_eq_some_iff.mp hD
  refine k_ldI rfl rfl hv7 ?_
  obtain ⟨A8, hA8, hD⟩ := Option.bind_eq_some_iff.mp hD
  refine k_stI 45 rfl rfl (fun _ => rfl) hA8 ?_
  refine k_runB (pc' := 86) (loc' := [(0, .ref 40960), (1, .int x1), (2, .int x2), (3, .int v1), (4, .int v2), (5, .int v3)]) (st' := [.int v1, .ref 40960, .int 2, .ref 41005]) 5 rfl ?_
  obtain ⟨v9, hv9, hD⟩ := Option.bind_eq_some_iff.mp hD
  refine k_runC rfl rfl rfl rfl (t_d_stepsOf (d := d) hv9) ?_
  obtain ⟨A10, hA10, hD⟩ := Option.bind_eq_some_iff.mp hD
  refine k_stI 45 rfl rfl (fun _ => rfl) hA10 ?_
  refine k_runB (pc' := 96) (loc' := [(0, .ref 40960), (1, .int x1), (2, .int x2), (3, .int v1), (4, .int v2), (5, .int v3)]) (st' := [.int x2, .int 3, .ref 41005]) 4 rfl ?_
  obtain ⟨A11, hA11, hD⟩ := Option.bind_eq_some_iff.mp hD
  refine k_stI 45 rfl rfl (fun _ => rfl) hA11 ?_
  refine k_runB (pc' := 107) (loc' := [(0, .ref 40960), (1, .int x1), (2, .int x2), (3, .int v1), (4, .int v2), (5, .int v3)]) (st' := [.int v1, .ref 41008, .int 4, .ref 41005]) 6 rfl ?_
  obtain ⟨v12, hv12, hD⟩ := Option.bind_eq_some_iff.mp hD
  refine k_ldI rfl rfl hv12 ?_
  obtain ⟨A13, hA13, hD⟩ := Option.bind_eq_some_iff.mp hD
  refine k_stI 45 rfl rfl (fun _ => rfl) hA13 ?_
  refine k_runB (pc' := 119) (loc' := [(0, .ref 40960), (1, .int x1), (2, .int x2), (3, .int v1), (4, .int v2), (5, .int v3)]) (st' := [.int x1, .ref 41015, .int 5, .ref 41005]) 6 rfl ?_
  obtain ⟨v14, hv14, hD⟩ := Option.bind_eq_some_iff.mp hD
  refine k_ldI rfl rfl hv14 ?_
  obtain ⟨A15, hA15, hD⟩ := Option.bind_eq_some_iff.mp hD
  refine k_stI 45 rfl rfl (fun _ => rfl) hA15 ?_
  refine k_runB (pc' := 123) (loc' := [(0, .ref 40960), (1, .int x1), (2, .int x2), (3, .int v1), (4, .int v2), (5, .int v3)]) (st' := [.int 0, .ref 40960]) 2 rfl ?_
  obtain ⟨F16, hF16, hD⟩ := Option.bind_eq_some_iff.mp hD
  refine k_ptZ rfl (ht 63) rfl rfl hF16 ?_
  refine k_runB (pc' := 130) (loc' := [(0, .ref 40960), (1, .int x1), (2, .int x2), (3, .int v1), (4, .int v2), (5, .int v3), (6, .int v2)]) (st' := []) 2 rfl ?_
  refine k_wk [0, 1, 3, 5, 6] (loc' := [(0, .ref 40960), (1, .int x1), (3, .int v1), (5, .int v3), (6, .int v2)]) rfl rfl ?_
  exact t_d_tells_130 ht  hD
end MD
