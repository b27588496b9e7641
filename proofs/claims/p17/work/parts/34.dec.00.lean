/-! the reference's methods as functions (printed by wip/dec.py) -/
section MD
variable {t : gT} {lg : Nat → Nat} {d : Nat} {c : Nat × Nat} {B : Nat → List gE} {F : Nat → Int32} {A : Nat → Nat → Int32} {J : Nat → Nat → Int64}
def d_put_3 : Nat → (Nat → Int32) → (Nat → Nat → Int32) → (Nat → Nat → Int64) → Int32 → Int32 → Option (Unit × (Nat → Int32) × (Nat → Nat → Int32) × (Nat → Nat → Int64))
  | 0, _, _, _, _, _ => none
  | n + 1, F, A, J, x1, x2 => cond (g_cnd .lt x2 0)
    (some ((), F, A, J))
    ((m_st A 1 2000 (F 2) (vp_nar .byte ((x1 >>> (x2 &&& 31)).toInt8.toInt32))).bind fun A2 =>
    (m_pf F 2 ((F 2) + 1)).bind fun F3 =>
    (d_put_3 n) F3 A2 J x1 (x2 + (-8)))
theorem t_d_put_3 (ht : ∀ k, t.1 12 k = k_ty 12 k) {n : Nat}  {F : Nat → Int32} {A : Nat → Nat → Int32} {J : Nat → Nat → Int64} {x1 : Int32} {x2 : Int32} {w : Unit × (Nat → Int32) × (Nat → Nat → Int32) × (Nat → Nat → Int64)} : d_put_3 n F A J x1 x2 = some w → k_run t lg (d) 140 3 [(0, .ref 40960), (1, .int x1), (2, .int x2)] [] (m_h c B F A J) (none, m_h c B w.2.1 w.2.2.1 w.2.2.2) := by
  induction n generalizing F A J x1 x2 w with
  | zero => intro hD; cases hD
  | succ n ih =>
    intro hD
    have hK3 : ∀ (F : Nat → Int32) (A : Nat → Nat → Int32) (J : Nat → Nat → Int64) (x1 : Int32) (x2 : Int32) (w : Unit × (Nat → Int32) × (Nat → Nat → Int32) × (Nat → Nat → Int64)), d_put_3 n F A J x1 x2 = some w → k_run t lg (d) 140 3 [(0, .ref 40960), (1, .int x1), (2, .int x2)] [] (m_h c B F A J) (none, m_h c B w.2.1 w.2.2.1 w.2.2.2) := fun _ _ _ _ _ _ h => ih h
    unfold d_put_3 at hD
    refine k_runB (pc' := 4) (loc' := [(0, .ref 40960), (1, .int x1), (2, .int x2)]) (st' := [.int x2]) 1 rfl ?_
    refine k_if rfl (fun c4_0 => ?_) (fun c4_0 => ?_)
    · rw [c4_0, cond_true] at hD
      cases hD
      exact k_vret rfl rfl
    · rw [c4_0, cond_false] at hD
      refine k_runB (pc' := 19) (loc' := [(0, .ref 40960), (1, .int x1), (2, .int x2)]) (st' := [.int ((x1 >>> (x2 &&& 31)).toInt8.toInt32), .int (F 2), .ref 40961]) 8 rfl ?_
      obtain ⟨A2, hA2, hD⟩ := Option.bind_eq_some_iff.mp hD
      refine k_stB 1 rfl rfl (fun _ => rfl) hA2 ?_
      refine k_runB (pc' := 27) (loc' := [(0, .ref 40960), (1, .int x1), (2, .int x2)]) (st' := [.int ((F 2) + 1), .ref 40960]) 5 rfl ?_
      obtain ⟨F3, hF3, hD⟩ := Option.bind_eq_some_iff.mp hD
      refine k_ptI rfl (ht 2) rfl rfl hF3 ?_
      refine k_runB (pc' := 3) (loc' := [(0, .ref 40960), (1, .int x1), (2, .int (x2 + (-8)))]) (st' := []) 2 rfl ?_
      refine k_wk [0, 1, 2] (loc' := [(0, .ref 40960), (1, .int x1), (2, .int (x2 + (-8)))]) rfl rfl ?_
      exact hK3 _ _ _ _ _ _ hD
/-- SleepWorkModel.put(I)V -/
def d_put (n : Nat) (F : Nat → Int32) (A : Nat → Nat → Int32) (J : Nat → Nat → Int64) (x1 : Int32) : Option (Unit × (Nat → Int32) × (Nat → Nat → Int32) × (Nat → Nat → Int64)) :=
  d_put_3 n F A J x1 24
theorem t_d_put (ht : ∀ k, t.1 12 k = k_ty 12 k) {n : Nat} {x1 : Int32} {r : Unit} {F' : Nat → Int32} {A' : Nat → Nat → Int32} {J' : Nat → Nat → Int64} : d_put n F A J x1 = some (r, F', A', J') → k_run t lg (d) 140 0 [(0, .ref 40960), (1, .int x1)] [] (m_h c B F A J) (none, m_h c B F' A' J') := by
  intro hD
  unfold d_put at hD
  refine k_runB (pc' := 3) (loc' := [(0, .ref 40960), (1, .int x1), (2, .int 24)]) (st' := []) 2 rfl ?_
  refine k_wk [0, 1, 2] (loc' := [(0, .ref 40960), (1, .int x1), (2, .int 24)]) rfl rfl ?_
  exact t_d_put_3 ht  hD
/-- SleepWorkModel.back(I)I -/
def d_back (F : Nat → Int32) (A : Nat → Nat → Int32) (J : Nat → Nat → Int64) (x1 : Int32) : Option (Int32 × (Nat → Int32) × (Nat → Nat → Int32) × (Nat → Nat → Int64)) :=
  cond (g_cnd .lt x1 0)
  (some ((-1), F, A, J))
  (cond (g_cnd .le x1 (F 2))
  ((m_pf F 2 ((F 2) - x1)).bind fun F3 =>
  some (F3 2, F3, A, J))
  (some ((-1), F, A, J)))
theorem t_d_back (ht : ∀ k, t.1 12 k = k_ty 12 k) {x1 : Int32} {r : Int32} {F' : Nat → Int32} {A' : Nat → Nat → Int32} {J' : Nat → Nat → Int64} : d_back F A J x1 = some (r, F', A', J') → k_run t lg (d) 141 0 [(0, .ref 40960), (1, .int x1)] [] (m_h c B F A J) (some (.int r), m_h c B F' A' J') := by
  intro hD
  unfold d_back at hD
  refine k_runB (pc' := 1) (loc' := [(0, .ref 40960), (1, .int x1)]) (st' := [.int x1]) 1 rfl ?_
  refine k_if rfl (fun c1_0 => ?_) (fun c1_0 => ?_)
  · rw [c1_0, cond_true] at hD
    refine k_runB (pc' := 13) (loc' := [(0, .ref 40960), (1, .int x1)]) (st' := [.int ((-1))]) 1 rfl ?_
    cases hD
    exact k_iret rfl rfl
  · rw [c1_0, cond_false] at hD
    refine k_runB (pc' := 9) (loc' := [(0, .ref 40960), (1, .int x1)]) (st' := [.int (F 2), .int x1]) 3 rfl ?_
    refine k_ic rfl (fun c9_1 => ?_) (fun c9_1 => ?_)
    · rw [c9_1, cond_true] at hD
      refine k_runB (pc' := 21) (loc' := [(0, .ref 40960), (1, .int x1)]) (st' := [.int ((F 2) - x1), .ref 40960]) 5 rfl ?_
      obtain ⟨F3, hF3, hD⟩ := Option.bind_eq_some_iff.mp hD
      refine k_ptI rfl (ht 2) rfl rfl hF3 ?_
      refine k_runB (pc' := 28) (loc' := [(0, .ref 40960), (1, .int x1)]) (st' := [.int (F3 2)]) 2 rfl ?_
      cases hD
      exact k_iret rfl rfl
    · rw [c9_1, cond_false] at hD
      refine k_runB (pc' := 13) (loc' := [(0, .ref 40960), (1, .int x1)]) (st' := [.int ((-1))]) 1 rfl ?_
      cases hD
      exact k_iret rfl rfl
/-- SleepWorkModel.byteAt(I)I -/
def d_byteAt (F : Nat → Int32) (A : Nat → Nat → Int32) (J : Nat → Nat → Int64) (x1 : Int32) : Option Int32 :=
  cond (g_cnd .ge x1 (F 4))
  (some (0))
  ((m_ld (A 2) 2000 x1).bind fun v2 =>
  some (v2 &&& 255))
theorem t_d_byteAt {x1 : Int32} {r : Int32} : d_byteAt F A J x1 = some r → k_run t lg (d) 142 0 [(0, .ref 40960), (1, .int x1)] [] (m_h c B F A J) (some (.int r), m_h c B F A J) := by
  intro hD
  unfold d_byteAt at hD
  refine k_runB (pc' := 5) (loc' := [(0, .ref 40960), (1, .int x1)]) (st' := [.int (F 4), .int x1]) 3 rfl ?_
  refine k_ic rfl (fun c5_0 => ?_) (fun c5_0 => ?_)
  · rw [c5_0, cond_true] at hD
    refine k_runB (pc' := 22) (loc' := [(0, .ref 40960), (1, .int x1)]) (st' := [.int 0]) 1 rfl ?_
    cases hD
    exact k_iret rfl rfl
  · rw [c5_0, cond_false] at hD
    refine k_runB (pc' := 13) (loc' := [(0, .ref 40960), (1, .int x1)]) (st' := [.int x1, .ref 40962]) 3 rfl ?_
    obtain ⟨v2, hv2, hD⟩ := Option.bind_eq_some_iff.mp hD
    refine k_ldB rfl rfl hv2 ?_
    refine k_runB (pc' := 22) (loc' := [(0, .ref 40960), (1, .int x1)]) (st' := [.int (v2 &&& 255)]) 3 rfl ?_
    cases hD
    exact k_iret rfl rfl
/-- SleepWorkModel.isDigit(I)Z -/
def d_isDigit (x0 : Int32) : Option Int32 :=
  cond (g_cnd .lt x0 48)
  (some (0))
  (cond (g_cnd .gt x0 57)
  (some (0))
  (some (1)))
theorem t_d_isDigit {x0 : Int32} {r : Int32} : d_isDigit x0 = some r → k_run t lg (d) 143 0 [(0, .int x0)] [] (m_h c B F A J) (some (.int r), m_h c B F A J) := by
  intro hD
  unfold d_isDigit at hD
  refine k_runB (pc' := 3) (loc' := [(0, .int x0)]) (st' := [.int 48, .int x0]) 2 rfl ?_
  refine k_ic rfl (fun c3_0 => ?_) (fun c3_0 => ?_)
  · rw [c3_0, cond_true] at hD
    refine k_runB (pc' := 17) (loc' := [(0, .int x0)]) (st' := [.int 0]) 1 rfl ?_
    cases hD
    exact k_zret rfl rfl (Or.inl rfl)
  · rw [c3_0, cond_false] at hD
    refine k_runB (pc' := 9) (loc' := [(0, .int x0)]) (st' := [.int 57, .int x0]) 2 rfl ?_
    refine k_ic rfl (fun c9_1 => ?_) (fun c9_1 => ?_)
    · rw [c9_1, cond_true] at hD
      refine k_runB (pc' := 17) (loc' := [(0, .int x0)]) (st' := [.int 0]) 1 rfl ?_
      cases hD
      exact k_zret rfl rfl (Or.inl rfl)
    · rw [c9_1, cond_false] at hD
      refine k_runB (pc' := 17) (loc' := [(0, .int x0)]) (st' := [.int 1]) 2 rfl ?_
      cases hD
      exact k_zret rfl rfl (Or.inr rfl)
/-- SleepWorkModel.isLetter(I)Z -/
def d_isLetter (x0 : Int32) : Option Int32 :=
  cond (g_cnd .lt x0 97)
  (some (0))
  (cond (g_cnd .gt x0 122)
  (some (0))
  (some (1)))
theorem t_d_isLetter {x0 : Int32} {r : Int32} : d_isLetter x0 = some r → k_run t lg (d) 144 0 [(0, .int x0)] [] (m_h c B F A J) (some (.int r), m_h c B F A J) := by
  intro hD
  unfold d_isLetter at hD
  refine k_runB (pc' := 3) (loc' := [(0, .int x0)]) (st' := [.int 97, .int x0]) 2 rfl ?_
  refine k_ic rfl (fun c3_0 => ?_) (fun c3_0 => ?_)
  · rw [c3_0, cond_true] at hD
    refine k_runB (pc' := 17) (loc' := [(0, .int x0)]) (st' := [.int 0]) 1 rfl ?_
    cases hD
    exact k_zret rfl rfl (Or.inl rfl)
  · rw [c3_0, cond_false] at hD
    refine k_runB (pc' := 9) (loc' := [(0, .int x0)]) (st' := [.int 122, .int x0]) 2 rfl ?_
    refine k_ic rfl (fun c9_1 => ?_) (fun c9_1 => ?_)
    · rw [c9_1, cond_true] at hD
      refine k_runB (pc' := 17) (loc' := [(0, .int x0)]) (st' := [.int 0]) 1 rfl ?_
      cases hD
      exact k_zret rfl rfl (Or.inl rfl)
    · rw [c9_1, cond_false] at hD
      refine k_runB (pc' := 17) (loc' := [(0, .int x0)]) (st' := [.int 1]) 2 rfl ?_
      cases hD
      exact k_zret rfl rfl (Or.inr rfl)
/-- SleepWorkModel.appends(JI)J -/
def d_appends (x0 : Int64) (x2 : Int32) : Option Int64 :=
  cond (g_cnd .ne x2 0)
  (some ((27 * x0) + (((x2 - 97) + 1).toInt64)))
  (some (x0))
theorem t_d_appends {x0 : Int64} {x2 : Int32} {r : Int64} : d_appends x0 x2 = some r → k_run t lg (d) 145 0 [(0, .long (x0)), (2, .int x2)] [] (m_h c B F A J) (some (.long r), m_h c B F A J) := by
  intro hD
  unfold d_appends at hD
  refine k_runB (pc' := 1) (loc' := [(0, .long (x0)), (2, .int x2)]) (st' := [.int x2]) 1 rfl ?_
  refine k_if rfl (fun c1_0 => ?_) (fun c1_0 => ?_)
  · rw [c1_0, cond_true] at hD
    refine k_runB (pc' := 21) (loc' := [(0, .long (x0)), (2, .int x2)]) (st' := [.long ((27 * x0) + (((x2 - 97) + 1).toInt64))]) 10 rfl ?_
    cases hD
    exact k_lret rfl rfl
  · rw [c1_0, cond_false] at hD
    refine k_runB (pc' := 21) (loc' := [(0, .long (x0)), (2, .int x2)]) (st' := [.long (x0)]) 2 rfl ?_
    cases hD
    exact k_lret rfl rfl
/-- SleepWorkModel.word(IIIIIII)J -/
def d_word (x0 : Int32) (x1 : Int32) (x2 : Int32) (x3 : Int32) (x4 : Int32) (x5 : Int32) (x6 : Int32) : Option Int64 :=
  (d_appends 0 x0).bind fun v1 =>
  (d_appends v1 x1).bind fun v2 =>
  (d_appends v2 x2).bind fun v3 =>
  (d_appends v3 x3).bind fun v4 =>
  (d_appends v4 x4).bind fun v5 =>
  (d_appends v5 x5).bind fun v6 =>
  (d_appends v6 x6).bind fun v7 =>
  some (v7)
theorem t_d_word {x0 : Int32} {x1 : Int32} {x2 : Int32} {x3 : Int32} {x4 : Int32} {x5 : Int32} {x6 : Int32} {r : Int64} : d_word x0 x1 x2 x3 x4 x5 x6 = some r → k_run t lg (d + 1) 146 0 [(0, .int x0), (1, .int x1), (2, .int x2), (3, .int x3), (4, .int x4), (5, .int x5), (6, .int x6)] [] (m_h c B F A J) (some (.long r), m_h c B F A J) := by
  intro hD
  unfold d_word at hD
  refine k_runB (pc' := 2) (loc' := [(0, .int x0), (1, .int x1), (2, .int x2), (3, .int x3), (4, .int x4), (5, .int x5), (6, .int x6)]) (st' := [.int x0, .long (0)]) 2 rfl ?_
  obtain ⟨v1, hv1, hD⟩ := Option.bind_eq_some_iff.mp hD
  refine k_runC rfl rfl rfl rfl (t_d_appends (d := d) hv1) ?_
  refine k_runB (pc' := 6) (loc' := [(0, .int x0), (1, .int x1), (2, .int x2), (3, .int x3), (4, .int x4), (5, .int x5), (6, .int x6)]) (st' := [.int x1, .long (v1)]) 1 rfl ?_
  obtain ⟨v2, hv2, hD⟩ := Option.bind_eq_some_iff.mp hD
  refine k_runC rfl rfl rfl rfl (t_d_appends (d := d) hv2) ?_
  refine k_runB (pc' := 10) (loc' := [(0, .int x0), (1, .int x1), (2, .int x2), (3, .int x3), (4, .int x4), (5, .int x5), (6, .int x6)]) (st' := [.int x2, .long (v2)]) 1 rfl ?_
  obtain ⟨v3, hv3, hD⟩ := Option.bind_eq_some_iff.mp hD
  refine k_runC rfl rfl rfl rfl (t_d_appends (d := d) hv3) ?_
  refine k_runB (pc' := 14) (loc' := [(0, .int x0), (1, .int x1), (2, .int x2), (3, .int x3), (4, .int x4), (5, .int x5), (6, .int x6)]) (st' := [.int x3, .long (v3)]) 1 rfl ?_
  obtain ⟨v4, hv4, hD⟩ := Option.bind_eq_some_iff.mp hD
  refine k_runC rfl rfl rfl rfl (t_d_appends (d := d) hv4) ?_
  refine k_runB (pc' := 19) (loc' := [(0, .int x0), (1, .int x1), (2, .int x2), (3, .int x3), (4, .int x4), (5, .int x5), (6, .int x6)]) (st' := [.int x4, .long (v4)]) 1 rfl ?_
  obtain ⟨v5, hv5, hD⟩ := Option.bind_eq_some_iff.mp hD
  refine k_runC rfl rfl rfl rfl (t_d_appends (d := d) hv5) ?_
  refine k_runB (pc' := 24) (loc' := [(0, .int x0), (1, .int x1), (2, .int x2), (3, .int x3), (4, .int x4), (5, .int x5), (6, .int x6)]) (st' := [.int x5, .long (v5)]) 1 rfl ?_
  obtain ⟨v6, hv6, hD⟩ := Option.bind_eq_some_iff.mp hD
  refine k_runC rfl rfl rfl rfl (t_d_appends (d := d) hv6) ?_
  refine k_runB (pc' := 29) (loc' := [(0, .int x0), (1, .int x1), (2, .int x2), (3, .int x3), (4, .int x4), (5, .int x5), (6, .int x6)]) (st' := [.int x6, .long (v6)]) 1 rfl ?_
  obtain ⟨v7, hv7, hD⟩ := Option.bind_eq_some_iff.mp hD
  refine k_runC rfl rfl rfl rfl (t_d_appends (d := d) hv7) ?_
  cases hD
  exact k_lret rfl rfl
/-- SleepWorkModel.token(IIIJ)V -/
def d_token (F : Nat → Int32) (A : Nat → Nat → Int32) (J : Nat → Nat → Int64) (x1 : Int32) (x2 : Int32) (x3 : Int32) (x4 : Int64) : Option (Unit × (Nat → Int32) × (Nat → Nat → Int32) × (Nat → Nat → Int64)) :=
  (m_st A 3 403 (F 10) x1).bind fun A1 =>
  (m_st A1 4 403 (F 10) x2).bind fun A2 =>
  (m_st A2 5 403 (F 10) x3).bind fun A3 =>
  (m_stJ J 6 403 (F 10) x4).bind fun J4 =>
  (m_pf F 10 ((F 10) + 1)).bind fun F5 =>
  some ((), F5, A3, J4)
theorem t_d_token (ht : ∀ k, t.1 12 k = k_ty 12 k) {x1 : Int32} {x2 : Int32} {x3 : Int32} {x4 : Int64} {r : Unit} {F' : Nat → Int32} {A' : Nat → Nat → Int32} {J' : Nat → Nat → Int64} : d_token F A J x1 x2 x3 x4 = some (r, F', A', J') → k_run t lg (d) 147 0 [(0, .ref 40960), (1, .int x1), (2, .int x2), (3, .int x3), (4, .long (x4))] [] (m_h c B F A J) (none, m_h c B F' A' J') := by
  intro hD
  unfold d_token at hD
  refine k_runB (pc' := 9) (loc' := [(0, .ref 40960), (1, .int x1), (2, .int x2), (3, .int x3), (4, .long (x4))]) (st' := [.int x1, .int (F 10), .ref 40963]) 5 rfl ?_
  obtain ⟨A1, hA1, hD⟩ := Option.bind_eq_some_iff.mp hD
  refine k_stI 3 rfl rfl (fun _ => rfl) hA1 ?_
  refine k_runB (pc' := 19) (loc' := [(0, .ref 40960), (1, .int x1), (2, .int x2), (3, .int x3), (4, .long (x4))]) (st' := [.int x2, .int (F 10), .ref 40964]) 5 rfl ?_
  obtain ⟨A2, hA2, hD⟩ := Option.bind_eq_some_iff.mp hD
  refine k_stI 4 rfl rfl (fun _ => rfl) hA2 ?_
  refine k_runB (pc' := 29) (loc' := [(0, .ref 40960), (1, .int x1), (2, .int x2), (3, .int x3), (4, .long (x4))]) (st' := [.int x3, .int (F 10), .ref 40965]) 5 rfl ?_
  obtain ⟨A3, hA3, hD⟩ := Option.bind_eq_some_iff.mp hD
  refine k_stI 5 rfl rfl (fun _ => rfl) hA3 ?_
  refine k_runB (pc' := 40) (loc' := [(0, .ref 40960), (1, .int x1), (2, .int x2), (3, .int x3), (4, .long (x4))]) (st' := [.long (x4), .int (F 10), .ref 40966]) 5 rfl ?_
  obtain ⟨J4, hJ4, hD⟩ := Option.bind_eq_some_iff.mp hD
  refine k_stL 6 rfl rfl (fun _ => rfl) hJ4 ?_
  refine k_runB (pc' := 48) (loc' := [(0, .ref 40960), (1, .int x1), (2, .int x2), (3, .int x3), (4, .long (x4))]) (st' := [.int ((F 10) + 1), .ref 40960]) 5 rfl ?_
  obtain ⟨F5, hF5, hD⟩ := Option.bind_eq_some_iff.mp hD
  refine k_ptI rfl (ht 10) rfl rfl hF5 ?_
  cases hD
  exact k_vret rfl rfl
def d_sign_95 (F : Nat → Int32) (A : Nat → Nat → Int32) (J : Nat → Nat → Int64) (x1 : Int32) (x4 : Int32) : Option (Int32 × (Nat → Int32) × (Nat → Nat → Int32) × (Nat → Nat → Int64)) :=
    (d_token F A J x4 x1 0 0).bind fun (_, F11, A12, J13) =>
    some (1, F11, A12, J13)
theorem t_d_sign_95 (ht : ∀ k, t.1 12 k = k_ty 12 k)  {F : Nat → Int32} {A : Nat → Nat → Int32} {J : Nat → Nat → Int64} {x1 : Int32} {x4 : Int32} {w : Int32 × (Nat → Int32) × (Nat → Nat → Int32) × (Nat → Nat → Int64)} : d_sign_95 F A J x1 x4 = some w → k_run t lg (d + 1) 149 95 [(0, .ref 40960), (1, .int x1), (4, .int x4)] [] (m_h c B F A J) (some (.int w.1), m_h c B w.2.1 w.2.2.1 w.2.2.2) := by
  intro hD
  unfold d_sign_95 at hD
  refine k_runB (pc' := 101) (loc' := [(0, .ref 40960), (1, .int x1), (4, .int x4)]) (st' := [.long (0), .int 0, .int x1, .int x4, .ref 40960]) 5 rfl ?_
  obtain ⟨⟨v10, F11, A12, J13⟩, hv10, hD⟩ := Option.bind_eq_some_iff.mp hD
  dsimp only at hD
  refine k_runC rfl rfl rfl rfl (t_d_token (d := d) ht hv10) ?_
  refine k_runB (pc' := 105) (loc' := [(0, .ref 40960), (1, .int x1), (4, .int x4)]) (st' := [.int 1]) 1 rfl ?_
  cases hD
  exact k_iret rfl rfl
def d_sign_85 (F : Nat → Int32) (A : Nat → Nat → Int32) (J : Nat → Nat → Int64) (x1 : Int32) (x2 : Int32) (x4 : Int32) : Option (Int32 × (Nat → Int32) × (Nat → Nat → Int32) × (Nat → Nat → Int64)) :=
    cond (g_cnd .ne x2 60)
    (d_sign_95 F A J x1 x4)
    (d_sign_95 F A J x1 13)
theorem t_d_sign_85 (ht : ∀ k, t.1 12 k = k_ty 12 k)  {F : Nat → Int32} {A : Nat → Nat → Int32} {J : Nat → Nat → Int64} {x1 : Int32} {x2 : Int32} {x4 : Int32} {w : Int32 × (Nat → Int32) × (Nat → Nat → Int32) × (Nat → Nat → Int64)} : d_sign_85 F A J x1 x2 x4 = some w → k_run t lg (d + 1) 149 85 [(0, .ref 40960), (1, .int x1), (2, .int x2), (4, .int x4)] [] (m_h c B F A J) (some (.int w.1), m_h c B w.2.1 w.2.2.1 w.2.2.2) := by
  intro hD
  unfold d_sign_85 at hD
  refine k_runB (pc' := 88) (loc' := [(0, .ref 40960), (1, .int x1), (2, .int x2), (4, .int x4)]) (st' := [.int 60, .int x2]) 2 rfl ?_
  refine k_ic rfl (fun c88_8 => ?_) (fun c88_8 => ?_)
  · rw [c88_8, cond_true] at hD
    refine k_wk [0, 1, 4] (loc' := [(0, .ref 40960), (1, .int x1), (4, .int x4)]) rfl rfl ?_
    exact t_d_sign_95 ht  hD
  · rw [c88_8, cond_false] at hD
    refine k_runB (pc' := 95) (loc' := [(0, .ref 40960), (1, .int x1), (2, .int x2), (4, .int 13)]) (st' := []) 2 rfl ?_
    refine k_wk [0, 1, 4] (loc' := [(0, .ref 40960), (1, .int x1), (4, .int 13)]) rfl rfl ?_
    exact t_d_sign_95 ht  hD
def d_sign_75 (F : Nat → Int32) (A : Nat → Nat → Int32) (J : Nat → Nat → Int64) (x1 : Int32) (x2 : Int32) (x4 : Int32) : Option (Int32 × (Nat → Int32) × (Nat → Nat → Int32) × (Nat → Nat → Int64)) :=
    cond (g_cnd .ne x2 47)
    (d_sign_85 F A J x1 x2 x4)
    (d_sign_85 F A J x1 x2 15)
theorem t_d_sign_75 (ht : ∀ k, t.1 12 k = k_ty 12 k)  {F : Nat → Int32} {A : Nat → Nat → Int32} {J : Nat → Nat → Int64} {x1 : Int32} {x2 : Int32} {x4 : Int32} {w : Int32 × (Nat → Int32) × (Nat → Nat → Int32) × (Nat → Nat → Int64)} : d_sign_75 F A J x1 x2 x4 = some w → k_run t lg (d + 1) 149 75 [(0, .ref 40960), (1, .int x1), (2, .int x2), (4, .int x4)] [] (m_h c B F A J) (some (.int w.1), m_h c B w.2.1 w.2.2.1 w.2.2.2) := by
  intro hD
  unfold d_sign_75 at hD
  refine k_runB (pc' := 78) (loc' := [(0, .ref 40960), (1, .int x1), (2, .int x2), (4, .int x4)]) (st' := [.int 47, .int x2]) 2 rfl ?_
  refine k_ic rfl (fun c78_7 => ?_) (fun c78_7 => ?_)
  · rw [c78_7, cond_true] at hD
    refine k_wk [0, 1, 2, 4] (loc' := [(0, .ref 40960), (1, .int x1), (2, .int x2), (4, .int x4)]) rfl rfl ?_
    exact t_d_sign_85 ht  hD
  · rw [c78_7, cond_false] at hD
    refine k_runB (pc' := 85) (loc' := [(0, .ref 40960), (1, .int x1), (2, .int x2), (4, .int 15)]) (st' := []) 2 rfl ?_
    refine k_wk [0, 1, 2, 4] (loc' := [(0, .ref 40960), (1, .int x1), (2, .int x2), (4, .int 15)]) rfl rfl ?_
    exact t_d_sign_85 ht  hD
def d_sign_65 (F : Nat → Int32) (A : Nat → Nat → Int32) (J : Nat → Nat → Int64) (x1 : Int32) (x2 : Int32) (x4 : Int32) : Option (Int32 × (Nat → Int32) × (Nat → Nat → Int32) × (Nat → Nat → Int64)) :=
    cond (g_cnd .ne x2 42)
    (d_sign_75 F A J x1 x2 x4)
    (d_sign_75 F A J x1 x2 10)
theorem t_d_sign_65 (ht : ∀ k, t.1 12 k = k_ty 12 k)  {F : Nat → Int32} {A : Nat → Nat → Int32} {J : Nat → Nat → Int64} {x1 : Int32} {x2 : Int32} {x4 : Int32} {w : Int32 × (Nat → Int32) × (Nat → Nat → Int32) × (Nat → Nat → Int64)} : d_sign_65 F A J x1 x2 x4 = some w → k_run t lg (d + 1) 149 65 [(0, .ref 40960), (1, .int x1), (2, .int x2), (4, .int x4)] [] (m_h c B F A J) (some (.int w.1), m_h c B w.2.1 w.2.2.1 w.2.2.2) := by
  intro hD
  unfold d_sign_65 at hD
  refine k_runB (pc' := 68) (loc' := [(0, .ref 40960), (1, .int x1), (2, .int x2), (4, .int x4)]) (st' := [.int 42, .int x2]) 2 rfl ?_
  refine k_ic rfl (fun c68_6 => ?_) (fun c68_6 => ?_)
  · rw [c68_6, cond_true] at hD
    refine k_wk [0, 1, 2, 4] (loc' := [(0, .ref 40960), (1, .int x1), (2, .int x2), (4, .int x4)]) rfl rfl ?_
    exact t_d_sign_75 ht  hD
  · rw [c68_6, cond_false] at hD
    refine k_runB (pc' := 75) (loc' := [(0, .ref 40960), (1, .int x1), (2, .int x2), (4, .int 10)]) (st' := []) 2 rfl ?_
    refine k_wk [0, 1, 2, 4] (loc' := [(0, .ref 40960), (1, .int x1), (2, .int x2), (4, .int 10)]) rfl rfl ?_
    exact t_d_sign_75 ht  hD
def d_sign_55 (F : Nat → Int32) (A : Nat → Nat → Int32) (J : Nat → Nat → Int64) (x1 : Int32) (x2 : Int32) (x4 : Int32) : Option (Int32 × (Nat → Int32) × (Nat → Nat → Int32) × (Nat → Nat → Int64)) :=
    cond (g_cnd .ne x2 45)
    (d_sign_65 F A J x1 x2 x4)
    (d_sign_65 F A J x1 x2 9)
theorem t_d_sign_55 (ht : ∀ k, t.1 12 k = k_ty 12 k)  {F : Nat → Int32} {A : Nat → Nat → Int32} {J : Nat → Nat → Int64} {x1 : Int32} {x2 : Int32} {x4 : Int32} {w : Int32 × (Nat → Int32) × (Nat → Nat → Int32) × (Nat → Nat → Int64)} : d_sign_55 F A J x1 x2 x4 = some w → k_run t lg (d + 1) 149 55 [(0, .ref 40960), (1, .int x1), (2, .int x2), (4, .int x4)] [] (m_h c B F A J) (some (.int w.1), m_h c B w.2.1 w.2.2.1 w.2.2.2) := by
  intro hD
  unfold d_sign_55 at hD
  refine k_runB (pc' := 58) (loc' := [(0, .ref 40960), (1, .int x1), (2, .int x2), (4, .int x4)]) (st' := [.int 45, .int x2]) 2 rfl ?_
  refine k_ic rfl (fun c58_5 => ?_) (fun c58_5 => ?_)
  · rw [c58_5, cond_true] at hD
    refine k_wk [0, 1, 2, 4] (loc' := [(0, .ref 40960), (1, .int x1), (2, .int x2), (4, .int x4)]) rfl rfl ?_
    exact t_d_sign_65 ht  hD
  · rw [c58_5, cond_false] at hD
    refine k_runB (pc' := 65) (loc' := [(0, .ref 40960), (1, .int x1), (2, .int x2), (4, .int 9)]) (st' := []) 2 rfl ?_
    refine k_wk [0, 1, 2, 4] (loc' := [(0, .ref 40960), (1, .int x1), (2, .int x2), (4, .int 9)]) rfl rfl ?_
    exact t_d_sign_65 ht  hD
def d_sign_43 (F : Nat → Int32) (A : Nat → Nat → Int32) (J : Nat → Nat → Int64) (x1 : Int32) (x2 : Int32) (s0 : Int32) : Option (Int32 × (Nat → Int32) × (Nat → Nat → Int32) × (Nat → Nat → Int64)) :=
    cond (g_cnd .ne x2 43)
    (d_sign_55 F A J x1 x2 s0)
    (d_sign_55 F A J x1 x2 8)
theorem t_d_sign_43 (ht : ∀ k, t.1 12 k = k_ty 12 k)  {F : Nat → Int32} {A : Nat → Nat → Int32} {J : Nat → Nat → Int64} {x1 : Int32} {x2 : Int32} {s0 : Int32} {w : Int32 × (Nat → Int32) × (Nat → Nat → Int32) × (Nat → Nat → Int64)} : d_sign_43 F A J x1 x2 s0 = some w → k_run t lg (d + 1) 149 43 [(0, .ref 40960), (1, .int x1), (2, .int x2)] [.int s0] (m_h c B F A J) (some (.int w.1), m_h c B w.2.1 w.2.2.1 w.2.2.2) := by
  intro hD
  unfold d_sign_43 at hD
  refine k_runB (pc' := 48) (loc' := [(0, .ref 40960), (1, .int x1), (2, .int x2), (4, .int s0)]) (st' := [.int 43, .int x2]) 3 rfl ?_
  refine k_ic rfl (fun c48_4 => ?_) (fun c48_4 => ?_)
  · rw [c48_4, cond_true] at hD
    refine k_wk [0, 1, 2, 4] (loc' := [(0, .ref 40960), (1, .int x1), (2, .int x2), (4, .int s0)]) rfl rfl ?_
    exact t_d_sign_55 ht  hD
  · rw [c48_4, cond_false] at hD
    refine k_runB (pc' := 55) (loc' := [(0, .ref 40960), (1, .int x1), (2, .int x2), (4, .int 8)]) (st' := []) 2 rfl ?_
    refine k_wk [0, 1, 2, 4] (loc' := [(0, .ref 40960), (1, .int x1), (2, .int x2), (4, .int 8)]) rfl rfl ?_
    exact t_d_sign_55 ht  hD
/-- SleepWorkModel.sign(III)I -/
def d_sign (F : Nat → Int32) (A : Nat → Nat → Int32) (J : Nat → Nat → Int64) (x1 : Int32) (x2 : Int32) (x3 : Int32) : Option (Int32 × (Nat → Int32) × (Nat → Nat → Int32) × (Nat → Nat → Int64)) :=
  cond (g_cnd .ne x2 59)
  (cond (g_cnd .ne x2 61)
  (cond (g_cnd .ne x2 40)
  (cond (g_cnd .ne x2 41)
  (d_sign_43 F A J x1 x2 3)
  (d_sign_43 F A J x1 x2 7))
  (d_sign_43 F A J x1 x2 6))
  (d_sign_43 F A J x1 x2 5))
  (d_sign_43 F A J x1 x2 4)
theorem t_d_sign (ht : ∀ k, t.1 12 k = k_ty 12 k) {x1 : Int32} {x2 : Int32} {x3 : Int32} {r : Int32} {F' : Nat → Int32} {A' : Nat → Nat → Int32} {J' : Nat → Nat → Int64} : d_sign F A J x1 x2 x3 = some (r, F', A', J') → k_run t lg (d + 1) 149 0 [(0, .ref 40960), (1, .int x1), (2, .int x2), (3, .int x3)] [] (m_h c B F A J) (some (.int r), m_h c B F' A' J') := by
  intro hD
  unfold d_sign at hD
  refine k_runB (pc' := 3) (loc' := [(0, .ref 40960), (1, .int x1), (2, .int x2), (3, .int x3)]) (st' := [.int 59, .int x2]) 2 rfl ?_
  refine k_ic rfl (fun c3_0 => ?_) (fun c3_0 => ?_)
  · rw [c3_0, cond_true] at hD
    refine k_runB (pc' := 13) (loc' := [(0, .ref 40960), (1, .int x1), (2, .int x2), (3, .int x3)]) (st' := [.int 61, .int x2]) 2 rfl ?_
    refine k_ic rfl (fun c13_1 => ?_) (fun c13_1 => ?_)
    · rw [c13_1, cond_true] at hD
      refine k_runB (pc' := 23) (loc' := [(0, .ref 40960), (1, .int x1), (2, .int x2), (3, .int x3)]) (st' := [.int 40, .int x2]) 2 rfl ?_
      refine k_ic rfl (fun c23_2 => ?_) (fun c23_2 => ?_)
      · rw [c23_2, cond_true] at hD
        refine k_runB (pc' := 34) (loc' := [(0, .ref 40960), (1, .int x1), (2, .int x2), (3, .int x3)]) (st' := [.int 41, .int x2]) 2 rfl ?_
        refine k_ic rfl (fun c34_3 => ?_) (fun c34_3 => ?_)
        · rw [c34_3, cond_true] at hD
          refine k_runB (pc' := 43) (loc' := [(0, .ref 40960), (1, .int x1), (2, .int x2), (3, .int x3)]) (st' := [.int 3]) 1 rfl ?_
          refine k_wk [0, 1, 2] (loc' := [(0, .ref 40960), (1, .int x1), (2, .int x2)]) rfl rfl ?_
          exact t_d_sign_43 ht  hD
        · rw [c34_3, cond_false] at hD
          refine k_runB (pc' := 43) (loc' := [(0, .ref 40960), (1, .int x1), (2, .int x2), (3, .int x3)]) (st' := [.int 7]) 2 rfl ?_
          refine k_wk [0, 1, 2] (loc' := [(0, .ref 40960), (1, .int x1), (2, .int x2)]) rfl rfl ?_
          exact t_d_sign_43 ht  hD
      · rw [c23_2, cond_false] at hD
        refine k_runB (pc' := 43) (loc' := [(0, .ref 40960), (1, .int x1), (2, .int x2), (3, .int x3)]) (st' := [.int 6]) 2 rfl ?_
        refine k_wk [0, 1, 2] (loc' := [(0, .ref 40960), (1, .int x1), (2, .int x2)]) rfl rfl ?_
        exact t_d_sign_43 ht  hD
    · rw [c13_1, cond_false] at hD
      refine k_runB (pc' := 43) (loc' := [(0, .ref 40960), (1, .int x1), (2, .int x2), (3, .int x3)]) (st' := [.int 5]) 2 rfl ?_
      refine k_wk [0, 1, 2] (loc' := [(0, .ref 40960), (1, .int x1), (2, .int x2)]) rfl rfl ?_
      exact t_d_sign_43 ht  hD
  · rw [c3_0, cond_false] at hD
    refine k_runB (pc' := 43) (loc' := [(0, .ref 40960), (1, .int x1), (2, .int x2), (3, .int x3)]) (st' := [.int 4]) 2 rfl ?_
    refine k_wk [0, 1, 2] (loc' := [(0, .ref 40960), (1, .int x1), (2, .int x2)]) rfl rfl ?_
    exact t_d_sign_43 ht  hD
/-- SleepWorkModel.is(I)Z -/
def d_is (F : Nat → Int32) (A : Nat → Nat → Int32) (J : Nat → Nat → Int64) (x1 : Int32) : Option Int32 :=
  cond (g_cnd .ne (F 13) 0)
  (some (0))
  ((m_ld (A 3) 403 (F 11)).bind fun v2 =>
  cond (g_cnd .ne v2 x1)
  (some (0))
  (some (1)))
theorem t_d_is {x1 : Int32} {r : Int32} : d_is F A J x1 = some r → k_run t lg (d) 150 0 [(0, .ref 40960), (1, .int x1)] [] (m_h c B F A J) (some (.int r), m_h c B F A J) := by
  intro hD
  unfold d_is at hD
  refine k_runB (pc' := 4) (loc' := [(0, .ref 40960), (1, .int x1)]) (st' := [.int (F 13)]) 2 rfl ?_
  refine k_if rfl (fun c4_0 => ?_) (fun c4_0 => ?_)
  · rw [c4_0, cond_true] at hD
    refine k_runB (pc' := 25) (loc' := [(0, .ref 40960), (1, .int x1)]) (st' := [.int 0]) 1 rfl ?_
    cases hD
    exact k_zret rfl rfl (Or.inl rfl)
  · rw [c4_0, cond_false] at hD
    refine k_runB (pc' := 15) (loc' := [(0, .ref 40960), (1, .int x1)]) (st' := [.int (F 11), .ref 40963]) 4 rfl ?_
    obtain ⟨v2, hv2, hD⟩ := Option.bind_eq_some_iff.mp hD
    refine k_ldI rfl rfl hv2 ?_
    refine k_runB (pc' := 17) (loc' := [(0, .ref 40960), (1, .int x1)]) (st' := [.int x1, .int v2]) 1 rfl ?_
    refine k_ic rfl (fun c17_2 => ?_) (fun c17_2 => ?_)
    · rw [c17_2, cond_true] at hD
      refine k_runB (pc' := 25) (loc' := [(0, .ref 40960), (1, .int x1)]) (st' := [.int 0]) 1 rfl ?_
      cases hD
      exact k_zret rfl rfl (Or.inl rfl)
    · rw [c17_2, cond_false] at hD
      refine k_runB (pc' := 25) (loc' := [(0, .ref 40960), (1, .int x1)]) (st' := [.int 1]) 2 rfl ?_
      cases hD
      exact k_zret rfl rfl (Or.inr rfl)
/-- SleepWorkModel.fail(I)V -/
def d_fail (F : Nat → Int32) (A : Nat → Nat → Int32) (J : Nat → Nat → Int64) (x1 : Int32) : Option (Unit × (Nat → Int32) × (Nat → Nat → Int32) × (Nat → Nat → Int64)) :=
  cond (g_cnd .le (F 13) 0)
  ((m_pf F 13 x1).bind fun F2 =>
  (m_ld (A 4) 403 (F2 11)).bind fun v3 =>
  (m_pf F2 14 v3).bind fun F4 =>
  some ((), F4, A, J))
  (some ((), F, A, J))
theorem t_d_fail (ht : ∀ k, t.1 12 k = k_ty 12 k) {x1 : Int32} {r : Unit} {F' : Nat → Int32} {A' : Nat → Nat → Int32} {J' : Nat → Nat → Int64} : d_fail F A J x1 = some (r, F', A', J') → k_run t lg (d) 151 0 [(0, .ref 40960), (1, .int x1)] [] (m_h c B F A J) (none, m_h c B F' A' J') := by
  intro hD
  unfold d_fail at hD
  refine k_runB (pc' := 4) (loc' := [(0, .ref 40960), (1, .int x1)]) (st' := [.int (F 13)]) 2 rfl ?_
  refine k_if rfl (fun c4_0 => ?_) (fun c4_0 => ?_)
  · rw [c4_0, cond_true] at hD
    refine k_runB (pc' := 10) (loc' := [(0, .ref 40960), (1, .int x1)]) (st' := [.int x1, .ref 40960]) 2 rfl ?_
    obtain ⟨F2, hF2, hD⟩ := Option.bind_eq_some_iff.mp hD
    refine k_ptI rfl (ht 13) rfl rfl hF2 ?_
    refine k_runB (pc' := 22) (loc' := [(0, .ref 40960), (1, .int x1)]) (st' := [.int (F2 11), .ref 40964, .ref 40960]) 5 rfl ?_
    obtain ⟨v3, hv3, hD⟩ := Option.bind_eq_some_iff.mp hD
    refine k_ldI rfl rfl hv3 ?_
    obtain ⟨F4, hF4, hD⟩ := Option.bind_eq_some_iff.mp hD
    refine k_ptI rfl (ht 14) rfl rfl hF4 ?_
    cases hD
    exact k_vret rfl rfl
  · rw [c4_0, cond_false] at hD
    cases hD
    exact k_vret rfl rfl
def d_wrong_46 (F : Nat → Int32) (A : Nat → Nat → Int32) (J : Nat → Nat → Int64) (x1 : Int32) (x3 : Int32) : Option (Unit × (Nat → Int32) × (Nat → Nat → Int32) × (Nat → Nat → Int64)) :=
    (m_pf F 15 x1).bind fun F7 =>
    (m_pf F7 16 x3).bind fun F8 =>
    some ((), F8, A, J)
theorem t_d_wrong_46 (ht : ∀ k, t.1 12 k = k_ty 12 k)  {F : Nat → Int32} {A : Nat → Nat → Int32} {J : Nat → Nat → Int64} {x1 : Int32} {x3 : Int32} {w : Unit × (Nat → Int32) × (Nat → Nat → Int32) × (Nat → Nat → Int64)} : d_wrong_46 F A J x1 x3 = some w → k_run t lg (d) 152 46 [(0, .ref 40960), (1, .int x1), (3, .int x3)] [] (m_h c B F A J) (none, m_h c B w.2.1 w.2.2.1 w.2.2.2) := by
  intro hD
  unfold d_wrong_46 at hD
  refine k_runB (pc' := 48) (loc' := [(0, .ref 40960), (1, .int x1), (3, .int x3)]) (st' := [.int x1, .ref 40960]) 2 rfl ?_
  obtain ⟨F7, hF7, hD⟩ := Option.bind_eq_some_iff.mp hD
  refine k_ptI rfl (ht 15) rfl rfl hF7 ?_
  refine k_runB (pc' := 53) (loc' := [(0, .ref 40960), (1, .int x1), (3, .int x3)]) (st' := [.int x3, .ref 40960]) 2 rfl ?_
  obtain ⟨F8, hF8, hD⟩ := Option.bind_eq_some_iff.mp hD
  refine k_ptI rfl (ht 16) rfl rfl hF8 ?_
  cases hD
  exact k_vret rfl rfl
/-- SleepWorkModel.wrong(II)V -/
def d_wrong (F : Nat → Int32) (A : Nat → Nat → Int32) (J : Nat → Nat → Int64) (x1 : Int32) (x2 : Int32) : Option (Unit × (Nat → Int32) × (Nat → Nat → Int32) × (Nat → Nat → Int64)) :=
  (m_ld (A 4) 403 x2).bind fun v1 =>
  cond (g_cnd .gt (F 13) 0)
  (some ((), F, A, J))
  (cond (g_cnd .eq (F 15) 0)
  (d_wrong_46 F A J x1 v1)
  (cond (g_cnd .gt v1 (F 16))
  (some ((), F, A, J))
  (cond (g_cnd .ne v1 (F 16))
  (d_wrong_46 F A J x1 v1)
  (cond (g_cnd .lt x1 (F 15))
  (d_wrong_46 F A J x1 v1)
  (some ((), F, A, J))))))
theorem t_d_wrong (ht : ∀ k, t.1 12 k = k_ty 12 k) {x1 : Int32} {x2 : Int32} {r : Unit} {F' : Nat → Int32} {A' : Nat → Nat → Int32} {J' : Nat → Nat → Int64} : d_wrong F A J x1 x2 = some (r, F', A', J') → k_run t lg (d) 152 0 [(0, .ref 40960), (1, .int x1), (2, .int x2)] [] (m_h c B F A J) (none, m_h c B F' A' J') := by
  intro hD
  unfold d_wrong at hD
  refine k_runB (pc' := 5) (loc' := [(0, .ref 40960), (1, .int x1), (2, .int x2)]) (st' := [.int x2, .ref 40964]) 3 rfl ?_
  obtain ⟨v1, hv1, hD⟩ := Option.bind_eq_some_iff.mp hD
  refine k_ldI rfl rfl hv1 ?_
  refine k_runB (pc' := 11) (loc' := [(0, .ref 40960), (1, .int x1), (2, .int x2), (3, .int v1)]) (st' := [.int (F 13)]) 3 rfl ?_
  refine k_if rfl (fun c11_1 => ?_) (fun c11_1 => ?_)
  · rw [c11_1, cond_true] at hD
    cases hD
    exact k_vret rfl rfl
  · rw [c11_1, cond_false] at hD
    refine k_runB (pc' := 18) (loc' := [(0, .ref 40960), (1, .int x1), (2, .int x2), (3, .int v1)]) (st' := [.int (F 15)]) 2 rfl ?_
    refine k_if rfl (fun c18_2 => ?_) (fun c18_2 => ?_)
    · rw [c18_2, cond_true] at hD
      refine k_wk [0, 1, 3] (loc' := [(0, .ref 40960), (1, .int x1), (3, .int v1)]) rfl rfl ?_
      exact t_d_wrong_46 ht  hD
    · rw [c18_2, cond_false] at hD
      refine k_runB (pc' := 26) (loc' := [(0, .ref 40960), (1, .int x1), (2, .int x2), (3, .int v1)]) (st' := [.int (F 16), .int v1]) 3 rfl ?_
      refine k_ic rfl (fun c26_3 => ?_) (fun c26_3 => ?_)
      · rw [c26_3, cond_true] at hD
        cases hD
        exact k_vret rfl rfl
      · rw [c26_3, cond_false] at hD
        refine k_runB (pc' := 34) (loc' := [(0, .ref 40960), (1, .int x1), (2, .int x2), (3, .int v1)]) (st' := [.int (F 16), .int v1]) 3 rfl ?_
        refine k_ic rfl (fun c34_4 => ?_) (fun c34_4 => ?_)
        · rw [c34_4, cond_true] at hD
          refine k_wk [0, 1, 3] (loc' := [(0, .ref 40960), (1, .int x1), (3, .int v1)]) rfl rfl ?_
          exact t_d_wrong_46 ht  hD
        · rw [c34_4, cond_false] at hD
          refine k_runB (pc' := 42) (loc' := [(0, .ref 40960), (1, .int x1), (2, .int x2), (3, .int v1)]) (st' := [.int (F 15), .int x1]) 3 rfl ?_
          refine k_ic rfl (fun c42_5 => ?_) (fun c42_5 => ?_)
          · rw [c42_5, cond_true] at hD
            refine k_wk [0, 1, 3] (loc' := [(0, .ref 40960), (1, .int x1), (3, .int v1)]) rfl rfl ?_
            exact t_d_wrong_46 ht  hD
          · rw [c42_5, cond_false] at hD
            cases hD
            exact k_vret rfl rfl
/-- SleepWorkModel.goesOn()V -/
def d_goesOn (F : Nat → Int32) (A : Nat → Nat → Int32) (J : Nat → Nat → Int64) : Option (Unit × (Nat → Int32) × (Nat → Nat → Int32) × (Nat → Nat → Int64)) :=
  cond (g_cnd .ne (F 11) 400)
  ((m_pf F 11 ((F 11) + 1)).bind fun F2 =>
  some ((), F2, A, J))
  ((d_fail F A J 2).bind fun (_, F4, A5, J6) =>
  some ((), F4, A5, J6))
theorem t_d_goesOn (ht : ∀ k, t.1 12 k = k_ty 12 k) {r : Unit} {F' : Nat → Int32} {A' : Nat → Nat → Int32} {J' : Nat → Nat → Int64} : d_goesOn F A J = some (r, F', A', J') → k_run t lg (d + 1) 153 0 [(0, .ref 40960)] [] (m_h c B F A J) (none, m_h c B F' A' J') := by
  intro hD
  unfold d_goesOn at hD
  refine k_runB (pc' := 7) (loc' := [(0, .ref 40960)]) (st' := [.int 400, .int (F 11)]) 3 rfl ?_
  refine k_ic rfl (fun c7_0 => ?_) (fun c7_0 => ?_)
  · rw [c7_0, cond_true] at hD
    refine k_runB (pc' := 25) (loc' := [(0, .ref 40960)]) (st' := [.int ((F 11) + 1), .ref 40960]) 5 rfl ?_
    obtain ⟨F2, hF2, hD⟩ := Option.bind_eq_some_iff.mp hD
    refine k_ptI rfl (ht 11) rfl rfl hF2 ?_
    cases hD
    exact k_vret rfl rfl
  · rw [c7_0, cond_false] at hD
    refine k_runB (pc' := 12) (loc' := [(0, .ref 40960)]) (st' := [.int 2, .ref 40960]) 2 rfl ?_
    obtain ⟨⟨v3, F4, A5, J6⟩, hv3, hD⟩ := Option.bind_eq_some_iff.mp hD
    dsimp only at hD
    refine k_runC rfl rfl rfl rfl (t_d_fail (d := d) ht hv3) ?_
    refine k_runB (pc' := 28) (loc' := [(0, .ref 40960)]) (st' := []) 1 rfl ?_
    cases hD
    exact k_vret rfl rfl
/-- SleepWorkModel.must(I)V -/
def d_must (F : Nat → Int32) (A : Nat → Nat → Int32) (J : Nat → Nat → Int64) (x1 : Int32) : Option (Unit × (Nat → Int32) × (Nat → Nat → Int32) × (Nat → Nat → Int64)) :=
  (d_is F A J x1).bind fun v1 =>
  cond (g_cnd .eq v1 0)
  ((d_fail F A J 1).bind fun (_, F4, A5, J6) =>
  some ((), F4, A5, J6))
  ((d_goesOn F A J).bind fun (_, F8, A9, J10) =>
  some ((), F8, A9, J10))
theorem t_d_must (ht : ∀ k, t.1 12 k = k_ty 12 k) {x1 : Int32} {r : Unit} {F' : Nat → Int32} {A' : Nat → Nat → Int32} {J' : Nat → Nat → Int64} : d_must F A J x1 = some (r, F', A', J') → k_run t lg (d + 2) 154 0 [(0, .ref 40960), (1, .int x1)] [] (m_h c B F A J) (none, m_h c B F' A' J') := by
  intro hD
  unfold d_must at hD
  refine k_runB (pc' := 2) (loc' := [(0, .ref 40960), (1, .int x1)]) (st' := [.int x1, .ref 40960]) 2 rfl ?_
  obtain ⟨v1, hv1, hD⟩ := Option.bind_eq_some_iff.mp hD
  refine k_runC rfl rfl rfl rfl (t_d_is (d := d + 1) hv1) ?_
  refine k_if rfl (fun c5_1 => ?_) (fun c5_1 => ?_)
  · rw [c5_1, cond_true] at hD
    refine k_runB (pc' := 17) (loc' := [(0, .ref 40960), (1, .int x1)]) (st' := [.int 1, .ref 40960]) 2 rfl ?_
    obtain ⟨⟨v3, F4, A5, J6⟩, hv3, hD⟩ := Option.bind_eq_some_iff.mp hD
    dsimp only at hD
    refine k_runC rfl rfl rfl rfl (t_d_fail (d := d + 1) ht hv3) ?_
    cases hD
    exact k_vret rfl rfl
  · rw [c5_1, cond_false] at hD
    refine k_runB (pc' := 9) (loc' := [(0, .ref 40960), (1, .int x1)]) (st' := [.ref 40960]) 1 rfl ?_
    obtain ⟨⟨v7, F8, A9, J10⟩, hv7, hD⟩ := Option.bind_eq_some_iff.mp hD
    dsimp only at hD
    refine k_runC rfl rfl rfl rfl (t_d_goesOn (d := d) ht hv7) ?_
    refine k_runB (pc' := 20) (loc' := [(0, .ref 40960), (1, .int x1)]) (st' := []) 1 rfl ?_
    cases hD
    exact k_vret rfl rfl
/-- SleepWorkModel.place()I -/
def d_place (F : Nat → Int32) (A : Nat → Nat → Int32) (J : Nat → Nat → Int64) : Option Int32 :=
  some (F 17)
theorem t_d_place {r : Int32} : d_place F A J = some r → k_run t lg (d) 156 0 [(0, .ref 40960)] [] (m_h c B F A J) (some (.int r), m_h c B F A J) := by
  intro hD
  unfold d_place at hD
  refine k_runB (pc' := 4) (loc' := [(0, .ref 40960)]) (st' := [.int (F 17)]) 2 rfl ?_
  cases hD
  exact k_iret rfl rfl
/-- SleepWorkModel.failAt(II)V -/
def d_failAt (F : Nat → Int32) (A : Nat → Nat → Int32) (J : Nat → Nat → Int64) (x1 : Int32) (x2 : Int32) : Option (Unit × (Nat → Int32) × (Nat → Nat → Int32) × (Nat → Nat → Int64)) :=
  cond (g_cnd .le (F 13) 0)
  ((m_pf F 13 x1).bind fun F2 =>
  (m_ld (A 4) 403 x2).bind fun v3 =>
  (m_pf F2 14 v3).bind fun F4 =>
  some ((), F4, A, J))
  (some ((), F, A, J))
theorem t_d_failAt (ht : ∀ k, t.1 12 k = k_ty 12 k) {x1 : Int32} {x2 : Int32} {r : Unit} {F' : Nat → Int32} {A' : Nat → Nat → Int32} {J' : Nat → Nat → Int64} : d_failAt F A J x1 x2 = some (r, F', A', J') → k_run t lg (d) 157 0 [(0, .ref 40960), (1, .int x1), (2, .int x2)] [] (m_h c B F A J) (none, m_h c B F' A' J') := by
  intro hD
  unfold d_failAt at hD
  refine k_runB (pc' := 4) (loc' := [(0, .ref 40960), (1, .int x1), (2, .int x2)]) (st' := [.int (F 13)]) 2 rfl ?_
  refine k_if rfl (fun c4_0 => ?_) (fun c4_0 => ?_)
  · rw [c4_0, cond_true] at hD
    refine k_runB (pc' := 10) (loc' := [(0, .ref 40960), (1, .int x1), (2, .int x2)]) (st' := [.int x1, .ref 40960]) 2 rfl ?_
    obtain ⟨F2, hF2, hD⟩ := Option.bind_eq_some_iff.mp hD
    refine k_ptI rfl (ht 13) rfl rfl hF2 ?_
    refine k_runB (pc' := 19) (loc' := [(0, .ref 40960), (1, .int x1), (2, .int x2)]) (st' := [.int x2, .ref 40964, .ref 40960]) 4 rfl ?_
    obtain ⟨v3, hv3, hD⟩ := Option.bind_eq_some_iff.mp hD
    refine k_ldI rfl rfl hv3 ?_
    obtain ⟨F4, hF4, hD⟩ := Option.bind_eq_some_iff.mp hD
    refine k_ptI rfl (ht 14) rfl rfl hF4 ?_
    cases hD
    exact k_vret rfl rfl
  · rw [c4_0, cond_false] at hD
    cases hD
    exact k_vret rfl rfl
def d_roomFor_10 (F : Nat → Int32) (A : Nat → Nat → Int32) (J : Nat → Nat → Int64) : Option (Unit × (Nat → Int32) × (Nat → Nat → Int32) × (Nat → Nat → Int64)) :=
    cond (g_cnd .ne (F 13) 0)
    (some ((), F, A, J))
    ((d_goesOn F A J).bind fun (_, F13, A14, J15) =>
    some ((), F13, A14, J15))
theorem t_d_roomFor_10 (ht : ∀ k, t.1 12 k = k_ty 12 k)  {F : Nat → Int32} {A : Nat → Nat → Int32} {J : Nat → Nat → Int64}  {w : Unit × (Nat → Int32) × (Nat → Nat → Int32) × (Nat → Nat → Int64)} : d_roomFor_10 F A J = some w → k_run t lg (d + 2) 158 10 [(0, .ref 40960)] [] (m_h c B F A J) (none, m_h c B w.2.1 w.2.2.1 w.2.2.2) := by
  intro hD
  unfold d_roomFor_10 at hD
  refine k_runB (pc' := 14) (loc' := [(0, .ref 40960)]) (st' := [.int (F 13)]) 2 rfl ?_
  refine k_if rfl (fun c14_10 => ?_) (fun c14_10 => ?_)
  · rw [c14_10, cond_true] at hD
    cases hD
    exact k_vret rfl rfl
  · rw [c14_10, cond_false] at hD
    refine k_runB (pc' := 18) (loc' := [(0, .ref 40960)]) (st' := [.ref 40960]) 1 rfl ?_
    obtain ⟨⟨v12, F13, A14, J15⟩, hv12, hD⟩ := Option.bind_eq_some_iff.mp hD
    dsimp only at hD
    refine k_runC rfl rfl rfl rfl (t_d_goesOn (d := d) ht hv12) ?_
    cases hD
    exact k_vret rfl rfl
/-- SleepWorkModel.roomFor(II)V -/
def d_roomFor (F : Nat → Int32) (A : Nat → Nat → Int32) (J : Nat → Nat → Int64) (x1 : Int32) (x2 : Int32) : Option (Unit × (Nat → Int32) × (Nat → Nat → Int32) × (Nat → Nat → Int64)) :=
  cond (g_cnd .ne x1 x2)
  (d_roomFor_10 F A J)
  ((d_fail F A J 2).bind fun (_, F3, A4, J5) =>
  cond (g_cnd .ne (F3 13) 0)
  (some ((), F3, A4, J5))
  ((d_goesOn F3 A4 J5).bind fun (_, F8, A9, J10) =>
  some ((), F8, A9, J10)))
theorem t_d_roomFor (ht : ∀ k, t.1 12 k = k_ty 12 k) {x1 : Int32} {x2 : Int32} {r : Unit} {F' : Nat → Int32} {A' : Nat → Nat → Int32} {J' : Nat → Nat → Int64} : d_roomFor F A J x1 x2 = some (r, F', A', J') → k_run t lg (d + 2) 158 0 [(0, .ref 40960), (1, .int x1), (2, .int x2)] [] (m_h c B F A J) (none, m_h c B F' A' J') := by
  intro hD
  unfold d_roomFor at hD
  refine k_runB (pc' := 2) (loc' := [(0, .ref 40960), (1, .int x1), (2, .int x2)]) (st' := [.int x2, .int x1]) 2 rfl ?_
  refine k_ic rfl (fun c2_0 => ?_) (fun c2_0 => ?_)
  · rw [c2_0, cond_true] at hD
    refine k_wk [0] (loc' := [(0, .ref 40960)]) rfl rfl ?_
    exact t_d_roomFor_10 ht  hD
  · rw [c2_0, cond_false] at hD
    refine k_runB (pc' := 7) (loc' := [(0, .ref 40960), (1, .int x1), (2, .int x2)]) (st' := [.int 2, .ref 40960]) 2 rfl ?_
    obtain ⟨⟨v2, F3, A4, J5⟩, hv2, hD⟩ := Option.bind_eq_some_iff.mp hD
    dsimp only at hD
    refine k_runC rfl rfl rfl rfl (t_d_fail (d := d + 1) ht hv2) ?_
    refine k_runB (pc' := 14) (loc' := [(0, .ref 40960), (1, .int x1), (2, .int x2)]) (st' := [.int (F3 13)]) 2 rfl ?_
    refine k_if rfl (fun c14_5 => ?_) (fun c14_5 => ?_)
    · rw [c14_5, cond_true] at hD
      cases hD
      exact k_vret rfl rfl
    · rw [c14_5, cond_false] at hD
      refine k_runB (pc' := 18) (loc' := [(0, .ref 40960), (1, .int x1), (2, .int x2)]) (st' := [.ref 40960]) 1 rfl ?_
      obtain ⟨⟨v7, F8, A9, J10⟩, hv7, hD⟩ := Option.bind_eq_some_iff.mp hD
      dsimp only at hD
      refine k_runC rfl rfl rfl rfl (t_d_goesOn (d := d) ht hv7) ?_
      cases hD
      exact k_vret rfl rfl
def d_named_49 (K12 : (Nat → Int32) → (Nat → Nat → Int32) → (Nat → Nat → Int64) → Int32 → Int32 → Option (Int32 × (Nat → Int32) × (Nat → Nat → Int32) × (Nat → Nat → Int64))) (n : Nat) (F : Nat → Int32) (A : Nat → Nat → Int32) (J : Nat → Nat → Int64) (x1 : Int32) (x2 : Int32) : Option (Int32 × (Nat → Int32) × (Nat → Nat → Int32) × (Nat → Nat → Int64)) :=
    K12 F A J x1 (x2 + 1)
theorem t_d_named_49 (ht : ∀ k, t.1 12 k = k_ty 12 k) {n : Nat} {K12 : (Nat → Int32) → (Nat → Nat → Int32) → (Nat → Nat → Int64) → Int32 → Int32 → Option (Int32 × (Nat → Int32) × (Nat → Nat → Int32) × (Nat → Nat → Int64))} (hK12 : ∀ (F : Nat → Int32) (A : Nat → Nat → Int32) (J : Nat → Nat → Int64) (x1 : Int32) (x2 : Int32) (w : Int32 × (Nat → Int32) × (Nat → Nat → Int32) × (Nat → Nat → Int64)), K12 F A J x1 x2 = some w → k_run t lg (d + 3) 160 12 [(0, .ref 40960), (1, .int x1), (2, .int x2)] [] (m_h c B F A J) (some (.int w.1), m_h c B w.2.1 w.2.2.1 w.2.2.2)) {F : Nat → Int32} {A : Nat → Nat → Int32} {J : Nat → Nat → Int64} {x1 : Int32} {x2 : Int32} {w : Int32 × (Nat → Int32) × (Nat → Nat → Int32) × (Nat → Nat → Int64)} : d_named_49 K12 n F A J x1 x2 = some w → k_run t lg (d + 3) 160 49 [(0, .ref 40960), (1, .int x1), (2, .int x2)] [] (m_h c B F A J) (some (.int w.1), m_h c B w.2.1 w.2.2.1 w.2.2.2) := by
  intro hD
  unfold d_named_49 at hD
  refine k_runB (pc' := 12) (loc' := [(0, .ref 40960), (1, .int x1), (2, .int (x2 + 1))]) (st' := []) 2 rfl ?_
  refine k_wk [0, 1, 2] (loc' := [(0, .ref 40960), (1, .int x1), (2, .int (x2 + 1))]) rfl rfl ?_
  exact hK12 _ _ _ _ _ _ hD
def d_named_12 : Nat → (Nat → Int32) → (Nat → Nat → Int32) → (Nat → Nat → Int64) → Int32 → Int32 → Option (Int32 × (Nat → Int32) × (Nat → Nat → Int32) × (Nat → Nat → Int64))
  | 0, _, _, _, _, _ => none
  | n + 1, F, A, J, x1, x2 => cond (g_cnd .ge x2 (F 20))
    (some (x1, F, A, J))
    (cond (g_cnd .ne (F 13) 0)
    (some (x1, F, A, J))
    ((m_ldJ (J 8) 32 x2).bind fun v7 =>
    (m_ldJ (J 6) 403 x1).bind fun v8 =>
    cond (g_cnd .ne (lg_cmp v7 v8) 0)
    (d_named_49 (d_named_12 n) n F A J x1 x2)
    ((d_wrong F A J 3 x1).bind fun (_, F11, A12, J13) =>
    (d_named_12 n) F11 A12 J13 x1 (x2 + 1))))
theorem t_d_named_12 (ht : ∀ k, t.1 12 k = k_ty 12 k) {n : Nat}  {F : Nat → Int32} {A : Nat → Nat → Int32} {J : Nat → Nat → Int64} {x1 : Int32} {x2 : Int32} {w : Int32 × (Nat → Int32) × (Nat → Nat → Int32) × (Nat → Nat → Int64)} : d_named_12 n F A J x1 x2 = some w → k_run t lg (d + 3) 160 12 [(0, .ref 40960), (1, .int x1), (2, .int x2)] [] (m_h c B F A J) (some (.int w.1), m_h c B w.2.1 w.2.2.1 w.2.2.2) := by
  induction n generalizing F A J x1 x2 w with
  | zero => intro hD; cases hD
  | succ n ih =>
    intro hD
    have hK12 : ∀ (F : Nat → Int32) (A : Nat → Nat → Int32) (J : Nat → Nat → Int64) (x1 : Int32) (x2 : Int32) (w : Int32 × (Nat → Int32) × (Nat → Nat → Int32) × (Nat → Nat → Int64)), d_named_12 n F A J x1 x2 = some w → k_run t lg (d + 3) 160 12 [(0, .ref 40960), (1, .int x1), (2, .int x2)] [] (m_h c B F A J) (some (.int w.1), m_h c B w.2.1 w.2.2.1 w.2.2.2) := fun _ _ _ _ _ _ h => ih h
    unfold d_named_12 at hD
    refine k_runB (pc' := 17) (loc' := [(0, .ref 40960), (1, .int x1), (2, .int x2)]) (st' := [.int (F 20), .int x2]) 3 rfl ?_
    refine k_ic rfl (fun c17_4 => ?_) (fun c17_4 => ?_)
    · rw [c17_4, cond_true] at hD
      refine k_runB (pc' := 56) (loc' := [(0, .ref 40960), (1, .int x1), (2, .int x2)]) (st' := [.int x1]) 1 rfl ?_
      cases hD
      exact k_iret rfl rfl
    · rw [c17_4, cond_false] at hD
      refine k_runB (pc' := 24) (loc' := [(0, .ref 40960), (1, .int x1), (2, .int x2)]) (st' := [.int (F 13)]) 2 rfl ?_
      refine k_if rfl (fun c24_5 => ?_) (fun c24_5 => ?_)
      · rw [c24_5, cond_true] at hD
        refine k_runB (pc' := 56) (loc' := [(0, .ref 40960), (1, .int x1), (2, .int x2)]) (st' := [.int x1]) 1 rfl ?_
        cases hD
        exact k_iret rfl rfl
      · rw [c24_5, cond_false] at hD
        refine k_runB (pc' := 32) (loc' := [(0, .ref 40960), (1, .int x1), (2, .int x2)]) (st' := [.int x2, .ref 40968]) 3 rfl ?_
        obtain ⟨v7, hv7, hD⟩ := Option.bind_eq_some_iff.mp hD
        refine k_ldL rfl rfl hv7 ?_
        refine k_runB (pc' := 38) (loc' := [(0, .ref 40960), (1, .int x1), (2, .int x2)]) (st' := [.int x1, .ref 40966, .long (v7)]) 3 rfl ?_
        obtain ⟨v8, hv8, hD⟩ := Option.bind_eq_some_iff.mp hD
        refine k_ldL rfl rfl hv8 ?_
        refine k_runB (pc' := 40) (loc' := [(0, .ref 40960), (1, .int x1), (2, .int x2)]) (st' := [.int (lg_cmp v7 v8)]) 1 rfl ?_
        refine k_if rfl (fun c40_8 => ?_) (fun c40_8 => ?_)
        · rw [c40_8, cond_true] at hD
          refine k_wk [0, 1, 2] (loc' := [(0, .ref 40960), (1, .int x1), (2, .int x2)]) rfl rfl ?_
          exact t_d_named_49 ht hK12 hD
        · rw [c40_8, cond_false] at hD
          refine k_runB (pc' := 46) (loc' := [(0, .ref 40960), (1, .int x1), (2, .int x2)]) (st' := [.int x1, .int 3, .ref 40960]) 3 rfl ?_
          obtain ⟨⟨v10, F11, A12, J13⟩, hv10, hD⟩ := Option.bind_eq_some_iff.mp hD
          dsimp only at hD
          refine k_runC rfl rfl rfl rfl (t_d_wrong (d := d + 2) ht hv10) ?_
          refine k_runB (pc' := 12) (loc' := [(0, .ref 40960), (1, .int x1), (2, .int (x2 + 1))]) (st' := []) 2 rfl ?_
          refine k_wk [0, 1, 2] (loc' := [(0, .ref 40960), (1, .int x1), (2, .int (x2 + 1))]) rfl rfl ?_
          exact hK12 _ _ _ _ _ _ hD
/-- SleepWorkModel.named()I -/
def d_named (n : Nat) (F : Nat → Int32) (A : Nat → Nat → Int32) (J : Nat → Nat → Int64) : Option (Int32 × (Nat → Int32) × (Nat → Nat → Int32) × (Nat → Nat → Int64)) :=
  (d_must F A J 1).bind fun (_, F2, A3, J4) =>
  d_named_12 n F2 A3 J4 (F 11) 0
theorem t_d_named (ht : ∀ k, t.1 12 k = k_ty 12 k) {n : Nat} {r : Int32} {F' : Nat → Int32} {A' : Nat → Nat → Int32} {J' : Nat → Nat → Int64} : d_named n F A J = some (r, F', A', J') → k_run t lg (d + 3) 160 0 [(0, .ref 40960)] [] (m_h c B F A J) (some (.int r), m_h c B F' A' J') := by
  intro hD
  unfold d_named at hD
  refine k_runB (pc' := 7) (loc' := [(0, .ref 40960), (1, .int (F 11))]) (st' := [.int 1, .ref 40960]) 5 rfl ?_
  obtain ⟨⟨v1, F2, A3, J4⟩, hv1, hD⟩ := Option.bind_eq_some_iff.mp hD
  dsimp only at hD
  refine k_runC rfl rfl rfl rfl (t_d_must (d := d) ht hv1) ?_
  refine k_runB (pc' := 12) (loc' := [(0, .ref 40960), (1, .int (F 11)), (2, .int 0)]) (st' := []) 2 rfl ?_
  refine k_wk [0, 1, 2] (loc' := [(0, .ref 40960), (1, .int (F 11)), (2, .int 0)]) rfl rfl ?_
  exact t_d_named_12 ht  hD
/-- SleepWorkModel.notes(III)V -/
def d_notes (F : Nat → Int32) (A : Nat → Nat → Int32) (J : Nat → Nat → Int64) (x1 : Int32) (x2 : Int32) (x3 : Int32) : Option (Unit × (Nat → Int32) × (Nat → Nat → Int32) × (Nat → Nat → Int64)) :=
  (m_ldJ (J 6) 403 x1).bind fun v1 =>
  (m_stJ J 8 32 (F 20) v1).bind fun J2 =>
  (m_st A 9 32 (F 20) x2).bind fun A3 =>
  (m_st A3 10 32 (F 20) x3).bind fun A4 =>
  (m_pf F 20 ((F 20) + 1)).bind fun F5 =>
  some ((), F5, A4, J2)
theorem t_d_notes (ht : ∀ k, t.1 12 k = k_ty 12 k) {x1 : Int32} {x2 : Int32} {x3 : Int32} {r : Unit} {F' : Nat → Int32} {A' : Nat → Nat → Int32} {J' : Nat → Nat → Int64} : d_notes F A J x1 x2 x3 = some (r, F', A', J') → k_run t lg (d) 161 0 [(0, .ref 40960), (1, .int x1), (2, .int x2), (3, .int x3)] [] (m_h c B F A J) (none, m_h c B F' A' J') := by
  intro hD
  unfold d_notes at hD
  refine k_runB (pc' := 13) (loc' := [(0, .ref 40960), (1, .int x1), (2, .int x2), (3, .int x3)]) (st' := [.int x1, .ref 40966, .int (F 20), .ref 40968]) 7 rfl ?_
  obtain ⟨v1, hv1, hD⟩ := Option.bind_eq_some_iff.mp hD
  refine k_ldL rfl rfl hv1 ?_
  obtain ⟨J2, hJ2, hD⟩ := Option.bind_eq_some_iff.mp hD
  refine k_stL 8 rfl rfl (fun _ => rfl) hJ2 ?_
  refine k_runB (pc' := 24) (loc' := [(0, .ref 40960), (1, .int x1), (2, .int x2), (3, .int x3)]) (st' := [.int x2, .int (F 20), .ref 40969]) 5 rfl ?_
  obtain ⟨A3, hA3, hD⟩ := Option.bind_eq_some_iff.mp hD
  refine k_stI 9 rfl rfl (fun _ => rfl) hA3 ?_
  refine k_runB (pc' := 34) (loc' := [(0, .ref 40960), (1, .int x1), (2, .int x2), (3, .int x3)]) (st' := [.int x3, .int (F 20), .ref 40970]) 5 rfl ?_
  obtain ⟨A4, hA4, hD⟩ := Option.bind_eq_some_iff.mp hD
  refine k_stI 10 rfl rfl (fun _ => rfl) hA4 ?_
  refine k_runB (pc' := 42) (loc' := [(0, .ref 40960), (1, .int x1), (2, .int x2), (3, .int x3)]) (st' := [.int ((F 20) + 1), .ref 40960]) 5 rfl ?_
  obtain ⟨F5, hF5, hD⟩ := Option.bind_eq_some_iff.mp hD
  refine k_ptI rfl (ht 20) rfl rfl hF5 ?_
  cases hD
  exact k_vret rfl rfl
def d_known_62 (K21 : (Nat → Int32) → (Nat → Nat → Int32) → (Nat → Nat → Int64) → Int32 → Int32 → Int32 → Option (Int32 × (Nat → Int32) × (Nat → Nat → Int32) × (Nat → Nat → Int64))) (n : Nat) (F : Nat → Int32) (A : Nat → Nat → Int32) (J : Nat → Nat → Int64) (x1 : Int32) (x2 : Int32) (x3 : Int32) : Option (Int32 × (Nat → Int32) × (Nat → Nat → Int32) × (Nat → Nat → Int64)) :=
    K21 F A J x1 x2 (x3 + 1)
theorem t_d_known_62 (ht : ∀ k, t.1 12 k = k_ty 12 k) {n : Nat} {K21 : (Nat → Int32) → (Nat → Nat → Int32) → (Nat → Nat → Int64) → Int32 → Int32 → Int32 → Option (Int32 × (Nat → Int32) × (Nat → Nat → Int32) × (Nat → Nat → Int64))} (hK21 : ∀ (F : Nat → Int32) (A : Nat → Nat → Int32) (J : Nat → Nat → Int64) (x1 : Int32) (x2 : Int32) (x3 : Int32) (w : Int32 × (Nat → Int32) × (Nat → Nat → Int32) × (Nat → Nat → Int64)), K21 F A J x1 x2 x3 = some w → k_run t lg (d + 3) 162 21 [(0, .ref 40960), (1, .int x1), (2, .int x2), (3, .int x3)] [] (m_h c B F A J) (some (.int w.1), m_h c B w.2.1 w.2.2.1 w.2.2.2)) {F : Nat → Int32} {A : Nat → Nat → Int32} {J : Nat → Nat → Int64} {x1 : Int32} {x2 : Int32} {x3 : Int32} {w : Int32 × (Nat → Int32) × (Nat → Nat → Int32) × (Nat → Nat → Int64)} : d_known_62 K21 n F A J x1 x2 x3 = some w → k_run t lg (d + 3) 162 62 [(0, .ref 40960), (1, .int x1), (2, .int x2), (3, .int x3)] [] (m_h c B F A J) (some (.int w.1), m_h c B w.2.1 w.2.2.1 w.2.2.2) := by
  intro hD
  unfold d_known_62 at hD
  refine k_runB (pc' := 21) (loc' := [(0, .ref 40960), (1, .int x1), (2, .int x2), (3, .int (x3 + 1))]) (st' := []) 2 rfl ?_
  refine k_wk [0, 1, 2, 3] (loc' := [(0, .ref 40960), (1, .int x1), (2, .int x2), (3, .int (x3 + 1))]) rfl rfl ?_
  exact hK21 _ _ _ _ _ _ _ hD
def d_known_21 : Nat → (Nat → Int32) → (Nat → Nat → Int32) → (Nat → Nat → Int64) → Int32 → Int32 → Int32 → Option (Int32 × (Nat → Int32) × (Nat → Nat → Int32) × (Nat → Nat → Int64))
  | 0, _, _, _, _, _, _ => none
  | n + 1, F, A, J, x1, x2, x3 => cond (g_cnd .ge x3 (F 20))
    ((d_wrong F A J 4 x2).bind fun (_, F8, A9, J10) =>
    some ((-1), F8, A9, J10))
    ((m_ldJ (J 8) 32 x3).bind fun v11 =>
    (m_ldJ (J 6) 403 x2).bind fun v12 =>
    cond (g_cnd .ne (lg_cmp v11 v12) 0)
    (d_known_62 (d_known_21 n) n F A J x1 x2 x3)
    ((m_ld (A 9) 32 x3).bind fun v14 =>
    cond (g_cnd .ne v14 x1)
    (d_known_62 (d_known_21 n) n F A J x1 x2 x3)
    ((m_ld (A 10) 32 x3).bind fun v16 =>
    some (v16, F, A, J))))
theorem t_d_known_21 (ht : ∀ k, t.1 12 k = k_ty 12 k) {n : Nat}  {F : Nat → Int32} {A : Nat → Nat → Int32} {J : Nat → Nat → Int64} {x1 : Int32} {x2 : Int32} {x3 : Int32} {w : Int32 × (Nat → Int32) × (Nat → Nat → Int32) × (Nat → Nat → Int64)} : d_known_21 n F A J x1 x2 x3 = some w → k_run t lg (d + 3) 162 21 [(0, .ref 40960), (1, .int x1), (2, .int x2), (3, .int x3)] [] (m_h c B F A J) (some (.int w.1), m_h c B w.2.1 w.2.2.1 w.2.2.2) := by
  induction n generalizing F A J x1 x2 x3 w with
  | zero => intro hD; cases hD
  | succ n ih =>
    intro hD
    have hK21 : ∀ (F : Nat → Int32) (A : Nat → Nat → Int32) (J : Nat → Nat → Int64) (x1 : Int32) (x2 : Int32) (x3 : Int32) (w : Int32 × (Nat → Int32) × (Nat → Nat → Int32) × (Nat → Nat → Int64)), d_known_21 n F A J x1 x2 x3 = some w → k_run t lg (d + 3) 162 21 [(0, .ref 40960), (1, .int x1), (2, .int x2), (3, .int x3)] [] (m_h c B F A J) (some (.int w.1), m_h c B w.2.1 w.2.2.1 w.2.2.2) := fun _ _ _ _ _ _ _ h => ih h
    unfold d_known_21 at hD
    refine k_runB (pc' := 26) (loc' := [(0, .ref 40960), (1, .int x1), (2, .int x2), (3, .int x3)]) (st' := [.int (F 20), .int x3]) 3 rfl ?_
    refine k_ic rfl (fun c26_5 => ?_) (fun c26_5 => ?_)
    · rw [c26_5, cond_true] at hD
      refine k_runB (pc' := 71) (loc' := [(0, .ref 40960), (1, .int x1), (2, .int x2), (3, .int x3)]) (st' := [.int x2, .int 4, .ref 40960]) 3 rfl ?_
      obtain ⟨⟨v7, F8, A9, J10⟩, hv7, hD⟩ := Option.bind_eq_some_iff.mp hD
      dsimp only at hD
      refine k_runC rfl rfl rfl rfl (t_d_wrong (d := d + 2) ht hv7) ?_
      refine k_runB (pc' := 75) (loc' := [(0, .ref 40960), (1, .int x1), (2, .int x2), (3, .int x3)]) (st' := [.int ((-1))]) 1 rfl ?_
      cases hD
      exact k_iret rfl rfl
    · rw [c26_5, cond_false] at hD
      refine k_runB (pc' := 34) (loc' := [(0, .ref 40960), (1, .int x1), (2, .int x2), (3, .int x3)]) (st' := [.int x3, .ref 40968]) 3 rfl ?_
      obtain ⟨v11, hv11, hD⟩ := Option.bind_eq_some_iff.mp hD
      refine k_ldL rfl rfl hv11 ?_
      refine k_runB (pc' := 40) (loc' := [(0, .ref 40960), (1, .int x1), (2, .int x2), (3, .int x3)]) (st' := [.int x2, .ref 40966, .long (v11)]) 3 rfl ?_
      obtain ⟨v12, hv12, hD⟩ := Option.bind_eq_some_iff.mp hD
      refine k_ldL rfl rfl hv12 ?_
      refine k_runB (pc' := 42) (loc' := [(0, .ref 40960), (1, .int x1), (2, .int x2), (3, .int x3)]) (st' := [.int (lg_cmp v11 v12)]) 1 rfl ?_
      refine k_if rfl (fun c42_12 => ?_) (fun c42_12 => ?_)
      · rw [c42_12, cond_true] at hD
        refine k_wk [0, 1, 2, 3] (loc' := [(0, .ref 40960), (1, .int x1), (2, .int x2), (3, .int x3)]) rfl rfl ?_
        exact t_d_known_62 ht hK21 hD
      · rw [c42_12, cond_false] at hD
        refine k_runB (pc' := 50) (loc' := [(0, .ref 40960), (1, .int x1), (2, .int x2), (3, .int x3)]) (st' := [.int x3, .ref 40969]) 3 rfl ?_
        obtain ⟨v14, hv14, hD⟩ := Option.bind_eq_some_iff.mp hD
        refine k_ldI rfl rfl hv14 ?_
        refine k_runB (pc' := 52) (loc' := [(0, .ref 40960), (1, .int x1), (2, .int x2), (3, .int x3)]) (st' := [.int x1, .int v14]) 1 rfl ?_
        refine k_ic rfl (fun c52_14 => ?_) (fun c52_14 => ?_)
        · rw [c52_14, cond_true] at hD
          refine k_wk [0, 1, 2, 3] (loc' := [(0, .ref 40960), (1, .int x1), (2, .int x2), (3, .int x3)]) rfl rfl ?_
          exact t_d_known_62 ht hK21 hD
        · rw [c52_14, cond_false] at hD
          refine k_runB (pc' := 60) (loc' := [(0, .ref 40960), (1, .int x1), (2, .int x2), (3, .int x3)]) (st' := [.int x3, .ref 40970]) 3 rfl ?_
          obtain ⟨v16, hv16, hD⟩ := Option.bind_eq_some_iff.mp hD
          refine k_ldI rfl rfl hv16 ?_
          cases hD
          exact k_iret rfl rfl
/-- SleepWorkModel.known(I)I -/
def d_known (n : Nat) (F : Nat → Int32) (A : Nat → Nat → Int32) (J : Nat → Nat → Int64) (x1 : Int32) : Option (Int32 × (Nat → Int32) × (Nat → Nat → Int32) × (Nat → Nat → Int64)) :=
  (d_must F A J 1).bind fun (_, F2, A3, J4) =>
  cond (g_cnd .le (F2 13) 0)
  (d_known_21 n F2 A3 J4 x1 (F 11) 0)
  (some ((-1), F2, A3, J4))
theorem t_d_known (ht : ∀ k, t.1 12 k = k_ty 12 k) {n : Nat} {x1 : Int32} {r : Int32} {F' : Nat → Int32} {A' : Nat → Nat → Int32} {J' : Nat → Nat → Int64} : d_known n F A J x1 = some (r, F', A', J') → k_run t lg (d + 3) 162 0 [(0, .ref 40960), (1, .int x1)] [] (m_h c B F A J) (some (.int r), m_h c B F' A' J') := by
  intro hD
  unfold d_known at hD
  refine k_runB (pc' := 7) (loc' := [(0, .ref 40960), (1, .int x1), (2, .int (F 11))]) (st' := [.int 1, .ref 40960]) 5 rfl ?_
  obtain ⟨⟨v1, F2, A3, J4⟩, hv1, hD⟩ := Option.bind_eq_some_iff.mp hD
  dsimp only at hD
  refine k_runC rfl rfl rfl rfl (t_d_must (d := d) ht hv1) ?_
  refine k_runB (pc' := 14) (loc' := [(0, .ref 40960), (1, .int x1), (2, .int (F 11))]) (st' := [.int (F2 13)]) 2 rfl ?_
  refine k_if rfl (fun c14_4 => ?_) (fun c14_4 => ?_)
  · rw [c14_4, cond_true] at hD
    refine k_runB (pc' := 21) (loc' := [(0, .ref 40960), (1, .int x1), (2, .int (F 11)), (3, .int 0)]) (st' := []) 2 rfl ?_
    refine k_wk [0, 1, 2, 3] (loc' := [(0, .ref 40960), (1, .int x1), (2, .int (F 11)), (3, .int 0)]) rfl rfl ?_
    exact t_d_known_21 ht  hD
  · rw [c14_4, cond_false] at hD
    refine k_runB (pc' := 18) (loc' := [(0, .ref 40960), (1, .int x1), (2, .int (F 11))]) (st' := [.int ((-1))]) 1 rfl ?_
    cases hD
    exact k_iret rfl rfl
def d_bounded_51 (F : Nat → Int32) (A : Nat → Nat → Int32) (J : Nat → Nat → Int64) (x3 : Int32) : Option (Int32 × (Nat → Int32) × (Nat → Nat → Int32) × (Nat → Nat → Int64)) :=
    (d_goesOn F A J).bind fun (_, F20, A21, J22) =>
    some (x3, F20, A21, J22)
theorem t_d_bounded_51 (ht : ∀ k, t.1 12 k = k_ty 12 k)  {F : Nat → Int32} {A : Nat → Nat → Int32} {J : Nat → Nat → Int64} {x3 : Int32} {w : Int32 × (Nat → Int32) × (Nat → Nat → Int32) × (Nat → Nat → Int64)} : d_bounded_51 F A J x3 = some w → k_run t lg (d + 2) 163 51 [(0, .ref 40960), (3, .int x3)] [] (m_h c B F A J) (some (.int w.1), m_h c B w.2.1 w.2.2.1 w.2.2.2) := by
  intro hD
  unfold d_bounded_51 at hD
  refine k_runB (pc' := 52) (loc' := [(0, .ref 40960), (3, .int x3)]) (st' := [.ref 40960]) 1 rfl ?_
  obtain ⟨⟨v19, F20, A21, J22⟩, hv19, hD⟩ := Option.bind_eq_some_iff.mp hD
  dsimp only at hD
  refine k_runC rfl rfl rfl rfl (t_d_goesOn (d := d) ht hv19) ?_
  refine k_runB (pc' := 56) (loc' := [(0, .ref 40960), (3, .int x3)]) (st' := [.int x3]) 1 rfl ?_
  cases hD
  exact k_iret rfl rfl
def d_bounded_42 (F : Nat → Int32) (A : Nat → Nat → Int32) (J : Nat → Nat → Int64) (x3 : Int32) : Option (Int32 × (Nat → Int32) × (Nat → Nat → Int32) × (Nat → Nat → Int64)) :=
    (d_wrong F A J 5 (F 11)).bind fun (_, F12, A13, J14) =>
    (d_goesOn F12 A13 J14).bind fun (_, F16, A17, J18) =>
    some (x3, F16, A17, J18)
theorem t_d_bounded_42 (ht : ∀ k, t.1 12 k = k_ty 12 k)  {F : Nat → Int32} {A : Nat → Nat → Int32} {J : Nat → Nat → Int64} {x3 : Int32} {w : Int32 × (Nat → Int32) × (Nat → Nat → Int32) × (Nat → Nat → Int64)} : d_bounded_42 F A J x3 = some w → k_run t lg (d + 2) 163 42 [(0, .ref 40960), (3, .int x3)] [] (m_h c B F A J) (some (.int w.1), m_h c B w.2.1 w.2.2.1 w.2.2.2) := by
  intro hD
  unfold d_bounded_42 at hD
  refine k_runB (pc' := 48) (loc' := [(0, .ref 40960), (3, .int x3)]) (st' := [.int (F 11), .int 5, .ref 40960]) 4 rfl ?_
  obtain ⟨⟨v11, F12, A13, J14⟩, hv11, hD⟩ := Option.bind_eq_some_iff.mp hD
  dsimp only at hD
  refine k_runC rfl rfl rfl rfl (t_d_wrong (d := d + 1) ht hv11) ?_
  refine k_runB (pc' := 52) (loc' := [(0, .ref 40960), (3, .int x3)]) (st' := [.ref 40960]) 1 rfl ?_
  obtain ⟨⟨v15, F16, A17, J18⟩, hv15, hD⟩ := Option.bind_eq_some_iff.mp hD
  dsimp only at hD
  refine k_runC rfl rfl rfl rfl (t_d_goesOn (d := d) ht hv15) ?_
  refine k_runB (pc' := 56) (loc' := [(0, .ref 40960), (3, .int x3)]) (st' := [.int x3]) 1 rfl ?_
  cases hD
  exact k_iret rfl rfl
def d_bounded_15 (F : Nat → Int32) (A : Nat → Nat → Int32) (J : Nat → Nat → Int64) (x1 : Int32) : Option (Int32 × (Nat → Int32) × (Nat → Nat → Int32) × (Nat → Nat → Int64)) :=
    (d_fail F A J 1).bind fun (_, F8, A9, J10) =>
    some (x1, F8, A9, J10)
theorem t_d_bounded_15 (ht : ∀ k, t.1 12 k = k_ty 12 k)  {F : Nat → Int32} {A : Nat → Nat → Int32} {J : Nat → Nat → Int64} {x1 : Int32} {w : Int32 × (Nat → Int32) × (Nat → Nat → Int32) × (Nat → Nat → Int64)} : d_bounded_15 F A J x1 = some w → k_run t lg (d + 2) 163 15 [(0, .ref 40960), (1, .int x1)] [] (m_h c B F A J) (some (.int w.1), m_h c B w.2.1 w.2.2.1 w.2.2.2) := by
  intro hD
  unfold d_bounded_15 at hD
  refine k_runB (pc' := 17) (loc' := [(0, .ref 40960), (1, .int x1)]) (st' := [.int 1, .ref 40960]) 2 rfl ?_
  obtain ⟨⟨v7, F8, A9, J10⟩, hv7, hD⟩ := Option.bind_eq_some_iff.mp hD
  dsimp only at hD
  refine k_runC rfl rfl rfl rfl (t_d_fail (d := d + 1) ht hv7) ?_
  refine k_runB (pc' := 21) (loc' := [(0, .ref 40960), (1, .int x1)]) (st' := [.int x1]) 1 rfl ?_
  cases hD
  exact k_iret rfl rfl
/-- SleepWorkModel.bounded(II)I -/
def d_bounded (F : Nat → Int32) (A : Nat → Nat → Int32) (J : Nat → Nat → Int64) (x1 : Int32) (x2 : Int32) : Option (Int32 × (Nat → Int32) × (Nat → Nat → Int32) × (Nat → Nat → Int64)) :=
  cond (g_cnd .gt (F 13) 0)
  (d_bounded_15 F A J x1)
  ((d_is F A J 2).bind fun v2 =>
  cond (g_cnd .ne v2 0)
  ((m_ld (A 5) 403 (F 11)).bind fun v4 =>
  cond (g_cnd .lt v4 x1)
  (d_bounded_42 F A J v4)
  (cond (g_cnd .le v4 x2)
  (d_bounded_51 F A J v4)
  (d_bounded_42 F A J v4)))
  (d_bounded_15 F A J x1))
theorem t_d_bounded (ht : ∀ k, t.1 12 k = k_ty 12 k) {x1 : Int32} {x2 : Int32} {r : Int32} {F' : Nat → Int32} {A' : Nat → Nat → Int32} {J' : Nat → Nat → Int64} : d_bounded F A J x1 x2 = some (r, F', A', J') → k_run t lg (d + 2) 163 0 [(0, .ref 40960), (1, .int x1), (2, .int x2)] [] (m_h c B F A J) (some (.int r), m_h c B F' A' J') := by
  intro hD
  unfold d_bounded at hD
  refine k_runB (pc' := 4) (loc' := [(0, .ref 40960), (1, .int x1), (2, .int x2)]) (st' := [.int (F 13)]) 2 rfl ?_
  refine k_if rfl (fun c4_0 => ?_) (fun c4_0 => ?_)
  · rw [c4_0, cond_true] at hD
    refine k_wk [0, 1] (loc' := [(0, .ref 40960), (1, .int x1)]) rfl rfl ?_
    exact t_d_bounded_15 ht  hD
  · rw [c4_0, cond_false] at hD
    refine k_runB (pc' := 9) (loc' := [(0, .ref 40960), (1, .int x1), (2, .int x2)]) (st' := [.int 2, .ref 40960]) 2 rfl ?_
    obtain ⟨v2, hv2, hD⟩ := Option.bind_eq_some_iff.mp hD
    refine k_runC rfl rfl rfl rfl (t_d_is (d := d + 1) hv2) ?_
    refine k_if rfl (fun c12_2 => ?_) (fun c12_2 => ?_)
    · rw [c12_2, cond_true] at hD
      refine k_runB (pc' := 30) (loc' := [(0, .ref 40960), (1, .int x1), (2, .int x2)]) (st' := [.int (F 11), .ref 40965]) 4 rfl ?_
      obtain ⟨v4, hv4, hD⟩ := Option.bind_eq_some_iff.mp hD
      refine k_ldI rfl rfl hv4 ?_
      refine k_runB (pc' := 34) (loc' := [(0, .ref 40960), (1, .int x1), (2, .int x2), (3, .int v4)]) (st' := [.int x1, .int v4]) 3 rfl ?_
      refine k_ic rfl (fun c34_4 => ?_) (fun c34_4 => ?_)
      · rw [c34_4, cond_true] at hD
        refine k_wk [0, 3] (loc' := [(0, .ref 40960), (3, .int v4)]) rfl rfl ?_
        exact t_d_bounded_42 ht  hD
      · rw [c34_4, cond_false] at hD
        refine k_runB (pc' := 39) (loc' := [(0, .ref 40960), (1, .int x1), (2, .int x2), (3, .int v4)]) (st' := [.int x2, .int v4]) 2 rfl ?_
        refine k_ic rfl (fun c39_5 => ?_) (fun c39_5 => ?_)
        · rw [c39_5, cond_true] at hD
          refine k_wk [0, 3] (loc' := [(0, .ref 40960), (3, .int v4)]) rfl rfl ?_
          exact t_d_bounded_51 ht  hD
        · rw [c39_5, cond_false] at hD
          refine k_wk [0, 3] (loc' := [(0, .ref 40960), (3, .int v4)]) rfl rfl ?_
          exact t_d_bounded_42 ht  hD
    · rw [c12_2, cond_false] at hD
      refine k_wk [0, 1] (loc' := [(0, .ref 40960), (1, .int x1)]) rfl rfl ?_
      exact t_d_bounded_15 ht  hD
end MD
